/-! the model reads a term -/
abbrev tw_ : List Nat := [41943696, 42205840, 42467984]
abbrev tj_ : List Nat := [50, 51, 52, 53, 54, 55, 59]
def TA_ (B : Nat → Int32) (N : Nat) (L : List Trm_) (y : AH) : Prop := hI_ y 33554440 59 = Int32.ofNat L.length ∧ L.length ≤ 10 ∧ ∀ i, i < L.length → hI_ y 41943696 i = Int32.ofNat (L.getD i dT_).1 ∧ hI_ y 42205840 i = (L.getD i dT_).2.1 ∧ hI_ y 42467984 i = Int32.ofNat (enk_ B N (ps_ B N (L.getD i dT_).2.2.2))
def TS_ (h : AH) (B : Nat → Int32) (N k : Nat) (L : List Trm_) (y : AH) : Prop := FM_ tw_ tj_ h y ∧ NR_ B N (ps_ B N k) (hI_ y 33554440) ∧ hI_ y 33554440 54 = 0 ∧ TA_ B N L y
def TQ_ (V : (OU_ → AH → Prop) → Prop) (h : AH) (B : Nat → Int32) (N : Nat) (L : List Trm_) (res : (Nat × Nat) ⊕ (Trm_ × Nat)) : Prop := match res with
  | .inl (c, k1) => ∃ y', FM_ tw_ tj_ h y' ∧ hI_ y' 33554440 54 = Int32.ofNat c ∧ hI_ y' 33554440 55 = Int32.ofNat (ps_ B N k1) ∧ (c = 1 ∨ c = 2) ∧ ∀ Q, V Q ↔ Q (some none) y'
  | .inr (t, k1) => ∃ y', TS_ h B N k1 (L ++ [t]) y' ∧ ∀ Q, V Q ↔ Q (some none) y'
theorem TQ_.tr {V V' : (OU_ → AH → Prop) → Prop} {h : AH} {B : Nat → Int32} {N : Nat} {L : List Trm_} {res : (Nat × Nat) ⊕ (Trm_ × Nat)} (hh : ∀ Q, V Q ↔ V' Q) (H : TQ_ V' h B N L res) : TQ_ V h B N L res := by
  cases res with
  | inl x => obtain ⟨c, k1⟩ := x; obtain ⟨x', a1, a2, a3, a4, a5⟩ := H; exact ⟨x', a1, a2, a3, a4, fun Q => (hh Q).trans (a5 Q)⟩
  | inr x => obtain ⟨e, k1⟩ := x; obtain ⟨x', a1, a2⟩ := H; exact ⟨x', a1, fun Q => (hh Q).trans (a2 Q)⟩
section MTM
variable {xs : Nat → Int32} {d : Nat} {h y : AH} {B : Nat → Int32} {N k : Nat} {L : List Trm_} {r : Nat → Int32}
theorem FM_.rl {x0 : AH} (f : FM_ tw_ tj_ h x0) (hr : RL_ x0 r) : FM_ tw_ tj_ h (uI_ x0 33554440 r) := by
  obtain ⟨f1, f2, f3, f4, f5, f6⟩ := f
  refine ⟨f1, f2, f3, f4, fun a h1 h2 => ?_, fun j hj => ?_⟩
  · rw [hI_uI, if_neg h1]; exact f5 a h1 h2
  · rw [hI_uI, if_pos rfl, hr j (fun z => hj (by revert z; simp only [List.mem_cons, List.not_mem_nil, or_false]; omega))]; exact f6 j hj
theorem tape_rw (hR : RW_ B N 40683537 h) (f : FM_ tw_ tj_ h y) : RW_ B N 40683537 y := by
  obtain ⟨⟨h1, h2⟩, h3, h4, h5⟩ := hR
  exact ⟨⟨h1, fun i hi => by rw [f.row _ (by decide) (by decide)]; exact h2 i hi⟩, by rw [f.2.1]; exact h3, by rw [f.fld 49 (by decide)]; exact h4, h5⟩
theorem m_termBody {w j : Nat} {am : Int32} {v1 : AV} (hR : RW_ B N 40683537 h) (hM : MS_ h) (h56 : hI_ h 33554440 56 = 1) (hf : FM_ tw_ tj_ h y) (hn : NR_ B N (ps_ B N j) (hI_ y 33554440)) (h54 : hI_ y 33554440 54 = 0) (hT : TA_ B N L y) (hl : L.length < 10) (hj : j ≤ N) (hk : hI_ y 41943696 L.length = Int32.ofNat w) (ha : hI_ y 42205840 L.length = am) (hd : 37 ≤ d) : TQ_ (fun Q => V_ xs d 165 103 [vA (some 33554440), v1] [] y Q) h B N L (ptb_ (stk_ B N) (vlk_ B N) w am j) := by
  have hMy : MS_ y := hf.MS hM
  have hRy := tape_rw hR hf
  have hN8 := hR.1.1
  obtain ⟨t1, t2, t3⟩ := id hT
  have n3 : hI_ y 33554440 52 = Int32.ofNat (stk_ B N j) := hn.2.2.1
  have n50 := hn.1
  have hls := stk_lt (B := B) (N := N) (k := j)
  have teq : Int32.ofNat (stk_ B N j) = 14 ↔ stk_ B N j = 14 := w_eq (b := 14) (by omega) (by omega)
  have Zy : MZ_ B N y j (hI_ y 33554440) := ⟨hn, h54, fun _ _ => rfl⟩
  have hs1 := w_s1 (a := L.length)
  unfold ptb_
  by_cases q : stk_ B N j = 14
  · rw [if_pos q]
    have t14 := teq.mpr q
    have hj1 : j + 1 ≤ N := by
      rcases Nat.lt_or_ge j N with z | z
      · exact z
      · rw [stk_0 j z] at q; cases q
    -- the beginning is kept
    obtain ⟨y3, hy3⟩ : ∃ y3, y3 = uI_ y 42467984 (st_ (hI_ y 42467984) L.length (Int32.ofNat (enk_ B N (ps_ B N j)))) := ⟨_, rfl⟩
    have hf3 : FM_ tw_ tj_ h y3 := by rw [hy3]; exact hf.uW (by decide) (by decide)
    have eM : hI_ y3 33554440 = hI_ y 33554440 := by rw [hy3]; simp only [hI_uI, hL_uI, hR_uI, nx_uI, sl_uI, hI_uL, hL_uL, hR_uL, nx_uL, sl_uL, hI_uR, hL_uR, hR_uR, nx_uR, sl_uR, st_eq, if_true, if_false, eq_self, Nat.reduceEqDiff, Nat.reduceMul, reduceIte, kdT, ixT, w_cl, w_ti, w_s1, w_a, w_m12, w_m8, w_m3, w_m4]
    have hM3 : MS_ y3 := hf3.MS hM
    have hR3 := tape_rw hR hf3
    have Z3 : MZ_ B N y3 j (hI_ y3 33554440) := ⟨by rw [eM]; exact hn, by rw [eM]; exact h54, fun _ _ => rfl⟩
    have hB3 : HB_ xs B N 40683537 y3 true (fun _ => 0) := ⟨hR3, hM3, by rw [hf3.fld 56 (by decide)]; exact h56, fun z => by cases z⟩
    obtain ⟨r1, a1, a2⟩ := m_next (xs := xs) (d := d - 1) hR3 Z3 (by omega)
    rw [uI_self] at a2
    have hE := m_expr (xs := xs) (d := d - 1) (k := j + 1) hB3 (by omega) hj1 a1
    have way : ∀ Q, V_ xs d 165 103 [vA (some 33554440), v1] [] y Q ↔ V_ xs d 165 149 [vA (some 33554440), v1] [] (uI_ y3 33554440 r1) Q := by
      intro Q
      rw [hy3] at a2 ⊢
      rw [s165_103]
      simp (disch := first | omega | assumption | decide | (apply bT_; decide)) only [s165_0, s165_1, s165_4, s165_6, s165_9, s165_10, s165_13, s165_15, s165_18, s165_19, s165_20, s165_23, s165_24, s165_25, s165_28, s165_30, s165_33, s165_34, s165_35, s165_38, s165_39, s165_40, s165_43, s165_44, s165_47, s165_48, s165_51, s165_52, s165_53, s165_56, s165_57, s165_60, s165_61, s165_62, s165_63, s165_66, s165_68, s165_71, s165_72, s165_75, s165_76, s165_77, s165_78, s165_81, s165_82, s165_85, s165_86, s165_89, s165_90, s165_93, s165_94, s165_97, s165_98, s165_99, s165_100, s165_104, s165_107, s165_110, s165_111, s165_114, s165_116, s165_120, s165_121, s165_124, s165_125, s165_128, s165_132, s165_133, s165_136, s165_137, s165_140, s165_141, s165_144, s165_145, s165_146, s165_150, s165_151, s165_154, s165_154i, s165_155, s165_156, s165_158, s165_161, s165_162, s165_162i, s165_163, s165_166, s165_167, s165_168, s165_171, K_v, K_0, acI, acA, acJ, acX, List.map_cons, List.map_nil, List.sum_cons, List.sum_nil, true_and, and_true, posT, b2_0, b2_1, bft, true_or, or_true, Nat.zero_le, Nat.reduceAdd, Nat.reduceLeDiff, hI_uI, hL_uI, hR_uI, nx_uI, sl_uI, hI_uL, hL_uL, hR_uL, nx_uL, sl_uL, hI_uR, hL_uR, hR_uR, nx_uR, sl_uR, st_eq, if_true, if_false, eq_self, Nat.reduceEqDiff, Nat.reduceMul, reduceIte, kdT, ixT, w_cl, w_ti, w_s1, w_a, w_m12, w_m8, w_m3, w_m4, hMy.r2, hMy.r3, hMy.r4, hMy.r5, hMy.r6, hMy.r7, hMy.r9, hMy.r10, hMy.r11, hMy.r12, hMy.r13, hMy.r14, hMy.r15, hMy.r16, hMy.r17, hMy.r18, hMy.r20, hMy.r21, hMy.r23, hMy.r29, hMy.r30, hMy.r35, hMy.r36, hMy.r37, hMy.r38, hMy.r40, hMy.r42, hMy.r43, hMy.r44, hMy.r45, hMy.r46, hMy.r47, h54, n3, if_pos t14, t1, n50, a2, kd_M, ln_M, kd_mNBegins, ln_mNBegins]
    refine TQ_.tr way ?_
    -- the number of terms
    have fin : ∀ (r' : Nat → Int32), RL_ y3 r' → FM_ tw_ tj_ h (uI_ y3 33554440 (st_ r' 59 (Int32.ofNat (L.length + 1)))) := by
      intro r' hr'
      have := (hf3.rl hr').uM (j := 59) (v := Int32.ofNat (L.length + 1)) (by decide)
      simp only [hI_uI, hL_uI, hR_uI, nx_uI, sl_uI, hI_uL, hL_uL, hR_uL, nx_uL, sl_uL, hI_uR, hL_uR, hR_uR, nx_uR, sl_uR, st_eq, if_true, if_false, eq_self, Nat.reduceEqDiff, Nat.reduceMul, reduceIte, kdT, ixT, w_cl, w_ti, w_s1, w_a, w_m12, w_m8, w_m3, w_m4, uI_uI] at this
      exact this
    have e59 : ∀ (r' : Nat → Int32), RL_ y3 r' → r' 59 = Int32.ofNat L.length := fun r' hr' => by rw [hr' 59 (by decide), eM]; exact t1
    cases hr : pE_ (stk_ B N) (vlk_ B N) 8 (j + 1) with
    | inl z =>
      obtain ⟨c, k1⟩ := z
      rw [hr] at hE
      obtain ⟨r2, v, b1, b2⟩ := hE
      dsimp only at b2
      have hwf := m_wantsF (xs := xs) (d := d - 1) (s := 6) b1
      have hwf' : ∀ Q : OU_ → AH → Prop, V_ xs (d - 1) 157 0 [vA (some 33554440), vI 6] [] (uI_ y3 33554440 r2) Q ↔ Q (some none) (uI_ y3 33554440 r2) := hwf
      have e := e59 r2 b1.2.2.2
      refine ⟨uI_ y3 33554440 (st_ r2 59 (Int32.ofNat (L.length + 1))), fin r2 b1.2.2.2, by simp only [hI_uI, hL_uI, hR_uI, nx_uI, sl_uI, hI_uL, hL_uL, hR_uL, nx_uL, sl_uL, hI_uR, hL_uR, hR_uR, nx_uR, sl_uR, st_eq, if_true, if_false, eq_self, Nat.reduceEqDiff, Nat.reduceMul, reduceIte, kdT, ixT, w_cl, w_ti, w_s1, w_a, w_m12, w_m8, w_m3, w_m4]; exact b1.1, by simp only [hI_uI, hL_uI, hR_uI, nx_uI, sl_uI, hI_uL, hL_uL, hR_uL, nx_uL, sl_uL, hI_uR, hL_uR, hR_uR, nx_uR, sl_uR, st_eq, if_true, if_false, eq_self, Nat.reduceEqDiff, Nat.reduceMul, reduceIte, kdT, ixT, w_cl, w_ti, w_s1, w_a, w_m12, w_m8, w_m3, w_m4]; exact b1.2.1, b1.2.2.1, fun Q => ?_⟩
      rw [s165_149]
      simp (disch := first | omega | assumption | decide | (apply bT_; decide)) only [s165_0, s165_1, s165_4, s165_6, s165_9, s165_10, s165_13, s165_15, s165_18, s165_19, s165_20, s165_23, s165_24, s165_25, s165_28, s165_30, s165_33, s165_34, s165_35, s165_38, s165_39, s165_40, s165_43, s165_44, s165_47, s165_48, s165_51, s165_52, s165_53, s165_56, s165_57, s165_60, s165_61, s165_62, s165_63, s165_66, s165_68, s165_71, s165_72, s165_75, s165_76, s165_77, s165_78, s165_81, s165_82, s165_85, s165_86, s165_89, s165_90, s165_93, s165_94, s165_97, s165_98, s165_99, s165_100, s165_103, s165_104, s165_107, s165_110, s165_111, s165_114, s165_116, s165_119, s165_120, s165_121, s165_124, s165_125, s165_128, s165_131, s165_132, s165_133, s165_136, s165_137, s165_140, s165_141, s165_144, s165_145, s165_146, s165_150, s165_151, s165_154, s165_154i, s165_155, s165_156, s165_158, s165_161, s165_162, s165_162i, s165_163, s165_166, s165_167, s165_168, s165_171, K_v, K_0, acI, acA, acJ, acX, List.map_cons, List.map_nil, List.sum_cons, List.sum_nil, true_and, and_true, posT, b2_0, b2_1, bft, true_or, or_true, Nat.zero_le, Nat.reduceAdd, Nat.reduceLeDiff, hI_uI, hL_uI, hR_uI, nx_uI, sl_uI, hI_uL, hL_uL, hR_uL, nx_uL, sl_uL, hI_uR, hL_uR, hR_uR, nx_uR, sl_uR, st_eq, if_true, if_false, eq_self, Nat.reduceEqDiff, Nat.reduceMul, reduceIte, kdT, ixT, w_cl, w_ti, w_s1, w_a, w_m12, w_m8, w_m3, w_m4, b2, hwf', e, uI_uI, kd_M, ln_M]
    | inr z =>
      obtain ⟨e, k1⟩ := z
      rw [hr] at hE
      obtain ⟨r2, v, b1, -, b2⟩ := hE
      dsimp only at b2
      have hw := m_wants (xs := xs) (d := d - 1) (s := 6) (by decide) hR3 b1 (by omega)
      dsimp only
      by_cases q3 : stk_ B N k1 = 6
      · rw [if_pos q3]
        obtain ⟨r3, c1, c2⟩ := hw.1 q3
        have c2' : ∀ Q : OU_ → AH → Prop, V_ xs (d - 1) 157 0 [vA (some 33554440), vI 6] [] (uI_ y3 33554440 r2) Q ↔ Q (some none) (uI_ y3 33554440 r3) := c2
        have e' := e59 r3 c1.2.2
        have hll : (L ++ [(w, am, e, j)]).length = L.length + 1 := by rw [List.length_append]; rfl
        obtain ⟨⟨m1, m2, m3, m4⟩, m5, m6⟩ := c1
        refine ⟨uI_ y3 33554440 (st_ r3 59 (Int32.ofNat (L.length + 1))), ⟨fin r3 m6, ⟨by simp only [hI_uI, hL_uI, hR_uI, nx_uI, sl_uI, hI_uL, hL_uL, hR_uL, nx_uL, sl_uL, hI_uR, hL_uR, hR_uR, nx_uR, sl_uR, st_eq, if_true, if_false, eq_self, Nat.reduceEqDiff, Nat.reduceMul, reduceIte, kdT, ixT, w_cl, w_ti, w_s1, w_a, w_m12, w_m8, w_m3, w_m4]; exact m1, by simp only [hI_uI, hL_uI, hR_uI, nx_uI, sl_uI, hI_uL, hL_uL, hR_uL, nx_uL, sl_uL, hI_uR, hL_uR, hR_uR, nx_uR, sl_uR, st_eq, if_true, if_false, eq_self, Nat.reduceEqDiff, Nat.reduceMul, reduceIte, kdT, ixT, w_cl, w_ti, w_s1, w_a, w_m12, w_m8, w_m3, w_m4]; exact m2, by simp only [hI_uI, hL_uI, hR_uI, nx_uI, sl_uI, hI_uL, hL_uL, hR_uL, nx_uL, sl_uL, hI_uR, hL_uR, hR_uR, nx_uR, sl_uR, st_eq, if_true, if_false, eq_self, Nat.reduceEqDiff, Nat.reduceMul, reduceIte, kdT, ixT, w_cl, w_ti, w_s1, w_a, w_m12, w_m8, w_m3, w_m4]; exact m3, fun z => by simp only [hI_uI, hL_uI, hR_uI, nx_uI, sl_uI, hI_uL, hL_uL, hR_uL, nx_uL, sl_uL, hI_uR, hL_uR, hR_uR, nx_uR, sl_uR, st_eq, if_true, if_false, eq_self, Nat.reduceEqDiff, Nat.reduceMul, reduceIte, kdT, ixT, w_cl, w_ti, w_s1, w_a, w_m12, w_m8, w_m3, w_m4]; exact m4 z⟩, by simp only [hI_uI, hL_uI, hR_uI, nx_uI, sl_uI, hI_uL, hL_uL, hR_uL, nx_uL, sl_uL, hI_uR, hL_uR, hR_uR, nx_uR, sl_uR, st_eq, if_true, if_false, eq_self, Nat.reduceEqDiff, Nat.reduceMul, reduceIte, kdT, ixT, w_cl, w_ti, w_s1, w_a, w_m12, w_m8, w_m3, w_m4]; exact m5, by simp only [hI_uI, hL_uI, hR_uI, nx_uI, sl_uI, hI_uL, hL_uL, hR_uL, nx_uL, sl_uL, hI_uR, hL_uR, hR_uR, nx_uR, sl_uR, st_eq, if_true, if_false, eq_self, Nat.reduceEqDiff, Nat.reduceMul, reduceIte, kdT, ixT, w_cl, w_ti, w_s1, w_a, w_m12, w_m8, w_m3, w_m4]; rw [hll], by omega, fun i hi => ?_⟩, fun Q => ?_⟩
        · rw [hll] at hi
          rw [hy3]
          simp only [hI_uI, hL_uI, hR_uI, nx_uI, sl_uI, hI_uL, hL_uL, hR_uL, nx_uL, sl_uL, hI_uR, hL_uR, hR_uR, nx_uR, sl_uR, st_eq, if_true, if_false, eq_self, Nat.reduceEqDiff, Nat.reduceMul, reduceIte, kdT, ixT, w_cl, w_ti, w_s1, w_a, w_m12, w_m8, w_m3, w_m4]
          by_cases qi : i = L.length
          · rw [if_pos qi, qi, gT_r, hk, ha]
            exact ⟨rfl, rfl, rfl⟩
          · rw [if_neg qi, gT_l (by omega)]
            exact t3 i (by omega)
        · rw [s165_149]
          simp (disch := first | omega | assumption | decide | (apply bT_; decide)) only [s165_0, s165_1, s165_4, s165_6, s165_9, s165_10, s165_13, s165_15, s165_18, s165_19, s165_20, s165_23, s165_24, s165_25, s165_28, s165_30, s165_33, s165_34, s165_35, s165_38, s165_39, s165_40, s165_43, s165_44, s165_47, s165_48, s165_51, s165_52, s165_53, s165_56, s165_57, s165_60, s165_61, s165_62, s165_63, s165_66, s165_68, s165_71, s165_72, s165_75, s165_76, s165_77, s165_78, s165_81, s165_82, s165_85, s165_86, s165_89, s165_90, s165_93, s165_94, s165_97, s165_98, s165_99, s165_100, s165_103, s165_104, s165_107, s165_110, s165_111, s165_114, s165_116, s165_119, s165_120, s165_121, s165_124, s165_125, s165_128, s165_131, s165_132, s165_133, s165_136, s165_137, s165_140, s165_141, s165_144, s165_145, s165_146, s165_150, s165_151, s165_154, s165_154i, s165_155, s165_156, s165_158, s165_161, s165_162, s165_162i, s165_163, s165_166, s165_167, s165_168, s165_171, K_v, K_0, acI, acA, acJ, acX, List.map_cons, List.map_nil, List.sum_cons, List.sum_nil, true_and, and_true, posT, b2_0, b2_1, bft, true_or, or_true, Nat.zero_le, Nat.reduceAdd, Nat.reduceLeDiff, hI_uI, hL_uI, hR_uI, nx_uI, sl_uI, hI_uL, hL_uL, hR_uL, nx_uL, sl_uL, hI_uR, hL_uR, hR_uR, nx_uR, sl_uR, st_eq, if_true, if_false, eq_self, Nat.reduceEqDiff, Nat.reduceMul, reduceIte, kdT, ixT, w_cl, w_ti, w_s1, w_a, w_m12, w_m8, w_m3, w_m4, b2, c2', e', uI_uI, kd_M, ln_M]
      · rw [if_neg q3]
        obtain ⟨r3, c1, c2⟩ := hw.2 q3
        have c2' : ∀ Q : OU_ → AH → Prop, V_ xs (d - 1) 157 0 [vA (some 33554440), vI 6] [] (uI_ y3 33554440 r2) Q ↔ Q (some none) (uI_ y3 33554440 r3) := c2
        have e' := e59 r3 c1.2.2.2
        refine ⟨uI_ y3 33554440 (st_ r3 59 (Int32.ofNat (L.length + 1))), fin r3 c1.2.2.2, by simp only [hI_uI, hL_uI, hR_uI, nx_uI, sl_uI, hI_uL, hL_uL, hR_uL, nx_uL, sl_uL, hI_uR, hL_uR, hR_uR, nx_uR, sl_uR, st_eq, if_true, if_false, eq_self, Nat.reduceEqDiff, Nat.reduceMul, reduceIte, kdT, ixT, w_cl, w_ti, w_s1, w_a, w_m12, w_m8, w_m3, w_m4]; exact c1.1, by simp only [hI_uI, hL_uI, hR_uI, nx_uI, sl_uI, hI_uL, hL_uL, hR_uL, nx_uL, sl_uL, hI_uR, hL_uR, hR_uR, nx_uR, sl_uR, st_eq, if_true, if_false, eq_self, Nat.reduceEqDiff, Nat.reduceMul, reduceIte, kdT, ixT, w_cl, w_ti, w_s1, w_a, w_m12, w_m8, w_m3, w_m4]; exact c1.2.1, c1.2.2.1, fun Q => ?_⟩
        rw [s165_149]
        simp (disch := first | omega | assumption | decide | (apply bT_; decide)) only [s165_0, s165_1, s165_4, s165_6, s165_9, s165_10, s165_13, s165_15, s165_18, s165_19, s165_20, s165_23, s165_24, s165_25, s165_28, s165_30, s165_33, s165_34, s165_35, s165_38, s165_39, s165_40, s165_43, s165_44, s165_47, s165_48, s165_51, s165_52, s165_53, s165_56, s165_57, s165_60, s165_61, s165_62, s165_63, s165_66, s165_68, s165_71, s165_72, s165_75, s165_76, s165_77, s165_78, s165_81, s165_82, s165_85, s165_86, s165_89, s165_90, s165_93, s165_94, s165_97, s165_98, s165_99, s165_100, s165_103, s165_104, s165_107, s165_110, s165_111, s165_114, s165_116, s165_119, s165_120, s165_121, s165_124, s165_125, s165_128, s165_131, s165_132, s165_133, s165_136, s165_137, s165_140, s165_141, s165_144, s165_145, s165_146, s165_150, s165_151, s165_154, s165_154i, s165_155, s165_156, s165_158, s165_161, s165_162, s165_162i, s165_163, s165_166, s165_167, s165_168, s165_171, K_v, K_0, acI, acA, acJ, acX, List.map_cons, List.map_nil, List.sum_cons, List.sum_nil, true_and, and_true, posT, b2_0, b2_1, bft, true_or, or_true, Nat.zero_le, Nat.reduceAdd, Nat.reduceLeDiff, hI_uI, hL_uI, hR_uI, nx_uI, sl_uI, hI_uL, hL_uL, hR_uL, nx_uL, sl_uL, hI_uR, hL_uR, hR_uR, nx_uR, sl_uR, st_eq, if_true, if_false, eq_self, Nat.reduceEqDiff, Nat.reduceMul, reduceIte, kdT, ixT, w_cl, w_ti, w_s1, w_a, w_m12, w_m8, w_m3, w_m4, b2, c2', e', uI_uI, kd_M, ln_M]
  · rw [if_neg q]
    have t14 : ¬ _ := fun z => q (teq.mp z)
    obtain ⟨r', b1, b2⟩ := m_fails (xs := xs) (d := d - 1) (w := 1) (Or.inl rfl) Zy
    rw [uI_self] at b2
    have b2' : ∀ Q : OU_ → AH → Prop, V_ xs (d - 1) 156 0 [vA (some 33554440), vI 1] [] y Q ↔ Q (some none) (uI_ y 33554440 r') := b2
    have f54 := b1.1
    have n0 : ¬ (Int32.ofNat 1 = 0) := by decide
    refine ⟨uI_ y 33554440 r', hf.rl b1.2.2.2, by simp only [hI_uI, hL_uI, hR_uI, nx_uI, sl_uI, hI_uL, hL_uL, hR_uL, nx_uL, sl_uL, hI_uR, hL_uR, hR_uR, nx_uR, sl_uR, st_eq, if_true, if_false, eq_self, Nat.reduceEqDiff, Nat.reduceMul, reduceIte, kdT, ixT, w_cl, w_ti, w_s1, w_a, w_m12, w_m8, w_m3, w_m4]; exact b1.1, by simp only [hI_uI, hL_uI, hR_uI, nx_uI, sl_uI, hI_uL, hL_uL, hR_uL, nx_uL, sl_uL, hI_uR, hL_uR, hR_uR, nx_uR, sl_uR, st_eq, if_true, if_false, eq_self, Nat.reduceEqDiff, Nat.reduceMul, reduceIte, kdT, ixT, w_cl, w_ti, w_s1, w_a, w_m12, w_m8, w_m3, w_m4]; exact b1.2.1, b1.2.2.1, fun Q => ?_⟩
    dsimp only
    rw [s165_103]
    simp (disch := first | omega | assumption | decide | (apply bT_; decide)) only [s165_0, s165_1, s165_4, s165_6, s165_9, s165_10, s165_13, s165_15, s165_18, s165_19, s165_20, s165_23, s165_24, s165_25, s165_28, s165_30, s165_33, s165_34, s165_35, s165_38, s165_39, s165_40, s165_43, s165_44, s165_47, s165_48, s165_51, s165_52, s165_53, s165_56, s165_57, s165_60, s165_61, s165_62, s165_63, s165_66, s165_68, s165_71, s165_72, s165_75, s165_76, s165_77, s165_78, s165_81, s165_82, s165_85, s165_86, s165_89, s165_90, s165_93, s165_94, s165_97, s165_98, s165_99, s165_100, s165_104, s165_107, s165_110, s165_111, s165_114, s165_116, s165_119, s165_120, s165_121, s165_124, s165_125, s165_128, s165_131, s165_133, s165_136, s165_137, s165_140, s165_141, s165_144, s165_145, s165_146, s165_149, s165_150, s165_151, s165_154, s165_154i, s165_155, s165_156, s165_158, s165_161, s165_162, s165_162i, s165_163, s165_166, s165_167, s165_168, s165_171, K_v, K_0, acI, acA, acJ, acX, List.map_cons, List.map_nil, List.sum_cons, List.sum_nil, true_and, and_true, posT, b2_0, b2_1, bft, true_or, or_true, Nat.zero_le, Nat.reduceAdd, Nat.reduceLeDiff, hI_uI, hL_uI, hR_uI, nx_uI, sl_uI, hI_uL, hL_uL, hR_uL, nx_uL, sl_uL, hI_uR, hL_uR, hR_uR, nx_uR, sl_uR, st_eq, if_true, if_false, eq_self, Nat.reduceEqDiff, Nat.reduceMul, reduceIte, kdT, ixT, w_cl, w_ti, w_s1, w_a, w_m12, w_m8, w_m3, w_m4, h54, n3, if_neg t14, b2', f54, n0, kd_M, ln_M]
theorem m_term (hR : RW_ B N 40683537 h) (hM : MS_ h) (h56 : hI_ h 33554440 56 = 1) (hk : k ≤ N) (H : TS_ h B N k L y) (hd : 37 ≤ d) : TQ_ (fun Q => V_ xs d 165 0 [vA (some 33554440), vX 0] [] y Q) h B N L (ptm_ (stk_ B N) (vlk_ B N) L.length k) := by
  obtain ⟨hf, hn, h54, hT⟩ := H
  have hMy : MS_ y := hf.MS hM
  have hRy := tape_rw hR hf
  have hN8 := hR.1.1
  obtain ⟨t1, t2, t3⟩ := id hT
  have n3 : hI_ y 33554440 52 = Int32.ofNat (stk_ B N k) := hn.2.2.1
  have hls := stk_lt (B := B) (N := N) (k := k)
  have k10 : ¬ ((1 : Int32) = 0) := by decide
  have Zy : MZ_ B N y k (hI_ y 33554440) := ⟨hn, h54, fun _ _ => rfl⟩
  unfold ptm_
  by_cases q : stk_ B N k < 10 ∨ 13 < stk_ B N k
  · rw [if_pos q]
    obtain ⟨r', b1, b2⟩ := m_fails (xs := xs) (d := d - 1) (w := 1) (Or.inl rfl) Zy
    rw [uI_self] at b2
    have b2' : ∀ Q : OU_ → AH → Prop, V_ xs (d - 1) 156 0 [vA (some 33554440), vI 1] [] y Q ↔ Q (some none) (uI_ y 33554440 r') := b2
    refine ⟨uI_ y 33554440 r', hf.rl b1.2.2.2, by simp only [hI_uI, hL_uI, hR_uI, nx_uI, sl_uI, hI_uL, hL_uL, hR_uL, nx_uL, sl_uL, hI_uR, hL_uR, hR_uR, nx_uR, sl_uR, st_eq, if_true, if_false, eq_self, Nat.reduceEqDiff, Nat.reduceMul, reduceIte, kdT, ixT, w_cl, w_ti, w_s1, w_a, w_m12, w_m8, w_m3, w_m4]; exact b1.1, by simp only [hI_uI, hL_uI, hR_uI, nx_uI, sl_uI, hI_uL, hL_uL, hR_uL, nx_uL, sl_uL, hI_uR, hL_uR, hR_uR, nx_uR, sl_uR, st_eq, if_true, if_false, eq_self, Nat.reduceEqDiff, Nat.reduceMul, reduceIte, kdT, ixT, w_cl, w_ti, w_s1, w_a, w_m12, w_m8, w_m3, w_m4]; exact b1.2.1, b1.2.2.1, fun Q => ?_⟩
    by_cases q1 : stk_ B N k < 10
    · have t10 : Int32.ofNat (stk_ B N k) < 10 := (w_lt (b := 10) (by omega) (by omega)).mpr q1
      simp (disch := first | omega | assumption | decide | (apply bT_; decide)) only [s165_0, s165_1, s165_4, s165_6, s165_10, s165_13, s165_15, s165_18, s165_19, s165_20, s165_23, s165_25, s165_28, s165_30, s165_33, s165_34, s165_35, s165_38, s165_39, s165_40, s165_43, s165_44, s165_47, s165_48, s165_51, s165_52, s165_53, s165_56, s165_57, s165_60, s165_61, s165_62, s165_63, s165_66, s165_68, s165_71, s165_72, s165_75, s165_76, s165_77, s165_78, s165_81, s165_82, s165_85, s165_86, s165_89, s165_90, s165_93, s165_94, s165_97, s165_98, s165_99, s165_100, s165_104, s165_107, s165_110, s165_111, s165_114, s165_116, s165_119, s165_120, s165_121, s165_124, s165_125, s165_128, s165_131, s165_132, s165_133, s165_136, s165_137, s165_140, s165_141, s165_144, s165_145, s165_146, s165_149, s165_150, s165_151, s165_154, s165_154i, s165_155, s165_156, s165_158, s165_161, s165_162, s165_162i, s165_163, s165_166, s165_167, s165_168, s165_171, K_v, K_0, acI, acA, acJ, acX, List.map_cons, List.map_nil, List.sum_cons, List.sum_nil, true_and, and_true, posT, b2_0, b2_1, bft, true_or, or_true, Nat.zero_le, Nat.reduceAdd, Nat.reduceLeDiff, hI_uI, hL_uI, hR_uI, nx_uI, sl_uI, hI_uL, hL_uL, hR_uL, nx_uL, sl_uL, hI_uR, hL_uR, hR_uR, nx_uR, sl_uR, st_eq, if_true, if_false, eq_self, Nat.reduceEqDiff, Nat.reduceMul, reduceIte, kdT, ixT, w_cl, w_ti, w_s1, w_a, w_m12, w_m8, w_m3, w_m4, n3, t10, b2', kd_M, ln_M]
    · have t10 : ¬ (Int32.ofNat (stk_ B N k) < 10) := fun z => q1 ((w_lt (b := 10) (by omega) (by omega)).mp z)
      have t13 : (13 : Int32) < Int32.ofNat (stk_ B N k) := (w_lt (a := 13) (by omega) (by omega)).mpr (by omega)
      simp (disch := first | omega | assumption | decide | (apply bT_; decide)) only [s165_0, s165_1, s165_4, s165_6, s165_9, s165_10, s165_13, s165_15, s165_18, s165_19, s165_20, s165_23, s165_25, s165_28, s165_30, s165_33, s165_34, s165_35, s165_38, s165_39, s165_40, s165_43, s165_44, s165_47, s165_48, s165_51, s165_52, s165_53, s165_56, s165_57, s165_60, s165_61, s165_62, s165_63, s165_66, s165_68, s165_71, s165_72, s165_75, s165_76, s165_77, s165_78, s165_81, s165_82, s165_85, s165_86, s165_89, s165_90, s165_93, s165_94, s165_97, s165_98, s165_99, s165_100, s165_104, s165_107, s165_110, s165_111, s165_114, s165_116, s165_119, s165_120, s165_121, s165_124, s165_125, s165_128, s165_131, s165_132, s165_133, s165_136, s165_137, s165_140, s165_141, s165_144, s165_145, s165_146, s165_149, s165_150, s165_151, s165_154, s165_154i, s165_155, s165_156, s165_158, s165_161, s165_162, s165_162i, s165_163, s165_166, s165_167, s165_168, s165_171, K_v, K_0, acI, acA, acJ, acX, List.map_cons, List.map_nil, List.sum_cons, List.sum_nil, true_and, and_true, posT, b2_0, b2_1, bft, true_or, or_true, Nat.zero_le, Nat.reduceAdd, Nat.reduceLeDiff, hI_uI, hL_uI, hR_uI, nx_uI, sl_uI, hI_uL, hL_uL, hR_uL, nx_uL, sl_uL, hI_uR, hL_uR, hR_uR, nx_uR, sl_uR, st_eq, if_true, if_false, eq_self, Nat.reduceEqDiff, Nat.reduceMul, reduceIte, kdT, ixT, w_cl, w_ti, w_s1, w_a, w_m12, w_m8, w_m3, w_m4, n3, t10, t13, b2', kd_M, ln_M]
  · rw [if_neg q]
    have t10 : ¬ (Int32.ofNat (stk_ B N k) < 10) := fun z => q (Or.inl ((w_lt (b := 10) (by omega) (by omega)).mp z))
    have t13 : ¬ ((13 : Int32) < Int32.ofNat (stk_ B N k)) := fun z => q (Or.inr ((w_lt (a := 13) (by omega) (by omega)).mp z))
    have hk1 : k + 1 ≤ N := by
      rcases Nat.lt_or_ge k N with z | z
      · exact z
      · rw [stk_0 k z] at q; exact absurd (Or.inl (by decide)) q
    by_cases qc : L.length = 10
    · rw [if_pos qc]
      have t59 : Int32.ofNat L.length = 10 := by rw [qc]; rfl
      obtain ⟨r', b1, b2⟩ := m_fails (xs := xs) (d := d - 1) (w := 2) (Or.inr rfl) Zy
      rw [uI_self] at b2
      have b2' : ∀ Q : OU_ → AH → Prop, V_ xs (d - 1) 156 0 [vA (some 33554440), vI 2] [] y Q ↔ Q (some none) (uI_ y 33554440 r') := b2
      refine ⟨uI_ y 33554440 r', hf.rl b1.2.2.2, by simp only [hI_uI, hL_uI, hR_uI, nx_uI, sl_uI, hI_uL, hL_uL, hR_uL, nx_uL, sl_uL, hI_uR, hL_uR, hR_uR, nx_uR, sl_uR, st_eq, if_true, if_false, eq_self, Nat.reduceEqDiff, Nat.reduceMul, reduceIte, kdT, ixT, w_cl, w_ti, w_s1, w_a, w_m12, w_m8, w_m3, w_m4]; exact b1.1, by simp only [hI_uI, hL_uI, hR_uI, nx_uI, sl_uI, hI_uL, hL_uL, hR_uL, nx_uL, sl_uL, hI_uR, hL_uR, hR_uR, nx_uR, sl_uR, st_eq, if_true, if_false, eq_self, Nat.reduceEqDiff, Nat.reduceMul, reduceIte, kdT, ixT, w_cl, w_ti, w_s1, w_a, w_m12, w_m8, w_m3, w_m4]; exact b1.2.1, b1.2.2.1, fun Q => ?_⟩
      simp (disch := first | omega | assumption | decide | (apply bT_; decide)) only [s165_0, s165_1, s165_4, s165_6, s165_9, s165_10, s165_13, s165_15, s165_19, s165_20, s165_23, s165_24, s165_25, s165_28, s165_30, s165_33, s165_34, s165_35, s165_38, s165_40, s165_43, s165_44, s165_47, s165_48, s165_51, s165_52, s165_53, s165_56, s165_57, s165_60, s165_61, s165_62, s165_63, s165_66, s165_68, s165_71, s165_72, s165_75, s165_76, s165_77, s165_78, s165_81, s165_82, s165_85, s165_86, s165_89, s165_90, s165_93, s165_94, s165_97, s165_98, s165_99, s165_100, s165_104, s165_107, s165_110, s165_111, s165_114, s165_116, s165_119, s165_120, s165_121, s165_124, s165_125, s165_128, s165_131, s165_132, s165_133, s165_136, s165_137, s165_140, s165_141, s165_144, s165_145, s165_146, s165_149, s165_150, s165_151, s165_154, s165_154i, s165_155, s165_156, s165_158, s165_161, s165_162, s165_162i, s165_163, s165_166, s165_167, s165_168, s165_171, K_v, K_0, acI, acA, acJ, acX, List.map_cons, List.map_nil, List.sum_cons, List.sum_nil, true_and, and_true, posT, b2_0, b2_1, bft, true_or, or_true, Nat.zero_le, Nat.reduceAdd, Nat.reduceLeDiff, hI_uI, hL_uI, hR_uI, nx_uI, sl_uI, hI_uL, hL_uL, hR_uL, nx_uL, sl_uL, hI_uR, hL_uR, hR_uR, nx_uR, sl_uR, st_eq, if_true, if_false, eq_self, Nat.reduceEqDiff, Nat.reduceMul, reduceIte, kdT, ixT, w_cl, w_ti, w_s1, w_a, w_m12, w_m8, w_m3, w_m4, n3, t10, t13, t1, if_pos t59, b2', kd_M, ln_M]
    · rw [if_neg qc]
      have t59 : ¬ (Int32.ofNat L.length = 10) := fun z => qc ((w_eq (b := 10) (by omega) (by omega)).mp z)
      obtain ⟨y1, hy1⟩ : ∃ y1, y1 = uI_ (uI_ y 41943696 (st_ (hI_ y 41943696) L.length (Int32.ofNat (stk_ B N k)))) 42205840 (st_ (hI_ y 42205840) L.length 0) := ⟨_, rfl⟩
      have hf1 : FM_ tw_ tj_ h y1 := by rw [hy1]; exact (hf.uW (by decide) (by decide)).uW (by decide) (by decide)
      have eM : hI_ y1 33554440 = hI_ y 33554440 := by rw [hy1]; simp only [hI_uI, hL_uI, hR_uI, nx_uI, sl_uI, hI_uL, hL_uL, hR_uL, nx_uL, sl_uL, hI_uR, hL_uR, hR_uR, nx_uR, sl_uR, st_eq, if_true, if_false, eq_self, Nat.reduceEqDiff, Nat.reduceMul, reduceIte, kdT, ixT, w_cl, w_ti, w_s1, w_a, w_m12, w_m8, w_m3, w_m4]
      have hR1 := tape_rw hR hf1
      have hM1 : MS_ y1 := hf1.MS hM
      have Z1 : MZ_ B N y1 k (hI_ y1 33554440) := ⟨by rw [eM]; exact hn, by rw [eM]; exact h54, fun _ _ => rfl⟩
      obtain ⟨r1, a1, a2⟩ := m_next (xs := xs) (d := d - 1) hR1 Z1 (by omega)
      rw [uI_self] at a2
      have fk : hI_ y1 41943696 L.length = Int32.ofNat (stk_ B N k) ∧ hI_ y1 42205840 L.length = 0 ∧ ∀ i, i < L.length → hI_ y1 41943696 i = hI_ y 41943696 i ∧ hI_ y1 42205840 i = hI_ y 42205840 i ∧ hI_ y1 42467984 i = hI_ y 42467984 i := by
        rw [hy1]
        refine ⟨by simp only [hI_uI, hL_uI, hR_uI, nx_uI, sl_uI, hI_uL, hL_uL, hR_uL, nx_uL, sl_uL, hI_uR, hL_uR, hR_uR, nx_uR, sl_uR, st_eq, if_true, if_false, eq_self, Nat.reduceEqDiff, Nat.reduceMul, reduceIte, kdT, ixT, w_cl, w_ti, w_s1, w_a, w_m12, w_m8, w_m3, w_m4], by simp only [hI_uI, hL_uI, hR_uI, nx_uI, sl_uI, hI_uL, hL_uL, hR_uL, nx_uL, sl_uL, hI_uR, hL_uR, hR_uR, nx_uR, sl_uR, st_eq, if_true, if_false, eq_self, Nat.reduceEqDiff, Nat.reduceMul, reduceIte, kdT, ixT, w_cl, w_ti, w_s1, w_a, w_m12, w_m8, w_m3, w_m4], fun i hi => ?_⟩
        simp only [hI_uI, hL_uI, hR_uI, nx_uI, sl_uI, hI_uL, hL_uL, hR_uL, nx_uL, sl_uL, hI_uR, hL_uR, hR_uR, nx_uR, sl_uR, st_eq, if_true, if_false, eq_self, Nat.reduceEqDiff, Nat.reduceMul, reduceIte, kdT, ixT, w_cl, w_ti, w_s1, w_a, w_m12, w_m8, w_m3, w_m4]
        rw [if_neg (by omega), if_neg (by omega)]
        exact ⟨rfl, rfl, trivial⟩
      have e59 : r1 59 = Int32.ofNat L.length := by rw [a1.2.2 59 (by decide), eM]; exact t1
      have hT1 : TA_ B N L (uI_ y1 33554440 r1) := ⟨by simp only [hI_uI, hL_uI, hR_uI, nx_uI, sl_uI, hI_uL, hL_uL, hR_uL, nx_uL, sl_uL, hI_uR, hL_uR, hR_uR, nx_uR, sl_uR, st_eq, if_true, if_false, eq_self, Nat.reduceEqDiff, Nat.reduceMul, reduceIte, kdT, ixT, w_cl, w_ti, w_s1, w_a, w_m12, w_m8, w_m3, w_m4]; exact e59, t2, fun i hi => by
        simp only [hI_uI, hL_uI, hR_uI, nx_uI, sl_uI, hI_uL, hL_uL, hR_uL, nx_uL, sl_uL, hI_uR, hL_uR, hR_uR, nx_uR, sl_uR, st_eq, if_true, if_false, eq_self, Nat.reduceEqDiff, Nat.reduceMul, reduceIte, kdT, ixT, w_cl, w_ti, w_s1, w_a, w_m12, w_m8, w_m3, w_m4]
        obtain ⟨u1, u2, u3⟩ := fk.2.2 i hi
        rw [u1, u2, u3]; exact t3 i hi⟩
      by_cases q2 : stk_ B N k = 10
      · rw [if_pos q2]
        have s10 : Int32.ofNat (stk_ B N k) = 10 := (w_eq (b := 10) (by omega) (by omega)).mpr q2
        refine TQ_.tr (fun Q => ?_) (m_termBody (xs := xs) (d := d) (w := stk_ B N k) (j := k + 1) (am := 0) (v1 := vI 0) hR hM h56 (hf1.rl a1.2.2) (by simp only [hI_uI, hL_uI, hR_uI, nx_uI, sl_uI, hI_uL, hL_uL, hR_uL, nx_uL, sl_uL, hI_uR, hL_uR, hR_uR, nx_uR, sl_uR, st_eq, if_true, if_false, eq_self, Nat.reduceEqDiff, Nat.reduceMul, reduceIte, kdT, ixT, w_cl, w_ti, w_s1, w_a, w_m12, w_m8, w_m3, w_m4]; exact a1.1) (by simp only [hI_uI, hL_uI, hR_uI, nx_uI, sl_uI, hI_uL, hL_uL, hR_uL, nx_uL, sl_uL, hI_uR, hL_uR, hR_uR, nx_uR, sl_uR, st_eq, if_true, if_false, eq_self, Nat.reduceEqDiff, Nat.reduceMul, reduceIte, kdT, ixT, w_cl, w_ti, w_s1, w_a, w_m12, w_m8, w_m3, w_m4]; exact a1.2.1) hT1 (by omega) hk1 (by simp only [hI_uI, hL_uI, hR_uI, nx_uI, sl_uI, hI_uL, hL_uL, hR_uL, nx_uL, sl_uL, hI_uR, hL_uR, hR_uR, nx_uR, sl_uR, st_eq, if_true, if_false, eq_self, Nat.reduceEqDiff, Nat.reduceMul, reduceIte, kdT, ixT, w_cl, w_ti, w_s1, w_a, w_m12, w_m8, w_m3, w_m4]; exact fk.1) (by simp only [hI_uI, hL_uI, hR_uI, nx_uI, sl_uI, hI_uL, hL_uL, hR_uL, nx_uL, sl_uL, hI_uR, hL_uR, hR_uR, nx_uR, sl_uR, st_eq, if_true, if_false, eq_self, Nat.reduceEqDiff, Nat.reduceMul, reduceIte, kdT, ixT, w_cl, w_ti, w_s1, w_a, w_m12, w_m8, w_m3, w_m4]; exact fk.2.1) hd)
        rw [hy1] at a2 ⊢
        simp (disch := first | omega | assumption | decide | (apply bT_; decide)) only [s165_0, s165_1, s165_4, s165_6, s165_9, s165_10, s165_13, s165_15, s165_19, s165_20, s165_23, s165_24, s165_25, s165_28, s165_30, s165_34, s165_35, s165_38, s165_39, s165_40, s165_43, s165_44, s165_47, s165_48, s165_51, s165_52, s165_53, s165_56, s165_57, s165_60, s165_61, s165_62, s165_63, s165_66, s165_68, s165_72, s165_75, s165_76, s165_77, s165_78, s165_81, s165_82, s165_86, s165_89, s165_90, s165_93, s165_94, s165_97, s165_98, s165_99, s165_100, s165_104, s165_107, s165_110, s165_111, s165_114, s165_116, s165_119, s165_120, s165_121, s165_124, s165_125, s165_128, s165_131, s165_132, s165_133, s165_136, s165_137, s165_140, s165_141, s165_144, s165_145, s165_146, s165_149, s165_150, s165_151, s165_154, s165_154i, s165_155, s165_156, s165_158, s165_161, s165_162, s165_162i, s165_163, s165_166, s165_167, s165_168, s165_171, K_v, K_0, acI, acA, acJ, acX, List.map_cons, List.map_nil, List.sum_cons, List.sum_nil, true_and, and_true, posT, b2_0, b2_1, bft, true_or, or_true, Nat.zero_le, Nat.reduceAdd, Nat.reduceLeDiff, hI_uI, hL_uI, hR_uI, nx_uI, sl_uI, hI_uL, hL_uL, hR_uL, nx_uL, sl_uL, hI_uR, hL_uR, hR_uR, nx_uR, sl_uR, st_eq, if_true, if_false, eq_self, Nat.reduceEqDiff, Nat.reduceMul, reduceIte, kdT, ixT, w_cl, w_ti, w_s1, w_a, w_m12, w_m8, w_m3, w_m4, hMy.r2, hMy.r3, hMy.r4, hMy.r5, hMy.r6, hMy.r7, hMy.r9, hMy.r10, hMy.r11, hMy.r12, hMy.r13, hMy.r14, hMy.r15, hMy.r16, hMy.r17, hMy.r18, hMy.r20, hMy.r21, hMy.r23, hMy.r29, hMy.r30, hMy.r35, hMy.r36, hMy.r37, hMy.r38, hMy.r40, hMy.r42, hMy.r43, hMy.r44, hMy.r45, hMy.r46, hMy.r47, n3, t10, t13, t1, if_neg t59, if_pos s10, a2, kd_M, ln_M, kd_mNKind, ln_mNKind, kd_mNAmount, ln_mNAmount]
      · rw [if_neg q2]
        have s10 : ¬ (Int32.ofNat (stk_ B N k) = 10) := fun z => q2 ((w_eq (b := 10) (by omega) (by omega)).mp z)
        obtain ⟨y2, hy2⟩ : ∃ y2, y2 = uI_ (uI_ y1 33554440 r1) 42205840 (st_ (hI_ y1 42205840) L.length (r1 53)) := ⟨_, rfl⟩
        have hf2 : FM_ tw_ tj_ h y2 := by rw [hy2]; exact (hf1.rl a1.2.2).uW (by decide) (by decide)
        have eM2 : hI_ y2 33554440 = r1 := by rw [hy2]; simp only [hI_uI, hL_uI, hR_uI, nx_uI, sl_uI, hI_uL, hL_uL, hR_uL, nx_uL, sl_uL, hI_uR, hL_uR, hR_uR, nx_uR, sl_uR, st_eq, if_true, if_false, eq_self, Nat.reduceEqDiff, Nat.reduceMul, reduceIte, kdT, ixT, w_cl, w_ti, w_s1, w_a, w_m12, w_m8, w_m3, w_m4]
        have hR2 := tape_rw hR hf2
        have Z2 : MZ_ B N y2 (k + 1) (hI_ y2 33554440) := ⟨by rw [eM2]; exact a1.1, by rw [eM2]; exact a1.2.1, fun _ _ => rfl⟩
        have hw := m_wants (xs := xs) (d := d - 1) (s := 2) (by decide) hR2 Z2 (by omega)
        rw [uI_self] at hw
        have way : ∀ (y' : AH), (∀ Q : OU_ → AH → Prop, V_ xs (d - 1) 157 0 [vA (some 33554440), vI 2] [] y2 Q ↔ Q (some none) y') → ∀ Q, V_ xs d 165 0 [vA (some 33554440), vX 0] [] y Q ↔ V_ xs d 165 103 [vA (some 33554440), vI 1] [] y' Q := by
          intro y' hy' Q
          have hM1' : MS_ (uI_ y1 33554440 r1) := hM1.u
          rw [hy2] at hy'
          rw [hy1] at a2 hy' hM1'
          simp only [hI_uI, hL_uI, hR_uI, nx_uI, sl_uI, hI_uL, hL_uL, hR_uL, nx_uL, sl_uL, hI_uR, hL_uR, hR_uR, nx_uR, sl_uR, st_eq, if_true, if_false, eq_self, Nat.reduceEqDiff, Nat.reduceMul, reduceIte, kdT, ixT, w_cl, w_ti, w_s1, w_a, w_m12, w_m8, w_m3, w_m4] at hy'
          simp (disch := first | omega | assumption | decide | (apply bT_; decide)) only [s165_0, s165_1, s165_4, s165_6, s165_9, s165_10, s165_13, s165_15, s165_19, s165_20, s165_23, s165_24, s165_25, s165_28, s165_30, s165_34, s165_35, s165_38, s165_39, s165_40, s165_43, s165_44, s165_47, s165_48, s165_51, s165_52, s165_53, s165_56, s165_57, s165_60, s165_61, s165_62, s165_63, s165_66, s165_68, s165_71, s165_72, s165_76, s165_77, s165_78, s165_81, s165_82, s165_85, s165_86, s165_89, s165_90, s165_93, s165_94, s165_97, s165_98, s165_99, s165_100, s165_104, s165_107, s165_110, s165_111, s165_114, s165_116, s165_119, s165_120, s165_121, s165_124, s165_125, s165_128, s165_131, s165_132, s165_133, s165_136, s165_137, s165_140, s165_141, s165_144, s165_145, s165_146, s165_149, s165_150, s165_151, s165_154, s165_154i, s165_155, s165_156, s165_158, s165_161, s165_162, s165_162i, s165_163, s165_166, s165_167, s165_168, s165_171, K_v, K_0, acI, acA, acJ, acX, List.map_cons, List.map_nil, List.sum_cons, List.sum_nil, true_and, and_true, posT, b2_0, b2_1, bft, true_or, or_true, Nat.zero_le, Nat.reduceAdd, Nat.reduceLeDiff, hI_uI, hL_uI, hR_uI, nx_uI, sl_uI, hI_uL, hL_uL, hR_uL, nx_uL, sl_uL, hI_uR, hL_uR, hR_uR, nx_uR, sl_uR, st_eq, if_true, if_false, eq_self, Nat.reduceEqDiff, Nat.reduceMul, reduceIte, kdT, ixT, w_cl, w_ti, w_s1, w_a, w_m12, w_m8, w_m3, w_m4, hMy.r2, hMy.r3, hMy.r4, hMy.r5, hMy.r6, hMy.r7, hMy.r9, hMy.r10, hMy.r11, hMy.r12, hMy.r13, hMy.r14, hMy.r15, hMy.r16, hMy.r17, hMy.r18, hMy.r20, hMy.r21, hMy.r23, hMy.r29, hMy.r30, hMy.r35, hMy.r36, hMy.r37, hMy.r38, hMy.r40, hMy.r42, hMy.r43, hMy.r44, hMy.r45, hMy.r46, hMy.r47, n3, t10, t13, t1, if_neg t59, if_neg s10, a2, e59, hy', k10, kd_M, ln_M, kd_mNKind, ln_mNKind, kd_mNAmount, ln_mNAmount]
        by_cases q3 : stk_ B N (k + 1) = 2
        · rw [if_pos q3]
          have hk2 : k + 2 ≤ N := by
            rcases Nat.lt_or_ge (k + 1) N with z | z
            · exact z
            · rw [stk_0 (k + 1) z] at q3; cases q3
          have n53 : r1 53 = vlk_ B N (k + 1) := a1.1.2.2.2 q3
          obtain ⟨r3, c1, c2⟩ := hw.1 q3
          have e593 : r3 59 = Int32.ofNat L.length := by rw [c1.2.2 59 (by decide), eM2]; exact e59
          refine TQ_.tr (way _ c2) (m_termBody (xs := xs) (d := d) (w := stk_ B N k) (j := k + 2) (am := vlk_ B N (k + 1)) (v1 := vI 1) hR hM h56 (hf2.rl c1.2.2) (by simp only [hI_uI, hL_uI, hR_uI, nx_uI, sl_uI, hI_uL, hL_uL, hR_uL, nx_uL, sl_uL, hI_uR, hL_uR, hR_uR, nx_uR, sl_uR, st_eq, if_true, if_false, eq_self, Nat.reduceEqDiff, Nat.reduceMul, reduceIte, kdT, ixT, w_cl, w_ti, w_s1, w_a, w_m12, w_m8, w_m3, w_m4]; exact c1.1) (by simp only [hI_uI, hL_uI, hR_uI, nx_uI, sl_uI, hI_uL, hL_uL, hR_uL, nx_uL, sl_uL, hI_uR, hL_uR, hR_uR, nx_uR, sl_uR, st_eq, if_true, if_false, eq_self, Nat.reduceEqDiff, Nat.reduceMul, reduceIte, kdT, ixT, w_cl, w_ti, w_s1, w_a, w_m12, w_m8, w_m3, w_m4]; exact c1.2.1) ⟨by simp only [hI_uI, hL_uI, hR_uI, nx_uI, sl_uI, hI_uL, hL_uL, hR_uL, nx_uL, sl_uL, hI_uR, hL_uR, hR_uR, nx_uR, sl_uR, st_eq, if_true, if_false, eq_self, Nat.reduceEqDiff, Nat.reduceMul, reduceIte, kdT, ixT, w_cl, w_ti, w_s1, w_a, w_m12, w_m8, w_m3, w_m4]; exact e593, t2, fun i hi => ?_⟩ (by omega) hk2 ?_ ?_ hd)
          · rw [hy2]
            simp only [hI_uI, hL_uI, hR_uI, nx_uI, sl_uI, hI_uL, hL_uL, hR_uL, nx_uL, sl_uL, hI_uR, hL_uR, hR_uR, nx_uR, sl_uR, st_eq, if_true, if_false, eq_self, Nat.reduceEqDiff, Nat.reduceMul, reduceIte, kdT, ixT, w_cl, w_ti, w_s1, w_a, w_m12, w_m8, w_m3, w_m4]
            obtain ⟨u1, u2, u3⟩ := fk.2.2 i hi
            rw [if_neg (by omega), u1, u2, u3]; exact t3 i hi
          · rw [hy2]; simp only [hI_uI, hL_uI, hR_uI, nx_uI, sl_uI, hI_uL, hL_uL, hR_uL, nx_uL, sl_uL, hI_uR, hL_uR, hR_uR, nx_uR, sl_uR, st_eq, if_true, if_false, eq_self, Nat.reduceEqDiff, Nat.reduceMul, reduceIte, kdT, ixT, w_cl, w_ti, w_s1, w_a, w_m12, w_m8, w_m3, w_m4]; exact fk.1
          · rw [hy2]; simp only [hI_uI, hL_uI, hR_uI, nx_uI, sl_uI, hI_uL, hL_uL, hR_uL, nx_uL, sl_uL, hI_uR, hL_uR, hR_uR, nx_uR, sl_uR, st_eq, if_true, if_false, eq_self, Nat.reduceEqDiff, Nat.reduceMul, reduceIte, kdT, ixT, w_cl, w_ti, w_s1, w_a, w_m12, w_m8, w_m3, w_m4]; exact n53
        · rw [if_neg q3]
          obtain ⟨r3, c1, c2⟩ := hw.2 q3
          have f54 := c1.1
          have n0 : ¬ (Int32.ofNat 1 = 0) := by decide
          refine ⟨uI_ y2 33554440 r3, hf2.rl c1.2.2.2, by simp only [hI_uI, hL_uI, hR_uI, nx_uI, sl_uI, hI_uL, hL_uL, hR_uL, nx_uL, sl_uL, hI_uR, hL_uR, hR_uR, nx_uR, sl_uR, st_eq, if_true, if_false, eq_self, Nat.reduceEqDiff, Nat.reduceMul, reduceIte, kdT, ixT, w_cl, w_ti, w_s1, w_a, w_m12, w_m8, w_m3, w_m4]; exact c1.1, by simp only [hI_uI, hL_uI, hR_uI, nx_uI, sl_uI, hI_uL, hL_uL, hR_uL, nx_uL, sl_uL, hI_uR, hL_uR, hR_uR, nx_uR, sl_uR, st_eq, if_true, if_false, eq_self, Nat.reduceEqDiff, Nat.reduceMul, reduceIte, kdT, ixT, w_cl, w_ti, w_s1, w_a, w_m12, w_m8, w_m3, w_m4]; exact c1.2.1, c1.2.2.1, fun Q => (way _ c2 Q).trans ?_⟩
          rw [s165_103]
          simp (disch := first | omega | assumption | decide | (apply bT_; decide)) only [s165_0, s165_1, s165_4, s165_6, s165_9, s165_10, s165_13, s165_15, s165_18, s165_19, s165_20, s165_23, s165_24, s165_25, s165_28, s165_30, s165_33, s165_34, s165_35, s165_38, s165_39, s165_40, s165_43, s165_44, s165_47, s165_48, s165_51, s165_52, s165_53, s165_56, s165_57, s165_60, s165_61, s165_62, s165_63, s165_66, s165_68, s165_71, s165_72, s165_75, s165_76, s165_77, s165_78, s165_81, s165_82, s165_85, s165_86, s165_89, s165_90, s165_93, s165_94, s165_97, s165_98, s165_99, s165_100, s165_104, s165_107, s165_111, s165_114, s165_116, s165_119, s165_120, s165_121, s165_124, s165_125, s165_128, s165_131, s165_133, s165_136, s165_137, s165_140, s165_141, s165_144, s165_145, s165_146, s165_149, s165_150, s165_151, s165_154, s165_154i, s165_155, s165_156, s165_158, s165_161, s165_162, s165_162i, s165_163, s165_166, s165_167, s165_168, s165_171, K_v, K_0, acI, acA, acJ, acX, List.map_cons, List.map_nil, List.sum_cons, List.sum_nil, true_and, and_true, posT, b2_0, b2_1, bft, true_or, or_true, Nat.zero_le, Nat.reduceAdd, Nat.reduceLeDiff, hI_uI, hL_uI, hR_uI, nx_uI, sl_uI, hI_uL, hL_uL, hR_uL, nx_uL, sl_uL, hI_uR, hL_uR, hR_uR, nx_uR, sl_uR, st_eq, if_true, if_false, eq_self, Nat.reduceEqDiff, Nat.reduceMul, reduceIte, kdT, ixT, w_cl, w_ti, w_s1, w_a, w_m12, w_m8, w_m3, w_m4, f54, n0, kd_M, ln_M]
end MTM
