/-! the model: one actor more -/
section MGO
variable {xs : Nat → Int32} {d : Nat} {h : AH} {Q : OU_ → AH → Prop} {P : PS} {na : Nat} {F G : Nat → Nat → Int32} {σ T U p a : Nat} {Hs O : Nat → Int32} {B S : Nat → Nat → Prop}
theorem two_or {t m n : Nat} (ht : t < 2 ^ n) (hm : m < 2 ^ n) : t ||| m < 2 ^ n := Nat.or_lt_two_pow ht hm
theorem bit0_and {t i : Nat} : (t.testBit i = false) ↔ t &&& 2 ^ i = 0 := by
  constructor
  · intro e
    apply Nat.eq_of_testBit_eq
    intro j
    rw [Nat.testBit_and, Nat.testBit_two_pow, Nat.zero_testBit]
    by_cases q : i = j
    · rw [← q, e]; rfl
    · rw [decide_eq_false q, Bool.and_false]
  · intro e
    have : (t &&& 2 ^ i).testBit i = false := by rw [e, Nat.zero_testBit]
    rw [Nat.testBit_and, Nat.testBit_two_pow_self, Bool.and_true] at this
    exact this
/-- what the parts of i candidates add -/
def SH_ (B : Nat → Nat → Prop) (P : PS) (O : Nat → Int32) (mv : Nat → Bool) (p a i s v : Nat) : Prop := B s v ∨ ∃ j s' v', j < i ∧ (∀ r, (cnd_ P p j).testBit r = true → mv r = true) ∧ s' < 2 ^ qr_ P p ∧ s' &&& cnd_ P p j = 0 ∧ s = s' ||| cnd_ P p j ∧ B s' v' ∧ v = v' + pw_ 8 (gm_ O) a (cnd_ P p j)
theorem c_gs1 {i : Nat} {r : Nat → Int32} {v6 v7 v8 : AV} (hM : MS_ h) (hP : MP_ P h) (hc : MC_ σ Hs O T U h) (hp : p < 12) (hi : i < qr_ P p) (hT : ∀ s, s < 2 ^ qr_ P p → TM_ (hI_ h T s) (B s)) (hB : ∀ s v, B s v → v < 90) (hr : ∀ s, s < 2 ^ qr_ P p → TM_ (r s) (S s)) (hd : 2 ≤ d) : ∃ r', (∀ s, s < 2 ^ qr_ P p → TM_ (r' s) (fun v => S s v ∨ ∃ s' v', s' < 2 ^ qr_ P p ∧ s' &&& 2 ^ i = 0 ∧ s = s' ||| 2 ^ i ∧ B s' v' ∧ v = v' + gm_ O i (a + 1))) ∧ ∀ Q, V_ xs d 123 69 [vA (some 33554440), vI (Int32.ofNat a), vI (Int32.ofNat p), vI (Int32.ofNat (2 ^ qr_ P p)), vI (Int32.ofNat i), vI 0, v6, v7, v8] [] (uI_ h U r) Q ↔ V_ xs d 123 133 [vA (some 33554440), vI (Int32.ofNat a), vI (Int32.ofNat p), vI (Int32.ofNat (2 ^ qr_ P p)), vI (Int32.ofNat i), vI (Int32.ofNat (2 ^ qr_ P p)), v6, v7, v8] [] (uI_ h U r') Q := by
  have h8 := hP.2.1.2.2.1 p
  have hq1 : 2 ^ qr_ P p ≤ 2 ^ 8 := Nat.pow_le_pow_right (by omega) h8
  have hpi : 2 ^ i < 2 ^ qr_ P p := Nat.pow_lt_pow_right (by omega) hi
  obtain ⟨-, -, -, -, c5, c6, c7⟩ := id hc
  have nTU := c7.ne
  have kT : kd_ T = 16 := by rcases c7.l with rfl | rfl <;> rfl
  have kU : kd_ U = 16 := by rcases c7.r with rfl | rfl <;> rfl
  have lT : ln_ T = 256 := by rcases c7.l with rfl | rfl <;> rfl
  have lU : ln_ U = 256 := by rcases c7.r with rfl | rfl <;> rfl
  have hk : gm_ O i (a + 1) ≤ 1 := by show (if _ then 0 else 1) ≤ 1; split <;> omega
  obtain ⟨z, hz1, hz2⟩ := loopX_ (P := fun Q t (x : Nat → Int32) => V_ xs d 123 69 [vA (some 33554440), vI (Int32.ofNat a), vI (Int32.ofNat p), vI (Int32.ofNat (2 ^ qr_ P p)), vI (Int32.ofNat i), vI (Int32.ofNat t), v6, v7, v8] [] (uI_ h U x) Q) (n := 2 ^ qr_ P p) (fun t x => ∀ s, s < 2 ^ qr_ P p → TM_ (x s) (fun v => S s v ∨ ∃ s' v', s' < t ∧ s' &&& 2 ^ i = 0 ∧ s = s' ||| 2 ^ i ∧ B s' v' ∧ v = v' + gm_ O i (a + 1))) (fun t x ht hI => by
    refine ⟨gr_ t (2 ^ i) (hI_ h T t + Int32.ofNat (gm_ O i (a + 1))) x, gr_step (by omega) (fun v hv => by have := hB t v hv; omega) (hT t ht) hI, fun Q => ?_⟩
    have hor : t ||| 2 ^ i < 2 ^ qr_ P p := two_or ht hpi
    have hch := fun r Q => c_mchange (xs := xs) (d := d - 1) (a := a) (r := i) (h := uI_ h U r) (Q := Q) hM.u (hc.tu c7.r) (by omega)
    have hbit := w_bit (M := t) (m := i) (by omega) (by omega)
    have hsh := w_shl i (by omega)
    unfold gr_
    rw [s123_69]
    by_cases q : t &&& 2 ^ i = 0
    · rw [bit0_and.mpr q] at hbit
      rw [if_pos q]
      simp (disch := first | omega | assumption | decide | (apply bT_; decide)) only [s123_0, s123_1, s123_2, s123_5, s123_6, s123_7, s123_8, s123_9, s123_10, s123_12, s123_14, s123_15, s123_18, s123_19, s123_22, s123_24, s123_25, s123_28, s123_30, s123_31, s123_32, s123_35, s123_38, s123_39, s123_41, s123_43, s123_44, s123_47, s123_48, s123_49, s123_52, s123_53, s123_54, s123_55, s123_57, s123_60, s123_63, s123_66, s123_67, s123_71, s123_72, s123_75, s123_77, s123_79, s123_80, s123_81, s123_82, s123_85, s123_86, s123_89, s123_91, s123_92, s123_94, s123_95, s123_96, s123_97, s123_100, s123_102, s123_103, s123_105, s123_106, s123_107, s123_108, s123_109, s123_112, s123_114, s123_115, s123_116, s123_117, s123_119, s123_122, s123_123, s123_126, s123_127, s123_130, s123_136, s123_139, s123_140, s123_142, s123_144, s123_145, s123_148, s123_149, s123_150, s123_153, s123_154, s123_157, s123_158, s123_159, s123_160, s123_162, s123_163, s123_164, s123_166, s123_168, s123_171, s123_173, s123_175, s123_177, s123_180, s123_181, s123_183, s123_184, s123_185, s123_186, s123_188, s123_191, s123_194, s123_195, s123_196, s123_197, s123_199, s123_202, s123_205, s123_208, s123_209, s123_211, s123_213, s123_214, s123_217, s123_219, s123_221, s123_222, s123_225, s123_226, s123_229, s123_231, s123_233, s123_234, s123_235, s123_238, s123_240, s123_242, s123_243, s123_244, s123_245, s123_248, s123_250, s123_251, s123_252, s123_253, s123_255, s123_258, s123_259, s123_260, s123_261, s123_263, s123_266, s123_267, s123_270, s123_271, s123_274, s123_277, s123_280, s123_283, s123_284, s123_287, s123_289, s123_290, s123_291, s123_294, s123_297, s123_298, s123_300, s123_303, K_v, K_0, acI, acA, acJ, acX, List.map_cons, List.map_nil, List.sum_cons, List.sum_nil, true_and, and_true, posT, b2_0, b2_1, bft, true_or, or_true, Nat.zero_le, Nat.reduceAdd, Nat.reduceLeDiff, hI_uI, hL_uI, hR_uI, nx_uI, sl_uI, hI_uL, hL_uL, hR_uL, nx_uL, sl_uL, hI_uR, hL_uR, hR_uR, nx_uR, sl_uR, st_eq, if_true, if_false, eq_self, Nat.reduceEqDiff, Nat.reduceMul, reduceIte, kdT, ixT, w_cl, w_ti, w_s1, w_a, w_m12, w_m8, w_m3, w_m4, c5, c6, ht, hbit, hsh, w_or, hch, c_min, nTU, kT, kU, lT, lU, w_lt, uI_uI, kd_M]
    · have hb1 : t.testBit i = true := by
        cases hb : t.testBit i
        · exact absurd (bit0_and.mp hb) q
        · rfl
      rw [hb1] at hbit
      have k1 : ¬ ((1 : Int32) = 0) := by decide
      rw [if_neg q]
      simp (disch := first | omega | assumption | decide | (apply bT_; decide)) only [s123_0, s123_1, s123_2, s123_5, s123_6, s123_7, s123_8, s123_9, s123_10, s123_12, s123_14, s123_15, s123_18, s123_19, s123_22, s123_24, s123_25, s123_28, s123_30, s123_31, s123_32, s123_35, s123_38, s123_39, s123_41, s123_43, s123_44, s123_47, s123_48, s123_49, s123_52, s123_53, s123_54, s123_55, s123_57, s123_60, s123_63, s123_66, s123_67, s123_71, s123_72, s123_75, s123_77, s123_79, s123_80, s123_81, s123_82, s123_85, s123_86, s123_89, s123_91, s123_92, s123_94, s123_95, s123_96, s123_97, s123_100, s123_102, s123_103, s123_105, s123_106, s123_107, s123_108, s123_109, s123_112, s123_114, s123_115, s123_116, s123_117, s123_119, s123_122, s123_123, s123_126, s123_127, s123_130, s123_136, s123_139, s123_140, s123_142, s123_144, s123_145, s123_148, s123_149, s123_150, s123_153, s123_154, s123_157, s123_158, s123_159, s123_160, s123_162, s123_163, s123_164, s123_166, s123_168, s123_171, s123_173, s123_175, s123_177, s123_180, s123_181, s123_183, s123_184, s123_185, s123_186, s123_188, s123_191, s123_194, s123_195, s123_196, s123_197, s123_199, s123_202, s123_205, s123_208, s123_209, s123_211, s123_213, s123_214, s123_217, s123_219, s123_221, s123_222, s123_225, s123_226, s123_229, s123_231, s123_233, s123_234, s123_235, s123_238, s123_240, s123_242, s123_243, s123_244, s123_245, s123_248, s123_250, s123_251, s123_252, s123_253, s123_255, s123_258, s123_259, s123_260, s123_261, s123_263, s123_266, s123_267, s123_270, s123_271, s123_274, s123_277, s123_280, s123_283, s123_284, s123_287, s123_289, s123_290, s123_291, s123_294, s123_297, s123_298, s123_300, s123_303, K_v, K_0, acI, acA, acJ, acX, List.map_cons, List.map_nil, List.sum_cons, List.sum_nil, true_and, and_true, posT, b2_0, b2_1, bft, true_or, or_true, Nat.zero_le, Nat.reduceAdd, Nat.reduceLeDiff, hI_uI, hL_uI, hR_uI, nx_uI, sl_uI, hI_uL, hL_uL, hR_uL, nx_uL, sl_uL, hI_uR, hL_uR, hR_uR, nx_uR, sl_uR, st_eq, if_true, if_false, eq_self, Nat.reduceEqDiff, Nat.reduceMul, reduceIte, kdT, ixT, w_cl, w_ti, w_s1, w_a, w_m12, w_m8, w_m3, w_m4, ht, hbit, k1, w_lt, Bool.true_eq_false]) (2 ^ qr_ P p) 0 r (by omega) (fun s hs => (hr s hs).iff (fun v => ⟨Or.inl, fun e => e.resolve_right (fun ⟨s', v', e1, _⟩ => absurd e1 (Nat.not_lt_zero _))⟩))
  refine ⟨z, hz1, fun Q => ?_⟩
  refine (show V_ xs d 123 69 [vA (some 33554440), vI (Int32.ofNat a), vI (Int32.ofNat p), vI (Int32.ofNat (2 ^ qr_ P p)), vI (Int32.ofNat i), vI (Int32.ofNat 0), v6, v7, v8] [] (uI_ h U r) Q ↔ _ from hz2 Q).trans ?_
  have nl : ¬ (2 ^ qr_ P p < 2 ^ qr_ P p) := by omega
  rw [s123_69]
  simp (disch := first | omega | assumption | decide | (apply bT_; decide)) only [s123_0, s123_1, s123_2, s123_5, s123_6, s123_7, s123_8, s123_9, s123_10, s123_12, s123_14, s123_15, s123_18, s123_19, s123_22, s123_24, s123_25, s123_28, s123_30, s123_31, s123_32, s123_35, s123_38, s123_39, s123_41, s123_43, s123_44, s123_47, s123_48, s123_49, s123_52, s123_53, s123_54, s123_55, s123_57, s123_60, s123_63, s123_66, s123_67, s123_71, s123_72, s123_75, s123_77, s123_79, s123_80, s123_81, s123_82, s123_85, s123_86, s123_89, s123_91, s123_92, s123_94, s123_95, s123_96, s123_97, s123_100, s123_102, s123_103, s123_105, s123_106, s123_107, s123_108, s123_109, s123_112, s123_114, s123_115, s123_116, s123_117, s123_119, s123_122, s123_123, s123_126, s123_127, s123_130, s123_136, s123_139, s123_140, s123_142, s123_144, s123_145, s123_148, s123_149, s123_150, s123_153, s123_154, s123_157, s123_158, s123_159, s123_160, s123_162, s123_163, s123_164, s123_166, s123_168, s123_171, s123_173, s123_175, s123_177, s123_180, s123_181, s123_183, s123_184, s123_185, s123_186, s123_188, s123_191, s123_194, s123_195, s123_196, s123_197, s123_199, s123_202, s123_205, s123_208, s123_209, s123_211, s123_213, s123_214, s123_217, s123_219, s123_221, s123_222, s123_225, s123_226, s123_229, s123_231, s123_233, s123_234, s123_235, s123_238, s123_240, s123_242, s123_243, s123_244, s123_245, s123_248, s123_250, s123_251, s123_252, s123_253, s123_255, s123_258, s123_259, s123_260, s123_261, s123_263, s123_266, s123_267, s123_270, s123_271, s123_274, s123_277, s123_280, s123_283, s123_284, s123_287, s123_289, s123_290, s123_291, s123_294, s123_297, s123_298, s123_300, s123_303, K_v, K_0, acI, acA, acJ, acX, List.map_cons, List.map_nil, List.sum_cons, List.sum_nil, true_and, and_true, posT, b2_0, b2_1, bft, true_or, or_true, Nat.zero_le, Nat.reduceAdd, Nat.reduceLeDiff, hI_uI, hL_uI, hR_uI, nx_uI, sl_uI, hI_uL, hL_uL, hR_uL, nx_uL, sl_uL, hI_uR, hL_uR, hR_uR, nx_uR, sl_uR, st_eq, if_true, if_false, eq_self, Nat.reduceEqDiff, Nat.reduceMul, reduceIte, kdT, ixT, w_cl, w_ti, w_s1, w_a, w_m12, w_m8, w_m3, w_m4, nl, w_lt]
theorem sm_one {g : Nat → Nat} {i : Nat} : ∀ {n : Nat}, sm_ (fun r => if (2 ^ i).testBit r = true then g r else 0) n = if i < n then g i else 0 := by
  intro n
  induction n with
  | zero => rfl
  | succ n ih =>
    show sm_ (fun r => if (2 ^ i).testBit r = true then g r else 0) n + (if (2 ^ i).testBit n = true then g n else 0) = _
    rw [ih, Nat.testBit_two_pow]
    by_cases q : i = n
    · rw [decide_eq_true q, if_pos rfl, q, if_neg (by omega), if_pos (by omega)]; omega
    · rw [decide_eq_false q, if_neg (show ¬ (false = true) by decide)]
      by_cases q2 : i < n
      · rw [if_pos q2, if_pos (by omega)]; rfl
      · rw [if_neg q2, if_neg (by omega)]
theorem pw_one {g : Nat → Nat → Nat} {i : Nat} (hi : i < 8) : pw_ 8 g a (2 ^ i) = g i (a + 1) := by
  unfold pw_
  rw [sm_one (g := fun r => g r (a + 1)), if_pos hi]
theorem pw_two {g : Nat → Nat → Nat} {x y : Nat} (hx : x < y) (hy : y < 8) : pw_ 8 g a (2 ^ x ||| 2 ^ y) = g x (a + 1) + g y (a + 1) := by
  rw [← pw_one (a := a) (g := g) (show x < 8 by omega), ← pw_one (a := a) (g := g) hy]
  unfold pw_
  rw [← sm_add]
  apply sm_congr
  intro r hr
  rw [Nat.testBit_or, Nat.testBit_two_pow, Nat.testBit_two_pow]
  by_cases q : x = r
  · rw [decide_eq_true q, decide_eq_false (by omega)]; simp
  · rw [decide_eq_false q, Bool.false_or]; simp
theorem c_gs2 {x y : Nat} {r : Nat → Int32} {v4 v8 : AV} (hM : MS_ h) (hP : MP_ P h) (hc : MC_ σ Hs O T U h) (hp : p < 12) (hx : x < y) (hy : y < qr_ P p) (hT : ∀ s, s < 2 ^ qr_ P p → TM_ (hI_ h T s) (B s)) (hB : ∀ s v, B s v → v < 90) (hr : ∀ s, s < 2 ^ qr_ P p → TM_ (r s) (S s)) (hd : 2 ≤ d) : ∃ r', (∀ s, s < 2 ^ qr_ P p → TM_ (r' s) (fun v => S s v ∨ ∃ s' v', s' < 2 ^ qr_ P p ∧ s' &&& (2 ^ x ||| 2 ^ y) = 0 ∧ s = s' ||| (2 ^ x ||| 2 ^ y) ∧ B s' v' ∧ v = v' + (gm_ O x (a + 1) + gm_ O y (a + 1)))) ∧ ∀ Q, V_ xs d 123 211 [vA (some 33554440), vI (Int32.ofNat a), vI (Int32.ofNat p), vI (Int32.ofNat (2 ^ qr_ P p)), v4, vI (Int32.ofNat (2 ^ x ||| 2 ^ y)), vI (Int32.ofNat x), vI (Int32.ofNat y), vI 0] [] (uI_ h U r) Q ↔ V_ xs d 123 277 [vA (some 33554440), vI (Int32.ofNat a), vI (Int32.ofNat p), vI (Int32.ofNat (2 ^ qr_ P p)), v4, vI (Int32.ofNat (2 ^ x ||| 2 ^ y)), vI (Int32.ofNat x), vI (Int32.ofNat y), vI (Int32.ofNat (2 ^ qr_ P p))] [] (uI_ h U r') Q := by
  have h8 := hP.2.1.2.2.1 p
  have hq1 : 2 ^ qr_ P p ≤ 2 ^ 8 := Nat.pow_le_pow_right (by omega) h8
  have hpi : 2 ^ x ||| 2 ^ y < 2 ^ qr_ P p := two_or (Nat.pow_lt_pow_right (by omega) (by omega)) (Nat.pow_lt_pow_right (by omega) hy)
  obtain ⟨-, -, -, -, c5, c6, c7⟩ := id hc
  have nTU := c7.ne
  have kT : kd_ T = 16 := by rcases c7.l with rfl | rfl <;> rfl
  have kU : kd_ U = 16 := by rcases c7.r with rfl | rfl <;> rfl
  have lT : ln_ T = 256 := by rcases c7.l with rfl | rfl <;> rfl
  have lU : ln_ U = 256 := by rcases c7.r with rfl | rfl <;> rfl
  have hk1 : gm_ O x (a + 1) ≤ 1 := by show (if _ then 0 else 1) ≤ 1; split <;> omega
  have hk2 : gm_ O y (a + 1) ≤ 1 := by show (if _ then 0 else 1) ≤ 1; split <;> omega
  obtain ⟨z, hz1, hz2⟩ := loopX_ (P := fun Q t (w : Nat → Int32) => V_ xs d 123 211 [vA (some 33554440), vI (Int32.ofNat a), vI (Int32.ofNat p), vI (Int32.ofNat (2 ^ qr_ P p)), v4, vI (Int32.ofNat (2 ^ x ||| 2 ^ y)), vI (Int32.ofNat x), vI (Int32.ofNat y), vI (Int32.ofNat t)] [] (uI_ h U w) Q) (n := 2 ^ qr_ P p) (fun t w => ∀ s, s < 2 ^ qr_ P p → TM_ (w s) (fun v => S s v ∨ ∃ s' v', s' < t ∧ s' &&& (2 ^ x ||| 2 ^ y) = 0 ∧ s = s' ||| (2 ^ x ||| 2 ^ y) ∧ B s' v' ∧ v = v' + (gm_ O x (a + 1) + gm_ O y (a + 1)))) (fun t w ht hI => by
    refine ⟨gr_ t (2 ^ x ||| 2 ^ y) (hI_ h T t + Int32.ofNat (gm_ O x (a + 1) + gm_ O y (a + 1))) w, gr_step (by omega) (fun v hv => by have := hB t v hv; omega) (hT t ht) hI, fun Q => ?_⟩
    have hor : t ||| (2 ^ x ||| 2 ^ y) < 2 ^ qr_ P p := two_or ht hpi
    have hch := fun r Q => c_mchange (xs := xs) (d := d - 1) (a := a) (r := x) (h := uI_ h U r) (Q := Q) hM.u (hc.tu c7.r) (by omega)
    have hch2 := fun r Q => c_mchange (xs := xs) (d := d - 1) (a := a) (r := y) (h := uI_ h U r) (Q := Q) hM.u (hc.tu c7.r) (by omega)
    have hand : t &&& (2 ^ x ||| 2 ^ y) ≤ t := Nat.and_le_left
    have z0 : Int32.ofNat 0 = 0 := rfl
    have eas : hI_ h T t + Int32.ofNat (gm_ O x (a + 1)) + Int32.ofNat (gm_ O y (a + 1)) = hI_ h T t + Int32.ofNat (gm_ O x (a + 1) + gm_ O y (a + 1)) := by rw [Int32.add_assoc, ← Int32.ofNat_add]
    unfold gr_
    rw [s123_211]
    by_cases q : t &&& (2 ^ x ||| 2 ^ y) = 0
    · rw [if_pos q]
      simp (disch := first | omega | assumption | decide | (apply bT_; decide)) only [s123_0, s123_1, s123_2, s123_5, s123_6, s123_7, s123_8, s123_9, s123_10, s123_12, s123_14, s123_15, s123_18, s123_19, s123_22, s123_24, s123_25, s123_28, s123_30, s123_31, s123_32, s123_35, s123_38, s123_39, s123_41, s123_43, s123_44, s123_47, s123_48, s123_49, s123_52, s123_53, s123_54, s123_55, s123_57, s123_60, s123_63, s123_66, s123_67, s123_69, s123_71, s123_72, s123_75, s123_77, s123_79, s123_80, s123_81, s123_82, s123_85, s123_86, s123_89, s123_91, s123_92, s123_94, s123_95, s123_96, s123_97, s123_100, s123_102, s123_103, s123_105, s123_106, s123_107, s123_108, s123_109, s123_112, s123_114, s123_115, s123_116, s123_117, s123_119, s123_122, s123_123, s123_126, s123_127, s123_130, s123_133, s123_136, s123_139, s123_140, s123_142, s123_144, s123_145, s123_148, s123_149, s123_150, s123_153, s123_154, s123_157, s123_158, s123_159, s123_160, s123_162, s123_163, s123_164, s123_166, s123_168, s123_171, s123_173, s123_175, s123_177, s123_180, s123_181, s123_183, s123_184, s123_185, s123_186, s123_188, s123_191, s123_194, s123_195, s123_196, s123_197, s123_199, s123_202, s123_205, s123_208, s123_209, s123_213, s123_214, s123_217, s123_219, s123_221, s123_222, s123_225, s123_226, s123_229, s123_231, s123_233, s123_234, s123_235, s123_238, s123_240, s123_242, s123_243, s123_244, s123_245, s123_248, s123_250, s123_251, s123_252, s123_253, s123_255, s123_258, s123_259, s123_260, s123_261, s123_263, s123_266, s123_267, s123_270, s123_271, s123_274, s123_280, s123_283, s123_284, s123_287, s123_289, s123_290, s123_291, s123_294, s123_297, s123_298, s123_300, s123_303, K_v, K_0, acI, acA, acJ, acX, List.map_cons, List.map_nil, List.sum_cons, List.sum_nil, true_and, and_true, posT, b2_0, b2_1, bft, true_or, or_true, Nat.zero_le, Nat.reduceAdd, Nat.reduceLeDiff, hI_uI, hL_uI, hR_uI, nx_uI, sl_uI, hI_uL, hL_uL, hR_uL, nx_uL, sl_uL, hI_uR, hL_uR, hR_uR, nx_uR, sl_uR, st_eq, if_true, if_false, eq_self, Nat.reduceEqDiff, Nat.reduceMul, reduceIte, kdT, ixT, w_cl, w_ti, w_s1, w_a, w_m12, w_m8, w_m3, w_m4, c5, c6, ht, w_and, q, z0, w_or, hch, hch2, c_min, nTU, kT, kU, lT, lU, w_lt, uI_uI, kd_M, eas]
    · have q3 : ¬ (Int32.ofNat (t &&& (2 ^ x ||| 2 ^ y)) = 0) := fun e => q ((w_eq (b := 0) (by omega) (by omega)).mp e)
      rw [if_neg q]
      simp (disch := first | omega | assumption | decide | (apply bT_; decide)) only [s123_0, s123_1, s123_2, s123_5, s123_6, s123_7, s123_8, s123_9, s123_10, s123_12, s123_14, s123_15, s123_18, s123_19, s123_22, s123_24, s123_25, s123_28, s123_30, s123_31, s123_32, s123_35, s123_38, s123_39, s123_41, s123_43, s123_44, s123_47, s123_48, s123_49, s123_52, s123_53, s123_54, s123_55, s123_57, s123_60, s123_63, s123_66, s123_67, s123_69, s123_71, s123_72, s123_75, s123_77, s123_79, s123_80, s123_81, s123_82, s123_85, s123_86, s123_89, s123_91, s123_92, s123_94, s123_95, s123_96, s123_97, s123_100, s123_102, s123_103, s123_105, s123_106, s123_107, s123_108, s123_109, s123_112, s123_114, s123_115, s123_116, s123_117, s123_119, s123_122, s123_123, s123_126, s123_127, s123_130, s123_133, s123_136, s123_139, s123_140, s123_142, s123_144, s123_145, s123_148, s123_149, s123_150, s123_153, s123_154, s123_157, s123_158, s123_159, s123_160, s123_162, s123_163, s123_164, s123_166, s123_168, s123_171, s123_173, s123_175, s123_177, s123_180, s123_181, s123_183, s123_184, s123_185, s123_186, s123_188, s123_191, s123_194, s123_195, s123_196, s123_197, s123_199, s123_202, s123_205, s123_208, s123_209, s123_213, s123_214, s123_217, s123_219, s123_221, s123_222, s123_225, s123_226, s123_229, s123_231, s123_233, s123_234, s123_235, s123_238, s123_240, s123_242, s123_243, s123_244, s123_245, s123_248, s123_250, s123_251, s123_252, s123_253, s123_255, s123_258, s123_259, s123_260, s123_261, s123_263, s123_266, s123_267, s123_270, s123_271, s123_274, s123_280, s123_283, s123_284, s123_287, s123_289, s123_290, s123_291, s123_294, s123_297, s123_298, s123_300, s123_303, K_v, K_0, acI, acA, acJ, acX, List.map_cons, List.map_nil, List.sum_cons, List.sum_nil, true_and, and_true, posT, b2_0, b2_1, bft, true_or, or_true, Nat.zero_le, Nat.reduceAdd, Nat.reduceLeDiff, hI_uI, hL_uI, hR_uI, nx_uI, sl_uI, hI_uL, hL_uL, hR_uL, nx_uL, sl_uL, hI_uR, hL_uR, hR_uR, nx_uR, sl_uR, st_eq, if_true, if_false, eq_self, Nat.reduceEqDiff, Nat.reduceMul, reduceIte, kdT, ixT, w_cl, w_ti, w_s1, w_a, w_m12, w_m8, w_m3, w_m4, ht, w_and, q3, w_lt]) (2 ^ qr_ P p) 0 r (by omega) (fun s hs => (hr s hs).iff (fun v => ⟨Or.inl, fun e => e.resolve_right (fun ⟨s', v', e1, _⟩ => absurd e1 (Nat.not_lt_zero _))⟩))
  refine ⟨z, hz1, fun Q => ?_⟩
  refine (show V_ xs d 123 211 [vA (some 33554440), vI (Int32.ofNat a), vI (Int32.ofNat p), vI (Int32.ofNat (2 ^ qr_ P p)), v4, vI (Int32.ofNat (2 ^ x ||| 2 ^ y)), vI (Int32.ofNat x), vI (Int32.ofNat y), vI (Int32.ofNat 0)] [] (uI_ h U r) Q ↔ _ from hz2 Q).trans ?_
  have nl : ¬ (2 ^ qr_ P p < 2 ^ qr_ P p) := by omega
  rw [s123_211]
  simp (disch := first | omega | assumption | decide | (apply bT_; decide)) only [s123_0, s123_1, s123_2, s123_5, s123_6, s123_7, s123_8, s123_9, s123_10, s123_12, s123_14, s123_15, s123_18, s123_19, s123_22, s123_24, s123_25, s123_28, s123_30, s123_31, s123_32, s123_35, s123_38, s123_39, s123_41, s123_43, s123_44, s123_47, s123_48, s123_49, s123_52, s123_53, s123_54, s123_55, s123_57, s123_60, s123_63, s123_66, s123_67, s123_69, s123_71, s123_72, s123_75, s123_77, s123_79, s123_80, s123_81, s123_82, s123_85, s123_86, s123_89, s123_91, s123_92, s123_94, s123_95, s123_96, s123_97, s123_100, s123_102, s123_103, s123_105, s123_106, s123_107, s123_108, s123_109, s123_112, s123_114, s123_115, s123_116, s123_117, s123_119, s123_122, s123_123, s123_126, s123_127, s123_130, s123_133, s123_136, s123_139, s123_140, s123_142, s123_144, s123_145, s123_148, s123_149, s123_150, s123_153, s123_154, s123_157, s123_158, s123_159, s123_160, s123_162, s123_163, s123_164, s123_166, s123_168, s123_171, s123_173, s123_175, s123_177, s123_180, s123_181, s123_183, s123_184, s123_185, s123_186, s123_188, s123_191, s123_194, s123_195, s123_196, s123_197, s123_199, s123_202, s123_205, s123_208, s123_209, s123_213, s123_214, s123_217, s123_219, s123_221, s123_222, s123_225, s123_226, s123_229, s123_231, s123_233, s123_234, s123_235, s123_238, s123_240, s123_242, s123_243, s123_244, s123_245, s123_248, s123_250, s123_251, s123_252, s123_253, s123_255, s123_258, s123_259, s123_260, s123_261, s123_263, s123_266, s123_267, s123_270, s123_271, s123_274, s123_280, s123_283, s123_284, s123_287, s123_289, s123_290, s123_291, s123_294, s123_297, s123_298, s123_300, s123_303, K_v, K_0, acI, acA, acJ, acX, List.map_cons, List.map_nil, List.sum_cons, List.sum_nil, true_and, and_true, posT, b2_0, b2_1, bft, true_or, or_true, Nat.zero_le, Nat.reduceAdd, Nat.reduceLeDiff, hI_uI, hL_uI, hR_uI, nx_uI, sl_uI, hI_uL, hL_uL, hR_uL, nx_uL, sl_uL, hI_uR, hL_uR, hR_uR, nx_uR, sl_uR, st_eq, if_true, if_false, eq_self, Nat.reduceEqDiff, Nat.reduceMul, reduceIte, kdT, ixT, w_cl, w_ti, w_s1, w_a, w_m12, w_m8, w_m3, w_m4, nl, w_lt]
end MGO
