/-! the model: the table of all actors -/
def KM_ (W J : List Nat) (h h' : AH) : Prop := (∀ a, a ≠ 33554440 → a ≠ 38813712 → a ≠ 39075856 → a ∉ W → hI_ h' a = hI_ h a) ∧ (∀ j, j ∉ J → hI_ h' 33554440 j = hI_ h 33554440 j) ∧ hL_ h' = hL_ h ∧ (∀ a, a ≠ 33554440 → hR_ h' a = hR_ h a) ∧ (∀ j, j ≠ 24 → j ≠ 25 → hR_ h' 33554440 j = hR_ h 33554440 j) ∧ nx_ h' = nx_ h ∧ sl_ h' = sl_ h
def RM_ (F G : Nat → Nat → Int32) (P : PS) (p σ : Nat) (Hs O : Nat → Int32) (a s v : Nat) : Prop := R_ 8 (qb_ P p) (bt_ P p) (mm_ F G P p σ Hs) (gm_ O) a s v
section MWK
variable {xs : Nat → Int32} {d : Nat} {h h1 h2 : AH} {Q : OU_ → AH → Prop} {P : PS} {na : Nat} {F G : Nat → Nat → Int32} {σ T U p a : Nat} {Hs O : Nat → Int32} {B S : Nat → Nat → Prop} {W J : List Nat}
theorem KM_.rf : KM_ W J h h := ⟨fun _ _ _ _ _ => rfl, fun _ _ => rfl, rfl, fun _ _ => rfl, fun _ _ _ => rfl, rfl, rfl⟩
theorem KM_.tr (f : KM_ W J h h1) (g : KM_ W J h1 h2) : KM_ W J h h2 := by
  obtain ⟨f1, f2, f3, f4, f5, f6, f7⟩ := f
  obtain ⟨g1, g2, g3, g4, g5, g6, g7⟩ := g
  exact ⟨fun a q1 q2 q3 q4 => (g1 a q1 q2 q3 q4).trans (f1 a q1 q2 q3 q4), fun j hj => (g2 j hj).trans (f2 j hj), g3.trans f3, fun a q => (g4 a q).trans (f4 a q), fun j q1 q2 => (g5 j q1 q2).trans (f5 j q1 q2), g6.trans f6, g7.trans f7⟩
theorem KM_.wk {W' J' : List Nat} (f : KM_ W J h h1) (hW : ∀ a, a ∈ W → a ∈ W') (hJ : ∀ j, j ∈ J → j ∈ J') : KM_ W' J' h h1 := by
  obtain ⟨f1, f2, f3, f4, f5, f6, f7⟩ := f
  exact ⟨fun a q1 q2 q3 q4 => f1 a q1 q2 q3 (fun z => q4 (hW a z)), fun j hj => f2 j (fun z => hJ j z |> hj), f3, f4, f5, f6, f7⟩
theorem KM_.uI {b : Nat} {r : Nat → Int32} (f : KM_ W J h h1) (hb : b = 38813712 ∨ b = 39075856 ∨ (b ∈ W ∧ b ≠ 33554440)) : KM_ W J h (uI_ h1 b r) := by
  obtain ⟨f1, f2, f3, f4, f5, f6, f7⟩ := f
  refine ⟨fun a q1 q2 q3 q4 => ?_, fun j hj => ?_, f3, f4, f5, f6, f7⟩
  · rw [hI_uI, if_neg]
    · exact f1 a q1 q2 q3 q4
    · intro e
      rcases hb with e2 | e2 | ⟨e2, -⟩
      · exact q2 (e.trans e2)
      · exact q3 (e.trans e2)
      · exact q4 (e ▸ e2)
  · rw [hI_uI, if_neg]
    · exact f2 j hj
    · rcases hb with rfl | rfl | ⟨-, e2⟩
      · decide
      · decide
      · exact fun e => e2 e.symm
theorem KM_.uM {j : Nat} {v : Int32} (f : KM_ W J h h1) (hj : j ∈ J) : KM_ W J h (uI_ h1 33554440 (st_ (hI_ h1 33554440) j v)) := by
  obtain ⟨f1, f2, f3, f4, f5, f6, f7⟩ := f
  refine ⟨fun a q1 q2 q3 q4 => ?_, fun k hk => ?_, f3, f4, f5, f6, f7⟩
  · rw [hI_uI, if_neg q1]; exact f1 a q1 q2 q3 q4
  · rw [hI_uI, if_pos rfl, st_eq, if_neg (fun (e : k = j) => hk (e ▸ hj))]; exact f2 k hk
theorem KM_.sw {T U : Nat} (f : KM_ W J h h1) : KM_ W J h (sw_ T U h1) := by
  obtain ⟨f1, f2, f3, f4, f5, f6, f7⟩ := f
  unfold sw_
  refine ⟨f1, f2, f3, fun a q => ?_, fun j q1 q2 => ?_, f6, f7⟩
  · rw [hR_uR, if_neg q, hR_uR, if_neg q]; exact f4 a q
  · rw [hR_uR, if_pos rfl, st_eq, if_neg q2, st_eq, if_neg q1]; exact f5 j q1 q2
theorem KM_.ms (f : KM_ W J h h1) (H : MS_ h) : MS_ h1 := by
  obtain ⟨-, -, -, -, f5, -⟩ := f
  unfold MS_ at H ⊢
  simp (disch := decide) only [f5]
  exact H
theorem KM_.mp (f : KM_ W J h h1) (hJ : 8 ∉ J) (hW : ∀ a, a ∈ W → a ∈ [38535696, 38273552, 38011408]) (H : MP_ P h) : MP_ P h1 := by
  obtain ⟨f1, f2, -⟩ := f
  have g : ∀ a, a ≠ 33554440 → a ≠ 38813712 → a ≠ 39075856 → a ∉ [38535696, 38273552, 38011408] → hI_ h1 a = hI_ h a := fun a q1 q2 q3 q4 => f1 a q1 q2 q3 (fun z => q4 (hW a z))
  exact MP_.eq (f2 8 hJ) (g _ (by decide) (by decide) (by decide) (by decide)) (g _ (by decide) (by decide) (by decide) (by decide)) (g _ (by decide) (by decide) (by decide) (by decide)) (g _ (by decide) (by decide) (by decide) (by decide)) (g _ (by decide) (by decide) (by decide) (by decide)) (g _ (by decide) (by decide) (by decide) (by decide)) (g _ (by decide) (by decide) (by decide) (by decide)) (g _ (by decide) (by decide) (by decide) (by decide)) (g _ (by decide) (by decide) (by decide) (by decide)) (g _ (by decide) (by decide) (by decide) (by decide)) H
theorem KM_.ma (f : KM_ W J h h1) (hJ : 1 ∉ J) (hW : ∀ a, a ∈ W → a ∈ [38535696, 38273552, 38011408]) (H : MA_ na F G h) : MA_ na F G h1 := by
  obtain ⟨f1, f2, -⟩ := f
  have g : ∀ a, a ≠ 33554440 → a ≠ 38813712 → a ≠ 39075856 → a ∉ [38535696, 38273552, 38011408] → hI_ h1 a = hI_ h a := fun a q1 q2 q3 q4 => f1 a q1 q2 q3 (fun z => q4 (hW a z))
  exact MA_.eq (f2 1 hJ) (g _ (by decide) (by decide) (by decide) (by decide)) (g _ (by decide) (by decide) (by decide) (by decide)) (g _ (by decide) (by decide) (by decide) (by decide)) (g _ (by decide) (by decide) (by decide) (by decide)) (g _ (by decide) (by decide) (by decide) (by decide)) (g _ (by decide) (by decide) (by decide) (by decide)) H
theorem R_bit {n nb : Nat} {bt : Nat → Nat} {may : Nat → Nat → Bool} {g : Nat → Nat → Nat} {a s v r : Nat} (H : R_ n nb bt may g a s v) (hr : s.testBit r = true) : r < n ∧ ∃ b, b < a ∧ may b r = true := by
  obtain ⟨f, ⟨v1, v2, v3⟩, rfl, rfl⟩ := H
  rw [ms_bit] at hr
  have h1 := Bool.and_eq_true_iff.mp hr
  have h2 : r < n := of_decide_eq_true h1.1
  have h3 : f r ≠ 0 := bne_iff_ne.mp h1.2
  have h4 := v2 r
  have hb : (prt_ n f (f r - 1)).testBit r = true := by
    rw [prt_bit, decide_eq_true h2, Bool.true_and]
    exact beq_iff_eq.mpr (by omega)
  have h5 := (v3 (f r - 1) (by omega)).resolve_left (fun z => by rw [z, Nat.zero_testBit] at hb; cases hb)
  exact ⟨h2, f r - 1, by omega, h5.2 r h2 hb⟩
theorem gm_le {r b : Nat} : gm_ O r b ≤ 1 := by
  cases b with
  | zero => exact Nat.zero_le _
  | succ b => show (if _ then 0 else 1) ≤ 1; split <;> omega
theorem RM_bd {s v : Nat} (H : RM_ F G P p σ Hs O a s v) : s < 2 ^ qr_ P p ∧ v < 90 := by
  constructor
  · apply Nat.lt_pow_two_of_testBit
    intro i hi
    cases hb : s.testBit i
    · rfl
    · obtain ⟨-, b, -, h2⟩ := R_bit H hb
      unfold mm_ at h2
      have := of_decide_eq_true (Bool.and_eq_true_iff.mp (Bool.and_eq_true_iff.mp h2).2).1
      omega
  · obtain ⟨f, -, -, rfl⟩ := H
    have : cw_ 8 (gm_ O) f ≤ 8 * 1 := sm_bd (fun i => gm_le)
    omega
theorem RM_zero {s v : Nat} : RM_ F G P p σ Hs O 0 s v ↔ s = 0 ∧ v = 0 := by
  unfold RM_
  rw [R_zero]
  rfl
theorem RM_step (hv : PV_ P) (hD : PD_ P) {s v : Nat} : RM_ F G P p σ Hs O (a + 1) s v ↔ SH_ (RM_ F G P p σ Hs O a) P O (mm_ F G P p σ Hs a) p a (qr_ P p + qb_ P p) s v := by
  unfold RM_
  rw [R_step (fun r => rfl) (fun i hi => (bt_lt hv hD hi).1)]
  have hm : ∀ r, mm_ F G P p σ Hs a r = true → r < qr_ P p := fun r hr => by unfold mm_ at hr; exact of_decide_eq_true (Bool.and_eq_true_iff.mp (Bool.and_eq_true_iff.mp hr).2).1
  have hl := fun m => lp_leg (mv := mm_ F G P p σ Hs) (p := p) (a := a) (m := m) hv hD hm
  have h8 := hv.2.2.1 p
  have hbits : ∀ j, j < qr_ P p + qb_ P p → ((∀ r, (cnd_ P p j).testBit r = true → mm_ F G P p σ Hs a r = true) ↔ msk_ (mm_ F G P p σ Hs a) 8 &&& cnd_ P p j = cnd_ P p j) := by
    intro j hj
    rw [and_sub]
    constructor
    · intro e r hr
      have := e r hr
      rw [msk_bit, decide_eq_true (show r < 8 by have := hm r this; omega), this]; rfl
    · intro e r hr
      have := e r hr
      rw [msk_bit] at this
      exact (Bool.and_eq_true_iff.mp this).2
  constructor
  · rintro (q | ⟨m, s', v', h1, h2, h3, h4, h5⟩)
    · exact Or.inl q
    · obtain ⟨j, hj, rfl, h6⟩ := mem_lp.mp ((hl m).mpr h1)
      exact Or.inr ⟨j, s', v', hj, (hbits j hj).mpr h6, (RM_bd h2).1, h3, h4, h2, h5⟩
  · rintro (q | ⟨j, s', v', hj, h1, h6, h3, h4, h2, h5⟩)
    · exact Or.inl q
    · exact Or.inr ⟨cnd_ P p j, s', v', (hl _).mp (mem_lp.mpr ⟨j, hj, rfl, (hbits j hj).mp h1⟩), h2, h3, h4, h5⟩
theorem MC_.sw (H : MC_ σ Hs O T U h) : MC_ σ Hs O U T (sw_ T U h) := by
  obtain ⟨e1, e2, e3, e4, e5, e6, e7⟩ := H
  unfold sw_
  refine ⟨e1, e2, e3, e4, by simp only [hI_uI, hL_uI, hR_uI, nx_uI, sl_uI, hI_uL, hL_uL, hR_uL, nx_uL, sl_uL, hI_uR, hL_uR, hR_uR, nx_uR, sl_uR, st_eq, if_true, if_false, eq_self, Nat.reduceEqDiff, Nat.reduceMul, reduceIte, kdT, ixT, w_cl, w_ti, w_s1, w_a, w_m12, w_m8, w_m3, w_m4], by simp only [hI_uI, hL_uI, hR_uI, nx_uI, sl_uI, hI_uL, hL_uL, hR_uL, nx_uL, sl_uL, hI_uR, hL_uR, hR_uR, nx_uR, sl_uR, st_eq, if_true, if_false, eq_self, Nat.reduceEqDiff, Nat.reduceMul, reduceIte, kdT, ixT, w_cl, w_ti, w_s1, w_a, w_m12, w_m8, w_m3, w_m4], ?_⟩
  rcases e7 with ⟨rfl, rfl⟩ | ⟨rfl, rfl⟩
  · exact Or.inr ⟨rfl, rfl⟩
  · exact Or.inl ⟨rfl, rfl⟩
theorem c_mworks (hM : MS_ h) (hA : MA_ na F G h) (hP : MP_ P h) (hc : MC_ σ Hs O T U h) (hD : PD_ P) (hp : p < 12) (hd : 5 ≤ d) : ∃ h' T' U', KM_ [] [] h h' ∧ MC_ σ Hs O T' U' h' ∧ (∀ s, s < 2 ^ qr_ P p → TM_ (hI_ h' T' s) (RM_ F G P p σ Hs O na s)) ∧ Do_ xs d 124 [vA (some 33554440), vI (Int32.ofNat p), vX 0] h (some none) h' := by
  have h8 := hP.2.1.2.2.1 p
  have hq1 : 2 ^ qr_ P p ≤ 2 ^ 8 := Nat.pow_le_pow_right (by omega) h8
  have hna := hA.2.1
  obtain ⟨-, -, -, -, c5, c6, c7⟩ := id hc
  have kT : kd_ T = 16 := by rcases c7.l with rfl | rfl <;> rfl
  have lT : ln_ T = 256 := by rcases c7.l with rfl | rfl <;> rfl
  obtain ⟨r1, k1, k2⟩ := loopX_ (P := fun Q t (x : Nat → Int32) => V_ xs d 124 2 [vA (some 33554440), vI (Int32.ofNat p), vI (Int32.ofNat t)] [] (uI_ h T x) Q) (n := 256) (fun t x => ∀ s, s < t → x s = if s = 0 then 0 else 100) (fun t x ht hI => by
    refine ⟨st_ x t (if t = 0 then 0 else 100), fun s hs => ?_, fun Q => ?_⟩
    · rw [st_eq]
      by_cases q : s = t
      · rw [if_pos q, q]
      · rw [if_neg q]; exact hI s (by omega)
    · have i256 : Int32.ofNat t < 256 := (w_lt (b := 256) (by omega) (by omega)).mpr ht
      rw [s124_2]
      by_cases q : t = 0
      · have z0 : Int32.ofNat t = 0 := by rw [q]; rfl
        rw [if_pos q]
        have e1 : Int32.toNatClampNeg 0 = t := by rw [q]; rfl
        have e2 : Int32.ofNat t + 1 = Int32.ofNat (t + 1) := w_s1
        simp (disch := first | omega | assumption | decide | (apply bT_; decide)) only [s124_0, s124_1, s124_3, s124_6, s124_9, s124_10, s124_13, s124_14, s124_15, s124_18, s124_19, s124_22, s124_24, s124_25, s124_28, s124_32, s124_33, s124_34, s124_35, s124_38, s124_41, s124_42, s124_43, s124_44, s124_47, s124_50, s124_53, K_v, K_0, acI, acA, acJ, acX, List.map_cons, List.map_nil, List.sum_cons, List.sum_nil, true_and, and_true, posT, b2_0, b2_1, bft, true_or, or_true, Nat.zero_le, Nat.reduceAdd, Nat.reduceLeDiff, hI_uI, hL_uI, hR_uI, nx_uI, sl_uI, hI_uL, hL_uL, hR_uL, nx_uL, sl_uL, hI_uR, hL_uR, hR_uR, nx_uR, sl_uR, st_eq, if_true, if_false, eq_self, Nat.reduceEqDiff, Nat.reduceMul, reduceIte, kdT, ixT, w_cl, w_ti, w_s1, w_a, w_m12, w_m8, w_m3, w_m4, c5, i256, if_pos z0, kT, lT, uI_uI, kd_M]
      · have z0 : ¬ (Int32.ofNat t = 0) := fun e => q ((w_eq (b := 0) (by omega) (by omega)).mp e)
        rw [if_neg q]
        simp (disch := first | omega | assumption | decide | (apply bT_; decide)) only [s124_0, s124_1, s124_3, s124_6, s124_9, s124_10, s124_13, s124_14, s124_15, s124_18, s124_19, s124_22, s124_24, s124_25, s124_28, s124_32, s124_33, s124_34, s124_35, s124_38, s124_41, s124_42, s124_43, s124_44, s124_47, s124_50, s124_53, K_v, K_0, acI, acA, acJ, acX, List.map_cons, List.map_nil, List.sum_cons, List.sum_nil, true_and, and_true, posT, b2_0, b2_1, bft, true_or, or_true, Nat.zero_le, Nat.reduceAdd, Nat.reduceLeDiff, hI_uI, hL_uI, hR_uI, nx_uI, sl_uI, hI_uL, hL_uL, hR_uL, nx_uL, sl_uL, hI_uR, hL_uR, hR_uR, nx_uR, sl_uR, st_eq, if_true, if_false, eq_self, Nat.reduceEqDiff, Nat.reduceMul, reduceIte, kdT, ixT, w_cl, w_ti, w_s1, w_a, w_m12, w_m8, w_m3, w_m4, c5, i256, if_neg z0, kT, lT, uI_uI, kd_M]) 256 0 (hI_ h T) (by omega) (fun s hs => absurd hs (Nat.not_lt_zero _))
  have kf0 : KM_ [] [] h (uI_ h T r1) := KM_.rf.uI (by rcases c7.l with e | e; exact Or.inl e; exact Or.inr (Or.inl e))
  obtain ⟨⟨z, T', U'⟩, ⟨z1, z2, z3⟩, z4⟩ := loopX_ (P := fun Q i (x : AH × Nat × Nat) => V_ xs d 124 33 [vA (some 33554440), vI (Int32.ofNat p), vI (Int32.ofNat i)] [] x.1 Q) (n := na) (fun i x => KM_ [] [] h x.1 ∧ MC_ σ Hs O x.2.1 x.2.2 x.1 ∧ ∀ s, s < 2 ^ qr_ P p → TM_ (hI_ x.1 x.2.1 s) (RM_ F G P p σ Hs O i s)) (fun i x hi hI => by
    obtain ⟨x, T1, U1⟩ := x
    obtain ⟨i1, i2, i3⟩ := hI
    dsimp only at i1 i2 i3
    have hAx := i1.ma (by decide) (by decide) hA
    obtain ⟨r', u1, u2⟩ := c_goesOn (xs := xs) (d := d - 1) (i1.ms hM) hAx (i1.mp (by decide) (by decide) hP) i2 hD hi hp i3 (fun s v hv => (RM_bd hv).2) (by omega)
    have hU := i2.2.2.2.2.2.2.r
    refine ⟨(sw_ T1 U1 (uI_ x U1 r'), U1, T1), ⟨(i1.uI (by rcases hU with e | e; exact Or.inl e; exact Or.inr (Or.inl e))).sw, (i2.tu hU).sw, fun s hs => ?_⟩, fun Q => ?_⟩
    · have e : hI_ (sw_ T1 U1 (uI_ x U1 r')) U1 s = r' s := by unfold sw_; simp only [hI_uI, hL_uI, hR_uI, nx_uI, sl_uI, hI_uL, hL_uL, hR_uL, nx_uL, sl_uL, hI_uR, hL_uR, hR_uR, nx_uR, sl_uR, st_eq, if_true, if_false, eq_self, Nat.reduceEqDiff, Nat.reduceMul, reduceIte, kdT, ixT, w_cl, w_ti, w_s1, w_a, w_m12, w_m8, w_m3, w_m4]
      rw [e]
      exact (u1 s hs).iff (fun v => (RM_step hP.2.1 hD).symm)
    · have e1 := hAx.1
      unfold Do_ at u2
      dsimp only
      rw [s124_33]
      simp (disch := first | omega | assumption | decide | (apply bT_; decide)) only [s124_0, s124_1, s124_2, s124_3, s124_6, s124_9, s124_10, s124_13, s124_14, s124_15, s124_18, s124_19, s124_22, s124_24, s124_25, s124_28, s124_31, s124_32, s124_34, s124_35, s124_38, s124_41, s124_42, s124_43, s124_44, s124_47, s124_50, s124_53, K_v, K_0, acI, acA, acJ, acX, List.map_cons, List.map_nil, List.sum_cons, List.sum_nil, true_and, and_true, posT, b2_0, b2_1, bft, true_or, or_true, Nat.zero_le, Nat.reduceAdd, Nat.reduceLeDiff, hI_uI, hL_uI, hR_uI, nx_uI, sl_uI, hI_uL, hL_uL, hR_uL, nx_uL, sl_uL, hI_uR, hL_uR, hR_uR, nx_uR, sl_uR, st_eq, if_true, if_false, eq_self, Nat.reduceEqDiff, Nat.reduceMul, reduceIte, kdT, ixT, w_cl, w_ti, w_s1, w_a, w_m12, w_m8, w_m3, w_m4, e1, u2, hi, w_lt, kd_M]) na 0 (uI_ h T r1, T, U) (by omega) ⟨kf0, hc.tu c7.l, fun s hs => by
    dsimp only
    simp only [hI_uI, hL_uI, hR_uI, nx_uI, sl_uI, hI_uL, hL_uL, hR_uL, nx_uL, sl_uL, hI_uR, hL_uR, hR_uR, nx_uR, sl_uR, st_eq, if_true, if_false, eq_self, Nat.reduceEqDiff, Nat.reduceMul, reduceIte, kdT, ixT, w_cl, w_ti, w_s1, w_a, w_m12, w_m8, w_m3, w_m4]
    rw [k1 s (by omega)]
    by_cases q : s = 0
    · rw [if_pos q]
      exact ⟨0, rfl, Or.inr ⟨by omega, RM_zero.mpr ⟨q, rfl⟩, fun v _ => Nat.zero_le _⟩⟩
    · rw [if_neg q]
      exact ⟨100, rfl, Or.inl ⟨rfl, fun v hv => q (RM_zero.mp hv).1⟩⟩⟩
  refine ⟨z, T', U', z1, z2, z3, fun Q => ?_⟩
  have e12 := k2 Q
  rw [uI_self] at e12
  simp (disch := first | omega | assumption | decide | (apply bT_; decide)) only [s124_0, s124_1, s124_3, s124_6, s124_9, s124_10, s124_13, s124_14, s124_15, s124_18, s124_19, s124_22, s124_24, s124_25, s124_28, s124_31, s124_32, s124_33, s124_34, s124_35, s124_38, s124_41, s124_42, s124_43, s124_44, s124_47, s124_50, s124_53, K_v, K_0, acI, acA, acJ, acX, List.map_cons, List.map_nil, List.sum_cons, List.sum_nil, true_and, and_true, posT, b2_0, b2_1, bft, true_or, or_true, Nat.zero_le, Nat.reduceAdd, Nat.reduceLeDiff, hI_uI, hL_uI, hR_uI, nx_uI, sl_uI, hI_uL, hL_uL, hR_uL, nx_uL, sl_uL, hI_uR, hL_uR, hR_uR, nx_uR, sl_uR, st_eq, if_true, if_false, eq_self, Nat.reduceEqDiff, Nat.reduceMul, reduceIte, kdT, ixT, w_cl, w_ti, w_s1, w_a, w_m12, w_m8, w_m3, w_m4]
  refine (show V_ xs d 124 2 [vA (some 33554440), vI (Int32.ofNat p), vI (Int32.ofNat 0)] [] h Q ↔ _ from e12).trans ?_
  have nl : ¬ (Int32.ofNat 256 < 256) := by decide
  rw [s124_2]
  simp (disch := first | omega | assumption | decide | (apply bT_; decide)) only [s124_0, s124_1, s124_3, s124_6, s124_9, s124_10, s124_13, s124_14, s124_15, s124_18, s124_19, s124_22, s124_24, s124_25, s124_28, s124_31, s124_32, s124_34, s124_35, s124_38, s124_41, s124_42, s124_43, s124_44, s124_47, s124_50, s124_53, K_v, K_0, acI, acA, acJ, acX, List.map_cons, List.map_nil, List.sum_cons, List.sum_nil, true_and, and_true, posT, b2_0, b2_1, bft, true_or, or_true, Nat.zero_le, Nat.reduceAdd, Nat.reduceLeDiff, hI_uI, hL_uI, hR_uI, nx_uI, sl_uI, hI_uL, hL_uL, hR_uL, nx_uL, sl_uL, hI_uR, hL_uR, hR_uR, nx_uR, sl_uR, st_eq, if_true, if_false, eq_self, Nat.reduceEqDiff, Nat.reduceMul, reduceIte, kdT, ixT, w_cl, w_ti, w_s1, w_a, w_m12, w_m8, w_m3, w_m4, nl]
  refine (show V_ xs d 124 33 [vA (some 33554440), vI (Int32.ofNat p), vI (Int32.ofNat 0)] [] (uI_ h T r1) Q ↔ _ from z4 Q).trans ?_
  have nl2 : ¬ (na < na) := by omega
  have e1 := (z1.ma (by decide) (by decide) hA).1
  rw [s124_33]
  simp (disch := first | omega | assumption | decide | (apply bT_; decide)) only [s124_0, s124_1, s124_2, s124_3, s124_6, s124_9, s124_10, s124_13, s124_14, s124_15, s124_18, s124_19, s124_22, s124_24, s124_25, s124_28, s124_31, s124_32, s124_34, s124_35, s124_38, s124_41, s124_42, s124_43, s124_44, s124_47, s124_50, s124_53, K_v, K_0, acI, acA, acJ, acX, List.map_cons, List.map_nil, List.sum_cons, List.sum_nil, true_and, and_true, posT, b2_0, b2_1, bft, true_or, or_true, Nat.zero_le, Nat.reduceAdd, Nat.reduceLeDiff, hI_uI, hL_uI, hR_uI, nx_uI, sl_uI, hI_uL, hL_uL, hR_uL, nx_uL, sl_uL, hI_uR, hL_uR, hR_uR, nx_uR, sl_uR, st_eq, if_true, if_false, eq_self, Nat.reduceEqDiff, Nat.reduceMul, reduceIte, kdT, ixT, w_cl, w_ti, w_s1, w_a, w_m12, w_m8, w_m3, w_m4, e1, nl2, w_lt, kd_M]
end MWK
