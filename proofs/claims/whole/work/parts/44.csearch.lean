/-! the finder of casts: search -/
def mv_ (F G : Nat → Nat → Int32) (P : PS) (p w a r : Nat) : Bool := w.testBit r && (decide (r < qr_ P p) && abl_ F G P a p r)
def RC_ (F G : Nat → Nat → Int32) (P : PS) (p w c a s v : Nat) : Prop := R_ 8 (qb_ P p) (bt_ P p) (mv_ F G P p w) (gw_ c) a s v
theorem gw_le {c r b : Nat} : gw_ c r b ≤ 137438953472 := by
  cases b with
  | zero => exact Nat.zero_le _
  | succ b =>
    have h1 : 16 ^ (7 - r) ≤ 16 ^ 7 := Nat.pow_le_pow_right (by omega) (by omega)
    have h2 : (12 - b) * 16 ^ (7 - r) ≤ 12 * 16 ^ 7 := Nat.mul_le_mul (by omega) h1
    show 4294967296 + (12 - b) * 16 ^ (7 - r) + (if dg_ c r = 12 - b then 68719476736 else 0) ≤ _
    split <;> omega
theorem sm_bd {g : Nat → Nat} {k : Nat} (h : ∀ i, g i ≤ k) : ∀ {n : Nat}, sm_ g n ≤ n * k := by
  intro n
  induction n with
  | zero => exact Nat.zero_le _
  | succ n ih =>
    have := h n
    show sm_ g n + g n ≤ (n + 1) * k
    rw [Nat.add_mul]
    omega
theorem pw_bd {c a m : Nat} : pw_ 8 (gw_ c) a m < 1152921504606846976 := by
  have : pw_ 8 (gw_ c) a m ≤ 8 * 137438953472 := sm_bd (fun i => by
    split
    · exact gw_le
    · omega)
  omega
theorem cw_bd {c : Nat} {f : Nat → Nat} : cw_ 8 (gw_ c) f < 1152921504606846976 := by
  have : cw_ 8 (gw_ c) f ≤ 8 * 137438953472 := sm_bd (fun i => gw_le)
  omega
theorem LX_.mx {x y : Int64} {S T : Nat → Prop} (h : LX_ x S) (k : LX_ y T) (hS : ∀ v, S v → v < 9223372036854775808) (hT : ∀ v, T v → v < 9223372036854775808) : LX_ (if x < y then y else x) (fun v => S v ∨ T v) := by
  obtain ⟨o, rfl, h2⟩ := h
  obtain ⟨p, rfl, k2⟩ := k
  cases p with
  | none =>
    have e : ¬ (lv_ o < lv_ none) := by
      cases o with
      | none => exact Int64.lt_irrefl
      | some y =>
        rw [Int64.lt_iff_toInt_lt, show lv_ (some y) = Int64.ofNat y from rfl, l_ti (hS y h2.1)]
        show ¬ (_ < (-1 : Int))
        omega
    rw [if_neg e]
    exact ⟨o, rfl, h2.iff (fun v => ⟨Or.inl, fun z => z.resolve_right (k2 v)⟩)⟩
  | some w =>
    have := LX_.step (S := S) (T := T) (w := w) (k := 0) ⟨o, rfl, h2⟩ hS k2.1 k2.2 (hT w k2.1)
    exact this.iff (fun v => by
      constructor
      · rintro (z | ⟨u, z, rfl⟩)
        · exact Or.inl z
        · exact Or.inr z
      · rintro (z | z)
        · exact Or.inl z
        · exact Or.inr ⟨v, z, rfl⟩)
section CSR
variable {xs : Nat → Int32} {d : Nat} {h : AH} {Q : OU_ → AH → Prop} {P : PS} {sp sa : Nat → Nat} {na : Nat} {F G : Nat → Nat → Int32} {p a c w s v : Nat}
theorem RC_sub (H : RC_ F G P p w c a s v) : s &&& w = s ∧ v < 1152921504606846976 := by
  obtain ⟨f, ⟨v1, v2, v3⟩, rfl, rfl⟩ := H
  refine ⟨?_, cw_bd⟩
  rw [Nat.and_comm]
  refine and_sub.mpr (fun r hr => ?_)
  rw [ms_bit] at hr
  have h1 := Bool.and_eq_true_iff.mp hr
  have h2 : r < 8 := of_decide_eq_true h1.1
  have h3 : f r ≠ 0 := bne_iff_ne.mp h1.2
  have h4 := v2 r
  have hb : (prt_ 8 f (f r - 1)).testBit r = true := by
    rw [prt_bit, decide_eq_true h2, Bool.true_and]
    exact beq_iff_eq.mpr (by omega)
  have h5 := (v3 (f r - 1) (by omega)).resolve_left (fun z => by rw [z, Nat.zero_testBit] at hb; cases hb)
  have h6 := h5.2 r h2 hb
  unfold mv_ at h6
  exact (Bool.and_eq_true_iff.mp h6).1
theorem RC_zero : RC_ F G P p w c 0 s v ↔ s = 0 ∧ v = 0 := by
  unfold RC_
  rw [R_zero]
  rfl
theorem RC_step (hv : PV_ P) (hD : PD_ P) : RC_ F G P p w c (a + 1) s v ↔ SF_ (RC_ F G P p w c a) c a (lp_ P p (msk_ (mv_ F G P p w a) 8) (qr_ P p + qb_ P p)) s v := by
  unfold RC_
  rw [R_step (fun r => rfl) (fun i hi => (bt_lt hv hD hi).1)]
  have hl := fun m => lp_leg (mv := mv_ F G P p w) (p := p) (a := a) (m := m) hv hD (fun r hr => by unfold mv_ at hr; exact of_decide_eq_true (Bool.and_eq_true_iff.mp (Bool.and_eq_true_iff.mp hr).2).1)
  constructor
  · rintro (q | ⟨m, s', v', h1, h2, h3, h4, h5⟩)
    · exact Or.inl q
    · exact Or.inr ⟨m, s', v', (hl m).mpr h1, h2, h3, h4, h5⟩
  · rintro (q | ⟨m, s', v', h1, h2, h3, h4, h5⟩)
    · exact Or.inl q
    · exact Or.inr ⟨m, s', v', (hl m).mp h1, h2, h3, h4, h5⟩
theorem RC_mono (hv : PV_ P) (hD : PD_ P) : ∀ {b : Nat}, a ≤ b → RC_ F G P p w c a s v → RC_ F G P p w c b s v := by
  intro b
  induction b with
  | zero => intro hab H; rw [show a = 0 by omega] at H; exact H
  | succ b ih =>
    intro hab H
    by_cases q : a = b + 1
    · rw [← q]; exact H
    · exact (RC_step hv hD).mpr (Or.inl (ih (by omega) H))
theorem c_begin (hC : CS_ h) (hd : 1 ≤ d) : ∃ r, (∀ s, s < 256 → LX_ (r s) (RC_ F G P p w c 0 s)) ∧ Do_ xs d 19 [vA (some 25952258)] h (some none) (uL_ h 26230803 r) := by
  have hf := fun Q => c_fillL (xs := xs) (d := d - 1) (h := h) (Q := Q) (a := 26230803) (v := -1) rfl (by decide)
  refine ⟨st_ (fun j => if j < ln_ 26230803 then -1 else hL_ h 26230803 j) 0 0, fun s hs => ?_, fun Q => ?_⟩
  · by_cases q : s = 0
    · rw [st_eq, if_pos q]
      exact ⟨some 0, rfl, RC_zero.mpr ⟨q, rfl⟩, fun v hv => by rw [(RC_zero.mp hv).2]; exact Nat.le_refl _⟩
    · rw [st_eq, if_neg q]
      rw [if_pos (show s < ln_ 26230803 from hs)]
      exact ⟨none, rfl, fun v hv => q (RC_zero.mp hv).1⟩
  · simp (disch := first | omega | assumption | decide | (apply bT_; decide)) only [s19_0, s19_1, s19_4, s19_7, s19_10, s19_11, s19_14, s19_15, s19_16, s19_17, K_v, K_0, acI, acA, acJ, acX, List.map_cons, List.map_nil, List.sum_cons, List.sum_nil, true_and, and_true, posT, b2_0, b2_1, bft, true_or, or_true, Nat.zero_le, Nat.reduceAdd, Nat.reduceLeDiff, hI_uI, hL_uI, hR_uI, nx_uI, sl_uI, hI_uL, hL_uL, hR_uL, nx_uL, sl_uL, hI_uR, hL_uR, hR_uR, nx_uR, sl_uR, st_eq, if_true, if_false, eq_self, Nat.reduceEqDiff, Nat.reduceMul, reduceIte, kdT, ixT, w_cl, w_ti, w_s1, w_a, w_m12, w_m8, w_m3, w_m4, hC.x0, hC.x2, hC.x4, hC.x7, hC.x8, hC.x9, hC.x11, hC.f0, hC.f1, hC.f2, hC.p0, hC.p1, hC.p2, hC.p3, hC.l1, hC.l2, hC.l3, hC.l4, hC.d0, hC.d1, hC.d2, hC.g1, hC.g2, hC.g3, hC.g4, hC.k1, hC.k2, hC.k3, hC.k4, hf, uL_uL, kd_FI, kd_BEST]
    simp (disch := first | omega | assumption | decide | (apply bT_; decide)) only [s19_0, s19_1, s19_4, s19_7, s19_10, s19_11, s19_14, s19_15, s19_16, s19_17, K_v, K_0, acI, acA, acJ, acX, List.map_cons, List.map_nil, List.sum_cons, List.sum_nil, true_and, and_true, posT, b2_0, b2_1, bft, true_or, or_true, Nat.zero_le, Nat.reduceAdd, Nat.reduceLeDiff, hI_uI, hL_uI, hR_uI, nx_uI, sl_uI, hI_uL, hL_uL, hR_uL, nx_uL, sl_uL, hI_uR, hL_uR, hR_uR, nx_uR, sl_uR, st_eq, if_true, if_false, eq_self, Nat.reduceEqDiff, Nat.reduceMul, reduceIte, kdT, ixT, w_cl, w_ti, w_s1, w_a, w_m12, w_m8, w_m3, w_m4, hC.x0, hC.x2, hC.x4, hC.x7, hC.x8, hC.x9, hC.x11, hC.f0, hC.f1, hC.f2, hC.p0, hC.p1, hC.p2, hC.p3, hC.l1, hC.l2, hC.l3, hC.l4, hC.d0, hC.d1, hC.d2, hC.g1, hC.g2, hC.g3, hC.g4, hC.k1, hC.k2, hC.k3, hC.k4, uL_uL, kd_FI, ln_FI, kd_BEST, ln_BEST]
    exact ⟨fun z => z.2, fun z => ⟨w_ix (a := 0) (n := 256) (by omega) (by omega), z⟩⟩
theorem c_offer (hC : CS_ h) (hA : CA_ na sa F G h) (hP : CP_ P sp h) (hD : PD_ P) (ha : a < na) (hp : p < qn_ P) (hw : w < 256) (hc : c < 9223372036854775808) (hrow : ∀ s, s < 256 → LX_ (hL_ h 26230803 s) (RC_ F G P p w c a s)) (hd : 4 ≤ d) : ∃ h', KF_ h h' ∧ (∀ s, s < 256 → LX_ (hL_ h' 26230803 s) (RC_ F G P p w c (a + 1) s)) ∧ Do_ xs d 20 [vA (some 25952258), vA (some (mk_ (sp p) 4 0)), vA (some (mk_ (sa a) 0 0)), vI (Int32.ofNat a), vJ (Int64.ofNat c), vX 0, vI (Int32.ofNat w)] h (some none) h' := by
  have h8 := hP.2.1.2.2.1 p
  have h3 := hP.2.1.2.2.2 p
  have hna := hA.2.1
  have hk0 : kd_ (mk_ (sp p) 4 0) = 4 := kd_mk (by omega)
  have em : msk_ (abl_ F G P a p) (qr_ P p) &&& w = msk_ (mv_ F G P p w a) 8 := by
    apply Nat.eq_of_testBit_eq
    intro r
    rw [Nat.testBit_and, msk_bit, msk_bit]
    unfold mv_
    by_cases q : r < qr_ P p
    · rw [decide_eq_true q, decide_eq_true (show r < 8 by omega), Bool.true_and, Bool.true_and]
      exact Bool.and_comm _ _
    · rw [decide_eq_false q, Bool.false_and, Bool.false_and, Bool.and_false, Bool.and_false]
  have hA8 : msk_ (mv_ F G P p w a) 8 < 256 := msk_lt
  obtain ⟨h1, k1, k2, k3, k4⟩ := c_listParts (xs := xs) (d := d - 1) (a := a) hC hP hD hp (by omega) hc hA8 (by omega)
  have hll : (lp_ P p (msk_ (mv_ F G P p w a) 8) (qr_ P p + qb_ P p)).length ≤ _ := lp_len
  have hleg := fun m => lp_leg (mv := mv_ F G P p w) (p := p) (a := a) (m := m) hP.2.1 hD (fun r hr => by unfold mv_ at hr; exact of_decide_eq_true (Bool.and_eq_true_iff.mp (Bool.and_eq_true_iff.mp hr).2).1)
  obtain ⟨r2, g1, g2⟩ := c_giveParts (xs := xs) (d := d - 1) (B := RC_ F G P p w c a) (k1.cs hC) hw k3 (by omega) (fun m hm => by
    have hm' := (hleg m).mp hm
    refine ⟨?_, leg_lt (fun i hi => (bt_lt hP.2.1 hD hi).1) hm', pw_bd⟩
    rcases hm'.1 with ⟨r, -, rfl⟩ | ⟨i, hi, rfl⟩
    · exact Nat.ne_of_gt (Nat.two_pow_pos r)
    · obtain ⟨-, -, x, y, -, -, e⟩ := bt_lt (p := p) hP.2.1 hD hi
      rw [e]
      have : 2 ^ x ≤ 2 ^ x ||| 2 ^ y := Nat.left_le_or
      have := Nat.two_pow_pos x
      omega) (fun s v hv => RC_sub hv) (fun s hs => by rw [k2]; exact hrow s hs)
  refine ⟨uL_ h1 26230803 r2, k1.uL (by decide), fun s hs => ?_, fun Q => ?_⟩
  · simp only [hI_uI, hL_uI, hR_uI, nx_uI, sl_uI, hI_uL, hL_uL, hR_uL, nx_uL, sl_uL, hI_uR, hL_uR, hR_uR, nx_uR, sl_uR, st_eq, if_true, if_false, eq_self, Nat.reduceEqDiff, Nat.reduceMul, reduceIte, kdT, ixT, w_cl, w_ti, w_s1, w_a, w_m12, w_m8, w_m3, w_m4]
    exact (g1 s hs).iff (fun v => (RC_step hP.2.1 hD).symm)
  · unfold Do_ at k4 g2
    have e1 : (12 : Int32) - Int32.ofNat a = Int32.ofNat (12 - a) := w_sub (a := 12) (by omega)
    simp (disch := first | omega | assumption | decide | (apply bT_; decide)) only [s20_0, s20_1, s20_4, s20_5, s20_6, s20_7, s20_8, s20_11, s20_13, s20_14, s20_16, s20_17, s20_18, s20_20, s20_23, s20_24, s20_26, s20_29, K_v, K_0, acI, acA, acJ, acX, List.map_cons, List.map_nil, List.sum_cons, List.sum_nil, true_and, and_true, posT, b2_0, b2_1, bft, true_or, or_true, Nat.zero_le, Nat.reduceAdd, Nat.reduceLeDiff, hI_uI, hL_uI, hR_uI, nx_uI, sl_uI, hI_uL, hL_uL, hR_uL, nx_uL, sl_uL, hI_uR, hL_uR, hR_uR, nx_uR, sl_uR, st_eq, if_true, if_false, eq_self, Nat.reduceEqDiff, Nat.reduceMul, reduceIte, kdT, ixT, w_cl, w_ti, w_s1, w_a, w_m12, w_m8, w_m3, w_m4, c_rolesFor hA hP ha hp, w_and, em, e1, k4, g2, hk0, kd_FI, reduceCtorEq]
theorem c_offer0 {v : AV} {x : Int32} {y : Int64} {z : Int32} : Do_ xs d 20 [vA (some 25952258), v, vA none, vI x, vJ y, vX 0, vI z] h (some none) h := by
  intro Q
  simp (disch := first | omega | assumption | decide | (apply bT_; decide)) only [s20_0, s20_1, s20_4, s20_5, s20_6, s20_7, s20_8, s20_11, s20_13, s20_14, s20_16, s20_17, s20_18, s20_20, s20_23, s20_24, s20_26, s20_29, K_v, K_0, acI, acA, acJ, acX, List.map_cons, List.map_nil, List.sum_cons, List.sum_nil, true_and, and_true, posT, b2_0, b2_1, bft, true_or, or_true, Nat.zero_le, Nat.reduceAdd, Nat.reduceLeDiff, hI_uI, hL_uI, hR_uI, nx_uI, sl_uI, hI_uL, hL_uL, hR_uL, nx_uL, sl_uL, hI_uR, hL_uR, hR_uR, nx_uR, sl_uR, st_eq, if_true, if_false, eq_self, Nat.reduceEqDiff, Nat.reduceMul, reduceIte, kdT, ixT, w_cl, w_ti, w_s1, w_a, w_m12, w_m8, w_m3, w_m4]
theorem c_maxJ {x y : Int64} : V_ xs d 185 0 [vJ x, vX 0, vJ y, vX 0] [] h Q ↔ Q (some (some (vJ (if x < y then y else x)))) h := by
  simp (disch := first | omega | assumption | decide | (apply bT_; decide)) only [s185_0, s185_1, s185_2, s185_3, s185_6, s185_7, s185_10, s185_11, K_v, K_0, acI, acA, acJ, acX, List.map_cons, List.map_nil, List.sum_cons, List.sum_nil, true_and, and_true, posT, b2_0, b2_1, bft, true_or, or_true, Nat.zero_le, Nat.reduceAdd, Nat.reduceLeDiff, lgd_lt]
  split <;> rfl
theorem w_dec {x : Int32} : x + (-1) = x - 1 := (Int32.sub_eq_add_neg x 1).symm
theorem c_search1 (hC : CS_ h) (hA : CA_ na sa F G h) (hP : CP_ P sp h) (hD : PD_ P) (hp : p < qn_ P) (hw : w < 256) (hc : c < 9223372036854775808) (hrow : ∀ s, s < 256 → LX_ (hL_ h 26230803 s) (RC_ F G P p w c 0 s)) (hd : 5 ≤ d) : ∃ h', KF_ h h' ∧ (∀ s, s < 256 → LX_ (hL_ h' 26230803 s) (RC_ F G P p w c na s)) ∧ ∀ Q, V_ xs d 17 13 [vA (some 25952258), vA (some (mk_ (sp p) 4 0)), vA (some 25428756), vJ (Int64.ofNat c), vX 0, vI (Int32.ofNat w), vI (Int32.ofNat 0), vX 0, vX 0] [] h Q ↔ V_ xs d 17 13 [vA (some 25952258), vA (some (mk_ (sp p) 4 0)), vA (some 25428756), vJ (Int64.ofNat c), vX 0, vI (Int32.ofNat w), vI (Int32.ofNat 12), vX 0, vX 0] [] h' Q := by
  have hak : 16 ≤ kd_ 25428756 ∧ kd_ 25428756 ≤ 22 ∨ 34 ≤ kd_ 25428756 ∧ kd_ 25428756 ≤ 36 := by decide
  have hb : kd_ 25428756 = 20 ∨ kd_ 25428756 = 21 ∨ kd_ 25428756 = 22 := Or.inl rfl
  have hna := hA.2.1
  obtain ⟨z, ⟨hz1, hz2⟩, hz3⟩ := loopX_ (P := fun Q i (x : AH) => V_ xs d 17 13 [vA (some 25952258), vA (some (mk_ (sp p) 4 0)), vA (some 25428756), vJ (Int64.ofNat c), vX 0, vI (Int32.ofNat w), vI (Int32.ofNat i), vX 0, vX 0] [] x Q) (n := 12) (fun i x => KF_ h x ∧ ∀ s, s < 256 → LX_ (hL_ x 26230803 s) (RC_ F G P p w c (min i na) s)) (fun i x hi hI => by
    obtain ⟨i1, i2⟩ := hI
    have hAx := i1.ca hA
    have i12 : Int32.ofNat i < 12 := (w_lt (b := 12) (by omega) (by omega)).mpr hi
    by_cases q : i < na
    · rw [show min i na = i by omega] at i2
      obtain ⟨y, k1, k2, k3⟩ := c_offer (xs := xs) (d := d - 1) (i1.cs hC) hAx (i1.cp hP) hD q hp hw hc i2 (by omega)
      refine ⟨y, ⟨i1.tr k1, by rw [show min (i + 1) na = i + 1 by omega]; exact k2⟩, fun Q => ?_⟩
      have e1 := (hAx.2.2.1 i q).1
      unfold Do_ at k3
      rw [s17_13]
      simp (disch := first | omega | assumption | decide | (apply bT_; decide)) only [s17_0, s17_1, s17_4, s17_6, s17_7, s17_10, s17_11, s17_15, s17_16, s17_17, s17_20, s17_21, s17_22, s17_23, s17_25, s17_26, s17_28, s17_29, s17_31, s17_34, s17_37, s17_43, s17_45, s17_47, s17_49, s17_51, s17_52, s17_55, s17_58, s17_60, s17_61, s17_64, s17_65, s17_66, s17_69, s17_72, s17_74, s17_75, s17_78, s17_80, s17_81, s17_84, s17_86, s17_89, s17_92, s17_94, K_v, K_0, acI, acA, acJ, acX, List.map_cons, List.map_nil, List.sum_cons, List.sum_nil, true_and, and_true, posT, b2_0, b2_1, bft, true_or, or_true, Nat.zero_le, Nat.reduceAdd, Nat.reduceLeDiff, hI_uI, hL_uI, hR_uI, nx_uI, sl_uI, hI_uL, hL_uL, hR_uL, nx_uL, sl_uL, hI_uR, hL_uR, hR_uR, nx_uR, sl_uR, st_eq, if_true, if_false, eq_self, Nat.reduceEqDiff, Nat.reduceMul, reduceIte, kdT, ixT, w_cl, w_ti, w_s1, w_a, w_m12, w_m8, w_m3, w_m4, e1, k3, i12, hi, w_lt, kd_ACT, ln_ACT, kd_FI, ln_FI]
    · refine ⟨x, ⟨i1, by rw [show min (i + 1) na = min i na by omega]; exact i2⟩, fun Q => ?_⟩
      have e1 := hAx.2.2.2.1 i (by omega) hi
      have k3 := c_offer0 (xs := xs) (d := d - 1) (h := x) (v := vA (some (mk_ (sp p) 4 0))) (x := Int32.ofNat i) (y := Int64.ofNat c) (z := Int32.ofNat w)
      unfold Do_ at k3
      rw [s17_13]
      simp (disch := first | omega | assumption | decide | (apply bT_; decide)) only [s17_0, s17_1, s17_4, s17_6, s17_7, s17_10, s17_11, s17_15, s17_16, s17_17, s17_20, s17_21, s17_22, s17_23, s17_25, s17_26, s17_28, s17_29, s17_31, s17_34, s17_37, s17_43, s17_45, s17_47, s17_49, s17_51, s17_52, s17_55, s17_58, s17_60, s17_61, s17_64, s17_65, s17_66, s17_69, s17_72, s17_74, s17_75, s17_78, s17_80, s17_81, s17_84, s17_86, s17_89, s17_92, s17_94, K_v, K_0, acI, acA, acJ, acX, List.map_cons, List.map_nil, List.sum_cons, List.sum_nil, true_and, and_true, posT, b2_0, b2_1, bft, true_or, or_true, Nat.zero_le, Nat.reduceAdd, Nat.reduceLeDiff, hI_uI, hL_uI, hR_uI, nx_uI, sl_uI, hI_uL, hL_uL, hR_uL, nx_uL, sl_uL, hI_uR, hL_uR, hR_uR, nx_uR, sl_uR, st_eq, if_true, if_false, eq_self, Nat.reduceEqDiff, Nat.reduceMul, reduceIte, kdT, ixT, w_cl, w_ti, w_s1, w_a, w_m12, w_m8, w_m3, w_m4, e1, k3, i12, hi, w_lt, kd_ACT, ln_ACT, kd_FI, ln_FI]) 12 0 h (by omega) ⟨KF_.rf, by rw [Nat.zero_min]; exact hrow⟩
  rw [show min 12 na = na by omega] at hz2
  exact ⟨z, hz1, hz2, hz3⟩
theorem c_search2 {nd : Nat} {v5 : AV} (hC : CS_ h) (hP : CP_ P sp h) (hp : p < qn_ P) (hn : nd < 256) (hN : hI_ h (mk_ (sp p) 4 0) 5 = Int32.ofNat nd) (hrow : ∀ s, s < 256 → LX_ (hL_ h 26230803 s) (RC_ F G P p w c a s)) (hd : 1 ≤ d) : ∀ (t : Nat) (x : Int64), t ≤ 256 → LX_ x (fun v => ∃ s, t ≤ s ∧ s &&& nd = nd ∧ s < 256 ∧ RC_ F G P p w c a s v) → ∃ y, LX_ y (fun v => ∃ s, s &&& nd = nd ∧ s < 256 ∧ RC_ F G P p w c a s v) ∧ ∀ Q, V_ xs d 17 49 [vA (some 25952258), vA (some (mk_ (sp p) 4 0)), vA (some 25428756), vJ (Int64.ofNat c), vX 0, v5, vJ x, vX 0, vI (Int32.ofNat t - 1)] [] h Q ↔ Q (some (some (vJ y))) h := by
  have hk0 : kd_ (mk_ (sp p) 4 0) = 4 := kd_mk (by omega)
  intro t
  induction t with
  | zero =>
    intro x ht hx
    refine ⟨x, hx.iff (fun v => ⟨fun ⟨s, _, g⟩ => ⟨s, g⟩, fun ⟨s, g⟩ => ⟨s, Nat.zero_le _, g⟩⟩), fun Q => ?_⟩
    have e : Int32.ofNat 0 - 1 < Int32.ofNat nd := by
      rw [Int32.lt_iff_toInt_lt, w_ti (by omega)]
      show (-1 : Int) < _
      omega
    rw [s17_49]
    simp (disch := first | omega | assumption | decide | (apply bT_; decide)) only [s17_0, s17_1, s17_4, s17_6, s17_7, s17_10, s17_11, s17_13, s17_15, s17_16, s17_17, s17_20, s17_21, s17_22, s17_23, s17_25, s17_26, s17_28, s17_29, s17_31, s17_34, s17_37, s17_40, s17_43, s17_45, s17_47, s17_51, s17_52, s17_55, s17_58, s17_60, s17_61, s17_64, s17_65, s17_66, s17_69, s17_72, s17_74, s17_75, s17_78, s17_80, s17_81, s17_84, s17_86, s17_89, s17_92, s17_94, K_v, K_0, acI, acA, acJ, acX, List.map_cons, List.map_nil, List.sum_cons, List.sum_nil, true_and, and_true, posT, b2_0, b2_1, bft, true_or, or_true, Nat.zero_le, Nat.reduceAdd, Nat.reduceLeDiff, hI_uI, hL_uI, hR_uI, nx_uI, sl_uI, hI_uL, hL_uL, hR_uL, nx_uL, sl_uL, hI_uR, hL_uR, hR_uR, nx_uR, sl_uR, st_eq, if_true, if_false, eq_self, Nat.reduceEqDiff, Nat.reduceMul, reduceIte, kdT, ixT, w_cl, w_ti, w_s1, w_a, w_m12, w_m8, w_m3, w_m4, hN, hk0, e]
  | succ t ih =>
    intro x ht hx
    have e1 : Int32.ofNat (t + 1) - 1 = Int32.ofNat t := w_sub (b := 1) (by omega)
    rw [e1]
    by_cases q : t < nd
    · refine ⟨x, hx.iff (fun v => ⟨fun ⟨s, _, g⟩ => ⟨s, g⟩, fun ⟨s, g⟩ => ⟨s, by
        have : s &&& nd ≤ s := Nat.and_le_left
        have := g.1
        omega, g⟩⟩), fun Q => ?_⟩
      · rw [s17_49]
        simp (disch := first | omega | assumption | decide | (apply bT_; decide)) only [s17_0, s17_1, s17_4, s17_6, s17_7, s17_10, s17_11, s17_13, s17_15, s17_16, s17_17, s17_20, s17_21, s17_22, s17_23, s17_25, s17_26, s17_28, s17_29, s17_31, s17_34, s17_37, s17_40, s17_43, s17_45, s17_47, s17_51, s17_52, s17_55, s17_58, s17_60, s17_61, s17_64, s17_65, s17_66, s17_69, s17_72, s17_74, s17_75, s17_78, s17_80, s17_81, s17_84, s17_86, s17_89, s17_92, s17_94, K_v, K_0, acI, acA, acJ, acX, List.map_cons, List.map_nil, List.sum_cons, List.sum_nil, true_and, and_true, posT, b2_0, b2_1, bft, true_or, or_true, Nat.zero_le, Nat.reduceAdd, Nat.reduceLeDiff, hI_uI, hL_uI, hR_uI, nx_uI, sl_uI, hI_uL, hL_uL, hR_uL, nx_uL, sl_uL, hI_uR, hL_uR, hR_uR, nx_uR, sl_uR, st_eq, if_true, if_false, eq_self, Nat.reduceEqDiff, Nat.reduceMul, reduceIte, kdT, ixT, w_cl, w_ti, w_s1, w_a, w_m12, w_m8, w_m3, w_m4, hN, hk0, w_lt, q]
    · by_cases q2 : t &&& nd = nd
      · obtain ⟨y, g1, g2⟩ := ih (if x < hL_ h 26230803 t then hL_ h 26230803 t else x) (by omega) ((hx.mx (hrow t (by omega)) (fun v ⟨s, _, _, _, g⟩ => by have := (RC_sub g).2; omega) (fun v g => by have := (RC_sub g).2; omega)).iff (fun v => by
          constructor
          · rintro (⟨s, g1, g2, g3, g4⟩ | g)
            · exact ⟨s, by omega, g2, g3, g4⟩
            · exact ⟨t, Nat.le_refl _, q2, by omega, g⟩
          · rintro ⟨s, g1, g2, g3, g4⟩
            by_cases e : s = t
            · right; rw [← e]; exact g4
            · exact Or.inl ⟨s, by omega, g2, g3, g4⟩))
        refine ⟨y, g1, fun Q => Iff.trans ?_ (g2 Q)⟩
        rw [s17_49]
        simp (disch := first | omega | assumption | decide | (apply bT_; decide)) only [s17_0, s17_1, s17_4, s17_6, s17_7, s17_10, s17_11, s17_13, s17_15, s17_16, s17_17, s17_20, s17_21, s17_22, s17_23, s17_25, s17_26, s17_28, s17_29, s17_31, s17_34, s17_37, s17_40, s17_43, s17_45, s17_47, s17_51, s17_52, s17_55, s17_58, s17_60, s17_61, s17_64, s17_65, s17_66, s17_69, s17_72, s17_74, s17_75, s17_78, s17_80, s17_81, s17_84, s17_86, s17_89, s17_92, s17_94, K_v, K_0, acI, acA, acJ, acX, List.map_cons, List.map_nil, List.sum_cons, List.sum_nil, true_and, and_true, posT, b2_0, b2_1, bft, true_or, or_true, Nat.zero_le, Nat.reduceAdd, Nat.reduceLeDiff, hI_uI, hL_uI, hR_uI, nx_uI, sl_uI, hI_uL, hL_uL, hR_uL, nx_uL, sl_uL, hI_uR, hL_uR, hR_uR, nx_uR, sl_uR, st_eq, if_true, if_false, eq_self, Nat.reduceEqDiff, Nat.reduceMul, reduceIte, kdT, ixT, w_cl, w_ti, w_s1, w_a, w_m12, w_m8, w_m3, w_m4, hC.x0, hC.x2, hC.x4, hC.x7, hC.x8, hC.x9, hC.x11, hC.f0, hC.f1, hC.f2, hC.p0, hC.p1, hC.p2, hC.p3, hC.l1, hC.l2, hC.l3, hC.l4, hC.d0, hC.d1, hC.d2, hC.g1, hC.g2, hC.g3, hC.g4, hC.k1, hC.k2, hC.k3, hC.k4, hN, hk0, w_lt, q, q2, w_and, c_maxJ, w_dec, kd_FI, ln_FI, kd_BEST, ln_BEST]
      · obtain ⟨y, g1, g2⟩ := ih x (by omega) (hx.iff (fun v => by
          constructor
          · rintro ⟨s, g1, g2, g3, g4⟩
            exact ⟨s, by omega, g2, g3, g4⟩
          · rintro ⟨s, g1, g2, g3, g4⟩
            by_cases e : s = t
            · rw [e] at g2; exact absurd g2 q2
            · exact ⟨s, by omega, g2, g3, g4⟩))
        refine ⟨y, g1, fun Q => Iff.trans ?_ (g2 Q)⟩
        have q3 : ¬ (Int32.ofNat (t &&& nd) = Int32.ofNat nd) := fun z => q2 ((w_eq (by have : t &&& nd ≤ t := Nat.and_le_left; omega) (by omega)).mp z)
        rw [s17_49]
        simp (disch := first | omega | assumption | decide | (apply bT_; decide)) only [s17_0, s17_1, s17_4, s17_6, s17_7, s17_10, s17_11, s17_13, s17_15, s17_16, s17_17, s17_20, s17_21, s17_22, s17_23, s17_25, s17_26, s17_28, s17_29, s17_31, s17_34, s17_37, s17_40, s17_43, s17_45, s17_47, s17_51, s17_52, s17_55, s17_58, s17_60, s17_61, s17_64, s17_65, s17_66, s17_69, s17_72, s17_74, s17_75, s17_78, s17_80, s17_81, s17_84, s17_86, s17_89, s17_92, s17_94, K_v, K_0, acI, acA, acJ, acX, List.map_cons, List.map_nil, List.sum_cons, List.sum_nil, true_and, and_true, posT, b2_0, b2_1, bft, true_or, or_true, Nat.zero_le, Nat.reduceAdd, Nat.reduceLeDiff, hI_uI, hL_uI, hR_uI, nx_uI, sl_uI, hI_uL, hL_uL, hR_uL, nx_uL, sl_uL, hI_uR, hL_uR, hR_uR, nx_uR, sl_uR, st_eq, if_true, if_false, eq_self, Nat.reduceEqDiff, Nat.reduceMul, reduceIte, kdT, ixT, w_cl, w_ti, w_s1, w_a, w_m12, w_m8, w_m3, w_m4, hC.x0, hC.x2, hC.x4, hC.x7, hC.x8, hC.x9, hC.x11, hC.f0, hC.f1, hC.f2, hC.p0, hC.p1, hC.p2, hC.p3, hC.l1, hC.l2, hC.l3, hC.l4, hC.d0, hC.d1, hC.d2, hC.g1, hC.g2, hC.g3, hC.g4, hC.k1, hC.k2, hC.k3, hC.k4, hN, hk0, w_lt, q, q3, w_and, w_dec]
/-- the roles that a play needs -/
def nd_ (P : PS) (p : Nat) : Nat := msk_ (qd_ P p) (qr_ P p)
theorem c_search (hC : CS_ h) (hA : CA_ na sa F G h) (hP : CP_ P sp h) (hD : PD_ P) (hp : p < qn_ P) (hc : c < 9223372036854775808) (hd : 6 ≤ d) : ∃ h' y, KF_ h h' ∧ LX_ y (fun v => ∃ s, s &&& nd_ P p = nd_ P p ∧ RC_ F G P p (2 ^ qr_ P p - 1) c na s v) ∧ Do_ xs d 17 [vA (some 25952258), vA (some (mk_ (sp p) 4 0)), vA (some 25428756), vJ (Int64.ofNat c), vX 0, vX 0, vX 0, vX 0, vX 0] h (some (some (vJ y))) h' := by
  have h8 := hP.2.1.2.2.1 p
  have hk0 : kd_ (mk_ (sp p) 4 0) = 4 := kd_mk (by omega)
  have hq1 : 2 ^ qr_ P p ≤ 2 ^ 8 := Nat.pow_le_pow_right (by omega) h8
  have hq0 := Nat.two_pow_pos (qr_ P p)
  have hw : 2 ^ qr_ P p - 1 < 256 := by omega
  obtain ⟨t1, t2, t3⟩ := hP.2.2.2.2.2.1 p hp
  have eall : (1 : Int32) <<< (Int32.ofNat (qr_ P p) &&& 31) - 1 = Int32.ofNat (2 ^ qr_ P p - 1) := by
    rw [w_shl _ (by omega)]
    exact w_sub (b := 1) (by omega)
  have hak : 16 ≤ kd_ 25428756 ∧ kd_ 25428756 ≤ 22 ∨ 34 ≤ kd_ 25428756 ∧ kd_ 25428756 ≤ 36 := by decide
  obtain ⟨r0, b1, b2⟩ := c_begin (xs := xs) (d := d - 1) (h := h) (F := F) (G := G) (P := P) (p := p) (w := 2 ^ qr_ P p - 1) (c := c) hC (by omega)
  have kf0 : KF_ h (uL_ h 26230803 r0) := KF_.rf.uL (by decide)
  obtain ⟨h1, k1, k2, k3⟩ := c_search1 (xs := xs) (d := d) (kf0.cs hC) (kf0.ca hA) (kf0.cp hP) hD hp hw hc (fun s hs => by simp only [hI_uI, hL_uI, hR_uI, nx_uI, sl_uI, hI_uL, hL_uL, hR_uL, nx_uL, sl_uL, hI_uR, hL_uR, hR_uR, nx_uR, sl_uR, st_eq, if_true, if_false, eq_self, Nat.reduceEqDiff, Nat.reduceMul, reduceIte, kdT, ixT, w_cl, w_ti, w_s1, w_a, w_m12, w_m8, w_m3, w_m4]; exact b1 s hs) (by omega)
  have k4 := kf0.tr k1
  have hN := ((k4.cp hP).2.2.2.2.2.1 p hp).2.1
  have hnl : nd_ P p < 2 ^ qr_ P p := msk_lt
  obtain ⟨y, g1, g2⟩ := c_search2 (xs := xs) (d := d) (v5 := vI (Int32.ofNat (2 ^ qr_ P p - 1))) (k4.cs hC) (k4.cp hP) hp (nd := nd_ P p) (by omega) hN k2 (by omega) (2 ^ qr_ P p) (-1) (by omega) ⟨none, rfl, fun v ⟨s, u1, u2, u3, u4⟩ => by
    have := (RC_sub u4).1
    have : s &&& (2 ^ qr_ P p - 1) ≤ 2 ^ qr_ P p - 1 := Nat.and_le_right
    omega⟩
  refine ⟨h1, y, k4, g1.iff (fun v => ⟨fun ⟨s, u1, u2, u3⟩ => ⟨s, u1, u3⟩, fun ⟨s, u1, u3⟩ => ⟨s, u1, by
    have := (RC_sub u3).1
    have : s &&& (2 ^ qr_ P p - 1) ≤ 2 ^ qr_ P p - 1 := Nat.and_le_right
    omega, u3⟩⟩), fun Q => ?_⟩
  · unfold Do_ at b2
    simp (disch := first | omega | assumption | decide | (apply bT_; decide)) only [s17_0, s17_1, s17_4, s17_6, s17_7, s17_10, s17_11, s17_15, s17_16, s17_17, s17_20, s17_21, s17_22, s17_23, s17_25, s17_26, s17_28, s17_29, s17_31, s17_34, s17_37, s17_40, s17_43, s17_45, s17_47, s17_49, s17_51, s17_52, s17_55, s17_58, s17_60, s17_61, s17_64, s17_65, s17_66, s17_69, s17_72, s17_74, s17_75, s17_78, s17_80, s17_81, s17_84, s17_86, s17_89, s17_92, s17_94, K_v, K_0, acI, acA, acJ, acX, List.map_cons, List.map_nil, List.sum_cons, List.sum_nil, true_and, and_true, posT, b2_0, b2_1, bft, true_or, or_true, Nat.zero_le, Nat.reduceAdd, Nat.reduceLeDiff, hI_uI, hL_uI, hR_uI, nx_uI, sl_uI, hI_uL, hL_uL, hR_uL, nx_uL, sl_uL, hI_uR, hL_uR, hR_uR, nx_uR, sl_uR, st_eq, if_true, if_false, eq_self, Nat.reduceEqDiff, Nat.reduceMul, reduceIte, kdT, ixT, w_cl, w_ti, w_s1, w_a, w_m12, w_m8, w_m3, w_m4, c_allRoles hk0, t1, eall, b2, hk0, kd_FI]
    refine (k3 Q).trans ?_
    have i12 : ¬ (Int32.ofNat 12 < 12) := by decide
    have i13 : ¬ (Int32.ofNat 12 < Int32.ofNat 12) := by decide
    rw [s17_13]
    simp (disch := first | omega | assumption | decide | (apply bT_; decide)) only [s17_0, s17_1, s17_4, s17_6, s17_7, s17_10, s17_11, s17_15, s17_16, s17_17, s17_20, s17_21, s17_22, s17_23, s17_25, s17_26, s17_28, s17_29, s17_31, s17_34, s17_37, s17_40, s17_43, s17_45, s17_47, s17_51, s17_52, s17_55, s17_58, s17_60, s17_61, s17_64, s17_65, s17_66, s17_69, s17_72, s17_74, s17_75, s17_78, s17_80, s17_81, s17_84, s17_86, s17_89, s17_92, s17_94, K_v, K_0, acI, acA, acJ, acX, List.map_cons, List.map_nil, List.sum_cons, List.sum_nil, true_and, and_true, posT, b2_0, b2_1, bft, true_or, or_true, Nat.zero_le, Nat.reduceAdd, Nat.reduceLeDiff, hI_uI, hL_uI, hR_uI, nx_uI, sl_uI, hI_uL, hL_uL, hR_uL, nx_uL, sl_uL, hI_uR, hL_uR, hR_uR, nx_uR, sl_uR, st_eq, if_true, if_false, eq_self, Nat.reduceEqDiff, Nat.reduceMul, reduceIte, kdT, ixT, w_cl, w_ti, w_s1, w_a, w_m12, w_m8, w_m3, w_m4, i12, i13, kd_ACT, ln_ACT]
    have e1 : Int32.ofNat (2 ^ qr_ P p) - 1 = Int32.ofNat (2 ^ qr_ P p - 1) := w_sub (b := 1) (by omega)
    rw [← e1]
    have := g2 Q
    rw [e1] at this ⊢
    exact this
end CSR
