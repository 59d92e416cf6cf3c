/-! the finder of casts: what an actor may have -/
def KF_ (h h' : AH) : Prop := (∀ a, a ≠ 25952258 → a ≠ 26230803 → a ≠ 26477264 → a ≠ 26739411 → hI_ h' a = hI_ h a ∧ hL_ h' a = hL_ h a) ∧ hR_ h' = hR_ h ∧ nx_ h' = nx_ h ∧ sl_ h' = sl_ h
section KFS
variable {h h1 h2 : AH} {P : PS} {sp sa : Nat → Nat} {na : Nat} {F G : Nat → Nat → Int32}
theorem KF_.rf : KF_ h h := ⟨fun _ _ _ _ _ => ⟨rfl, rfl⟩, rfl, rfl, rfl⟩
theorem KF_.tr (f : KF_ h h1) (g : KF_ h1 h2) : KF_ h h2 := by
  obtain ⟨f1, f2, f3, f4⟩ := f
  obtain ⟨g1, g2, g3, g4⟩ := g
  exact ⟨fun a q1 q2 q3 q4 => ⟨(g1 a q1 q2 q3 q4).1.trans (f1 a q1 q2 q3 q4).1, (g1 a q1 q2 q3 q4).2.trans (f1 a q1 q2 q3 q4).2⟩, g2.trans f2, g3.trans f3, g4.trans f4⟩
theorem KF_.uI {b : Nat} {r : Nat → Int32} (f : KF_ h h1) (hb : b = 25952258 ∨ b = 26230803 ∨ b = 26477264 ∨ b = 26739411) : KF_ h (uI_ h1 b r) := by
  obtain ⟨f1, f2, f3, f4⟩ := f
  refine ⟨fun a q1 q2 q3 q4 => ?_, f2, f3, f4⟩
  rw [hI_uI, hL_uI, if_neg (by omega)]
  exact f1 a q1 q2 q3 q4
theorem KF_.uL {b : Nat} {r : Nat → Int64} (f : KF_ h h1) (hb : b = 25952258 ∨ b = 26230803 ∨ b = 26477264 ∨ b = 26739411) : KF_ h (uL_ h1 b r) := by
  obtain ⟨f1, f2, f3, f4⟩ := f
  refine ⟨fun a q1 q2 q3 q4 => ?_, f2, f3, f4⟩
  rw [hI_uL, hL_uL, if_neg (by omega)]
  exact f1 a q1 q2 q3 q4
theorem KF_.cs (f : KF_ h h1) (H : CS_ h) : CS_ h1 := by
  obtain ⟨-, f2, -⟩ := f
  unfold CS_ at H ⊢
  rw [f2]
  exact H
theorem KF_.ser (f : KF_ h h1) {s k n : Nat} (hs : 164 ≤ s) (hk : k < 64) (hn : n < 4096) : hI_ h1 (mk_ s k n) = hI_ h (mk_ s k n) ∧ hR_ h1 (mk_ s k n) = hR_ h (mk_ s k n) := by
  obtain ⟨f1, f2, -⟩ := f
  have hm : mk_ s k n = (s * 4096 + n) * 64 + k := rfl
  exact ⟨(f1 _ (by omega) (by omega) (by omega) (by omega)).1, by rw [f2]⟩
theorem KF_.cp (f : KF_ h h1) (H : CP_ P sp h) : CP_ P sp h1 := by
  refine H.fr ?_ ?_ (fun s hs _ => ⟨(f.ser hs (by omega) (by omega)).1, (f.ser hs (by omega) (by omega)).2, (f.ser hs (by omega) (by omega)).1, (f.ser hs (by omega) (by omega)).1⟩) (by rw [f.2.2.1]; exact Nat.le_refl _)
  · rw [(f.1 25165831 (by decide) (by decide) (by decide) (by decide)).1]
  · rw [f.2.1]
theorem KF_.ca (f : KF_ h h1) (H : CA_ na sa F G h) : CA_ na sa F G h1 := by
  refine H.fr ?_ ?_ (fun s hs _ => ⟨(f.ser hs (by omega) (by omega)).1, (f.ser hs (by omega) (by omega)).2, (f.ser hs (by omega) (by omega)).1⟩) (by rw [f.2.2.1]; exact Nat.le_refl _)
  · rw [(f.1 25165831 (by decide) (by decide) (by decide) (by decide)).1]
  · rw [f.2.1]
end KFS
/-- the doubles are of two roles each -/
def PD_ (P : PS) : Prop := ∀ p i, i < qb_ P p → ∃ a b, a < b ∧ b < qr_ P p ∧ qt_ P p i = Int32.ofNat (2 ^ a ||| 2 ^ b)
def bt_ (P : PS) (p i : Nat) : Nat := (qt_ P p i).toNatClampNeg
def cnd_ (P : PS) (p i : Nat) : Nat := if i < qr_ P p then 2 ^ i else bt_ P p (i - qr_ P p)
def lp_ (P : PS) (p A : Nat) : Nat → List Nat
  | 0 => []
  | i + 1 => if A &&& cnd_ P p i = cnd_ P p i then lp_ P p A i ++ [cnd_ P p i] else lp_ P p A i
theorem gd_l {l : List Nat} {x j : Nat} (h : j < l.length) : (l ++ [x]).getD j 0 = l.getD j 0 := by rw [List.getD_eq_getElem?_getD, List.getD_eq_getElem?_getD, List.getElem?_append_left h]
theorem gd_r {l : List Nat} {x : Nat} : (l ++ [x]).getD l.length 0 = x := by rw [List.getD_eq_getElem?_getD, List.getElem?_append_right (Nat.le_refl _), Nat.sub_self]; rfl
def PT_ (c a : Nat) (l : List Nat) (h : AH) : Prop := hI_ h 25952258 3 = Int32.ofNat l.length ∧ ∀ j, j < l.length → hI_ h 26477264 j = Int32.ofNat (l.getD j 0) ∧ hL_ h 26739411 j = Int64.ofNat (pw_ 8 (gw_ c) a (l.getD j 0))
section CFL
variable {xs : Nat → Int32} {d : Nat} {h : AH} {Q : OU_ → AH → Prop} {P : PS} {sp sa : Nat → Nat} {na : Nat} {F G : Nat → Nat → Int32} {p a c A : Nat}
theorem bt_lt (hv : PV_ P) (hD : PD_ P) {i : Nat} (hi : i < qb_ P p) : bt_ P p i < 256 ∧ qt_ P p i = Int32.ofNat (bt_ P p i) ∧ ∃ a b, a < b ∧ b < qr_ P p ∧ bt_ P p i = 2 ^ a ||| 2 ^ b := by
  obtain ⟨a, b, h1, h2, h3⟩ := hD p i hi
  have h8 := hv.2.2.1 p
  have hlt : 2 ^ a ||| 2 ^ b < 2 ^ 8 := Nat.or_lt_two_pow (Nat.pow_lt_pow_right (by omega) (by omega)) (Nat.pow_lt_pow_right (by omega) (by omega))
  have e : bt_ P p i = 2 ^ a ||| 2 ^ b := by unfold bt_; rw [h3, w_cl (by omega)]
  exact ⟨by rw [e]; exact hlt, by rw [e, h3], a, b, h1, h2, e⟩
theorem cnd_lt (hv : PV_ P) (hD : PD_ P) {i : Nat} (hi : i < qr_ P p + qb_ P p) : cnd_ P p i < 256 := by
  unfold cnd_
  have h8 := hv.2.2.1 p
  split
  · exact Nat.pow_lt_pow_right (n := 8) (by omega) (by omega)
  · exact (bt_lt hv hD (by omega)).1
theorem lp_len : ∀ {i : Nat}, (lp_ P p A i).length ≤ i := by
  intro i
  induction i with
  | zero => exact Nat.le_refl _
  | succ i ih =>
    unfold lp_
    split
    · rw [List.length_append]; exact Nat.add_le_add_right ih 1
    · omega
theorem mem_lp {m : Nat} : ∀ {i : Nat}, m ∈ lp_ P p A i ↔ ∃ j, j < i ∧ m = cnd_ P p j ∧ A &&& m = m := by
  intro i
  induction i with
  | zero =>
    constructor
    · intro z; cases z
    · rintro ⟨j, hj, -⟩; omega
  | succ i ih =>
    unfold lp_
    split
    · rename_i q
      rw [List.mem_append, ih, List.mem_singleton]
      constructor
      · rintro (⟨j, h1, h2, h3⟩ | rfl)
        · exact ⟨j, by omega, h2, h3⟩
        · exact ⟨i, by omega, rfl, q⟩
      · rintro ⟨j, h1, h2, h3⟩
        by_cases e : j = i
        · right; rw [h2, e]
        · exact Or.inl ⟨j, by omega, h2, h3⟩
    · rename_i q
      rw [ih]
      constructor
      · rintro ⟨j, h1, h2, h3⟩; exact ⟨j, by omega, h2, h3⟩
      · rintro ⟨j, h1, h2, h3⟩
        by_cases e : j = i
        · rw [h2, e] at h3; exact absurd h3 q
        · exact ⟨j, by omega, h2, h3⟩
theorem and_sub {A m : Nat} : A &&& m = m ↔ ∀ r, m.testBit r = true → A.testBit r = true := by
  constructor
  · intro h r hr
    rw [← h, Nat.testBit_and] at hr
    exact (Bool.and_eq_true_iff.mp hr).1
  · intro h
    apply Nat.eq_of_testBit_eq
    intro r
    rw [Nat.testBit_and]
    cases hb : m.testBit r
    · exact Bool.and_false _
    · rw [h r hb]; rfl
theorem lp_leg {mv : Nat → Nat → Bool} (hv : PV_ P) (hD : PD_ P) (hm : ∀ r, mv a r = true → r < qr_ P p) {m : Nat} : m ∈ lp_ P p (msk_ (mv a) 8) (qr_ P p + qb_ P p) ↔ leg_ 8 (qb_ P p) (bt_ P p) mv a m := by
  have h8 := hv.2.2.1 p
  rw [mem_lp]
  unfold leg_
  constructor
  · rintro ⟨j, hj, rfl, h3⟩
    refine ⟨?_, fun r hr hb => ?_⟩
    · unfold cnd_
      by_cases q : j < qr_ P p
      · rw [if_pos q]; exact Or.inl ⟨j, by omega, rfl⟩
      · rw [if_neg q]; exact Or.inr ⟨j - qr_ P p, by omega, rfl⟩
    · have := and_sub.mp h3 r hb
      rw [msk_bit, decide_eq_true hr, Bool.true_and] at this
      exact this
  · rintro ⟨h1, h2⟩
    have h3 : m < 256 := by
      rcases h1 with ⟨r, hr, rfl⟩ | ⟨i, hi, rfl⟩
      · exact Nat.pow_lt_pow_right (n := 8) (by omega) hr
      · exact (bt_lt hv hD hi).1
    have h4 : msk_ (mv a) 8 &&& m = m := and_sub.mpr (fun r hr => by
      have hr8 : r < 8 := by
        rcases Nat.lt_or_ge r 8 with q | q
        · exact q
        · rw [bit_lt (n := 8) h3 q] at hr; cases hr
      rw [msk_bit, decide_eq_true hr8, h2 r hr8 hr]; rfl)
    rcases h1 with ⟨r, hr, rfl⟩ | ⟨i, hi, rfl⟩
    · have hq : r < qr_ P p := hm r (h2 r hr (by rw [Nat.testBit_two_pow_self]))
      exact ⟨r, by omega, by unfold cnd_; rw [if_pos hq], h4⟩
    · exact ⟨qr_ P p + i, by omega, by unfold cnd_; rw [if_neg (by omega), Nat.add_sub_cancel_left], h4⟩
theorem c_listParts (hC : CS_ h) (hP : CP_ P sp h) (hD : PD_ P) (hp : p < qn_ P) (ha : a < 12) (hc : c < 9223372036854775808) (hA : A < 256) (hd : 2 ≤ d) : ∃ h', KF_ h h' ∧ hL_ h' 26230803 = hL_ h 26230803 ∧ PT_ c a (lp_ P p A (qr_ P p + qb_ P p)) h' ∧ Do_ xs d 21 [vA (some 25952258), vA (some (mk_ (sp p) 4 0)), vI (Int32.ofNat A), vI (Int32.ofNat (12 - a)), vJ (Int64.ofNat c), vX 0, vX 0, vX 0] h (some none) h' := by
  have h8 := hP.2.1.2.2.1 p
  have h3 := hP.2.1.2.2.2 p
  have hk0 : kd_ (mk_ (sp p) 4 0) = 4 := kd_mk (by omega)
  have hk3 : kd_ (mk_ (sp p + 3) 16 3) = 16 := kd_mk (by omega)
  have hl3 : ln_ (mk_ (sp p + 3) 16 3) = 3 := ln_mk (by omega) (by omega)
  have hak : 16 ≤ kd_ 26477264 ∧ kd_ 26477264 ≤ 22 ∨ 34 ≤ kd_ 26477264 ∧ kd_ 26477264 ≤ 36 := by decide
  have L9 := fun Q => loop_ (P := fun i (x : AH × AV) => V_ xs d 21 8 [vA (some 25952258), vA (some (mk_ (sp p) 4 0)), vI (Int32.ofNat A), vI (Int32.ofNat (12 - a)), vJ (Int64.ofNat c), vX 0, vI (Int32.ofNat i), x.2] [] x.1 Q) (f := fun i (x : AH × AV) => if A &&& cnd_ P p i = cnd_ P p i then (uI_ (uL_ (uI_ x.1 26477264 (st_ (hI_ x.1 26477264) (lp_ P p A i).length (Int32.ofNat (cnd_ P p i)))) 26739411 (st_ (hL_ x.1 26739411) (lp_ P p A i).length (Int64.ofNat (pw_ 8 (gw_ c) a (cnd_ P p i))))) 25952258 (st_ (hI_ x.1 25952258) 3 (Int32.ofNat ((lp_ P p A i).length + 1))), vI (Int32.ofNat (cnd_ P p i))) else (x.1, vI (Int32.ofNat (cnd_ P p i)))) (n := qr_ P p + qb_ P p) (fun i x => KF_ h x.1 ∧ hL_ x.1 26230803 = hL_ h 26230803 ∧ PT_ c a (lp_ P p A i) x.1) (fun i x hi hI => by
    obtain ⟨x, v⟩ := x
    obtain ⟨i1, i2, i3, i4⟩ := hI
    dsimp only at i1 i2 i3 i4 ⊢
    have hCx := i1.cs hC
    have hPx := i1.cp hP
    obtain ⟨g1, g2, g3, g4, g5, g6, g7, g8, g9⟩ := id hPx
    obtain ⟨u1, u2, u3, u4, u5, u6⟩ := g3 p hp
    obtain ⟨t1, t2, t3⟩ := g6 p hp
    have hcl := cnd_lt hPx.2.1 hD hi
    have hll : (lp_ P p A i).length ≤ i := lp_len
    have hi11 : i < 11 := by omega
    have h64 := l_i64 (12 - a) (by omega)
    have hw := fun h Q => c_worthOf (xs := xs) (d := d - 1) (h := h) (Q := Q) (m := cnd_ P p i) hcl ha hc (by omega)
    have q3 : ¬ (A &&& cnd_ P p i = cnd_ P p i) → ¬ (Int32.ofNat (A &&& cnd_ P p i) = Int32.ofNat (cnd_ P p i)) := fun q e => q ((w_eq (by have : A &&& cnd_ P p i ≤ A := Nat.and_le_left; omega) (by omega)).mp e)
    constructor
    · rw [s21_8]
      by_cases q : i < qr_ P p
      · have ec : cnd_ P p i = 2 ^ i := by unfold cnd_; rw [if_pos q]
        have hsh := w_shl i (by omega)
        rw [← ec] at hsh
        by_cases q2 : A &&& cnd_ P p i = cnd_ P p i
        · rw [if_pos q2]
          simp (disch := first | omega | assumption | decide | (apply bT_; decide)) only [s21_0, s21_1, s21_2, s21_5, s21_6, s21_10, s21_11, s21_14, s21_15, s21_18, s21_19, s21_22, s21_24, s21_25, s21_28, s21_29, s21_32, s21_34, s21_35, s21_38, s21_41, s21_42, s21_44, s21_45, s21_48, s21_49, s21_52, s21_54, s21_55, s21_58, s21_59, s21_60, s21_62, s21_63, s21_65, s21_66, s21_68, s21_71, s21_72, s21_75, s21_76, s21_79, s21_81, s21_82, s21_83, s21_86, s21_87, s21_90, s21_92, s21_93, s21_94, s21_96, s21_99, s21_100, s21_101, s21_101i, s21_102, s21_105, s21_106, s21_107, s21_110, s21_113, s21_116, K_v, K_0, acI, acA, acJ, acX, List.map_cons, List.map_nil, List.sum_cons, List.sum_nil, true_and, and_true, posT, b2_0, b2_1, bft, true_or, or_true, Nat.zero_le, Nat.reduceAdd, Nat.reduceLeDiff, hI_uI, hL_uI, hR_uI, nx_uI, sl_uI, hI_uL, hL_uL, hR_uL, nx_uL, sl_uL, hI_uR, hL_uR, hR_uR, nx_uR, sl_uR, st_eq, if_true, if_false, eq_self, Nat.reduceEqDiff, Nat.reduceMul, reduceIte, kdT, ixT, w_cl, w_ti, w_s1, w_a, w_m12, w_m8, w_m3, w_m4, hCx.x0, hCx.x2, hCx.x4, hCx.x7, hCx.x8, hCx.x9, hCx.x11, hCx.f0, hCx.f1, hCx.f2, hCx.p0, hCx.p1, hCx.p2, hCx.p3, hCx.l1, hCx.l2, hCx.l3, hCx.l4, hCx.d0, hCx.d1, hCx.d2, hCx.g1, hCx.g2, hCx.g3, hCx.g4, hCx.k1, hCx.k2, hCx.k3, hCx.k4, t1, t3, hi, hi11, q, q2, hsh, hw, h64, i3, w_and, w_eq, w_lt, hk0, kd_FI, ln_FI, kd_PR, ln_PR, kd_PW, ln_PW]
        · rw [if_neg q2]
          simp (disch := first | omega | assumption | decide | (apply bT_; decide)) only [s21_0, s21_1, s21_2, s21_5, s21_6, s21_10, s21_11, s21_14, s21_15, s21_18, s21_19, s21_22, s21_24, s21_25, s21_28, s21_29, s21_32, s21_34, s21_35, s21_38, s21_41, s21_42, s21_44, s21_45, s21_48, s21_49, s21_52, s21_54, s21_55, s21_58, s21_59, s21_60, s21_62, s21_63, s21_65, s21_66, s21_68, s21_71, s21_72, s21_75, s21_76, s21_79, s21_81, s21_82, s21_83, s21_86, s21_87, s21_90, s21_92, s21_93, s21_94, s21_96, s21_99, s21_100, s21_101, s21_101i, s21_102, s21_105, s21_106, s21_107, s21_110, s21_113, s21_116, K_v, K_0, acI, acA, acJ, acX, List.map_cons, List.map_nil, List.sum_cons, List.sum_nil, true_and, and_true, posT, b2_0, b2_1, bft, true_or, or_true, Nat.zero_le, Nat.reduceAdd, Nat.reduceLeDiff, hI_uI, hL_uI, hR_uI, nx_uI, sl_uI, hI_uL, hL_uL, hR_uL, nx_uL, sl_uL, hI_uR, hL_uR, hR_uR, nx_uR, sl_uR, st_eq, if_true, if_false, eq_self, Nat.reduceEqDiff, Nat.reduceMul, reduceIte, kdT, ixT, w_cl, w_ti, w_s1, w_a, w_m12, w_m8, w_m3, w_m4, hCx.x0, hCx.x2, hCx.x4, hCx.x7, hCx.x8, hCx.x9, hCx.x11, hCx.f0, hCx.f1, hCx.f2, hCx.p0, hCx.p1, hCx.p2, hCx.p3, hCx.l1, hCx.l2, hCx.l3, hCx.l4, hCx.d0, hCx.d1, hCx.d2, hCx.g1, hCx.g2, hCx.g3, hCx.g4, hCx.k1, hCx.k2, hCx.k3, hCx.k4, t1, t3, hi, hi11, q, q3 q2, hsh, w_and, w_eq, w_lt, hk0, kd_FI, ln_FI, kd_PR, ln_PR, kd_PW, ln_PW]
      · have ec : cnd_ P p i = bt_ P p (i - qr_ P p) := by unfold cnd_; rw [if_neg q]
        have eb : hI_ x (mk_ (sp p + 3) 16 3) (i - qr_ P p) = Int32.ofNat (cnd_ P p i) := by rw [g8 p _ hp (by omega), ec]; exact (bt_lt hPx.2.1 hD (by omega)).2.1
        have es := w_sub (a := i) (b := qr_ P p) (by omega)
        by_cases q2 : A &&& cnd_ P p i = cnd_ P p i
        · rw [if_pos q2]
          simp (disch := first | omega | assumption | decide | (apply bT_; decide)) only [s21_0, s21_1, s21_2, s21_5, s21_6, s21_10, s21_11, s21_14, s21_15, s21_18, s21_19, s21_22, s21_24, s21_25, s21_28, s21_29, s21_32, s21_34, s21_35, s21_38, s21_41, s21_42, s21_44, s21_45, s21_48, s21_49, s21_52, s21_54, s21_55, s21_58, s21_59, s21_60, s21_62, s21_63, s21_65, s21_66, s21_68, s21_71, s21_72, s21_75, s21_76, s21_79, s21_81, s21_82, s21_83, s21_86, s21_87, s21_90, s21_92, s21_93, s21_94, s21_96, s21_99, s21_100, s21_101, s21_101i, s21_102, s21_105, s21_106, s21_107, s21_110, s21_113, s21_116, K_v, K_0, acI, acA, acJ, acX, List.map_cons, List.map_nil, List.sum_cons, List.sum_nil, true_and, and_true, posT, b2_0, b2_1, bft, true_or, or_true, Nat.zero_le, Nat.reduceAdd, Nat.reduceLeDiff, hI_uI, hL_uI, hR_uI, nx_uI, sl_uI, hI_uL, hL_uL, hR_uL, nx_uL, sl_uL, hI_uR, hL_uR, hR_uR, nx_uR, sl_uR, st_eq, if_true, if_false, eq_self, Nat.reduceEqDiff, Nat.reduceMul, reduceIte, kdT, ixT, w_cl, w_ti, w_s1, w_a, w_m12, w_m8, w_m3, w_m4, hCx.x0, hCx.x2, hCx.x4, hCx.x7, hCx.x8, hCx.x9, hCx.x11, hCx.f0, hCx.f1, hCx.f2, hCx.p0, hCx.p1, hCx.p2, hCx.p3, hCx.l1, hCx.l2, hCx.l3, hCx.l4, hCx.d0, hCx.d1, hCx.d2, hCx.g1, hCx.g2, hCx.g3, hCx.g4, hCx.k1, hCx.k2, hCx.k3, hCx.k4, t1, t3, u6, es, eb, hi, hi11, q, q2, hw, h64, i3, w_and, w_eq, w_lt, hk0, hk3, hl3, kd_FI, ln_FI, kd_PR, ln_PR, kd_PW, ln_PW]
        · rw [if_neg q2]
          simp (disch := first | omega | assumption | decide | (apply bT_; decide)) only [s21_0, s21_1, s21_2, s21_5, s21_6, s21_10, s21_11, s21_14, s21_15, s21_18, s21_19, s21_22, s21_24, s21_25, s21_28, s21_29, s21_32, s21_34, s21_35, s21_38, s21_41, s21_42, s21_44, s21_45, s21_48, s21_49, s21_52, s21_54, s21_55, s21_58, s21_59, s21_60, s21_62, s21_63, s21_65, s21_66, s21_68, s21_71, s21_72, s21_75, s21_76, s21_79, s21_81, s21_82, s21_83, s21_86, s21_87, s21_90, s21_92, s21_93, s21_94, s21_96, s21_99, s21_100, s21_101, s21_101i, s21_102, s21_105, s21_106, s21_107, s21_110, s21_113, s21_116, K_v, K_0, acI, acA, acJ, acX, List.map_cons, List.map_nil, List.sum_cons, List.sum_nil, true_and, and_true, posT, b2_0, b2_1, bft, true_or, or_true, Nat.zero_le, Nat.reduceAdd, Nat.reduceLeDiff, hI_uI, hL_uI, hR_uI, nx_uI, sl_uI, hI_uL, hL_uL, hR_uL, nx_uL, sl_uL, hI_uR, hL_uR, hR_uR, nx_uR, sl_uR, st_eq, if_true, if_false, eq_self, Nat.reduceEqDiff, Nat.reduceMul, reduceIte, kdT, ixT, w_cl, w_ti, w_s1, w_a, w_m12, w_m8, w_m3, w_m4, hCx.x0, hCx.x2, hCx.x4, hCx.x7, hCx.x8, hCx.x9, hCx.x11, hCx.f0, hCx.f1, hCx.f2, hCx.p0, hCx.p1, hCx.p2, hCx.p3, hCx.l1, hCx.l2, hCx.l3, hCx.l4, hCx.d0, hCx.d1, hCx.d2, hCx.g1, hCx.g2, hCx.g3, hCx.g4, hCx.k1, hCx.k2, hCx.k3, hCx.k4, t1, t3, u6, es, eb, hi, hi11, q, q3 q2, w_and, w_eq, w_lt, hk0, hk3, hl3, kd_FI, ln_FI, kd_PR, ln_PR, kd_PW, ln_PW]
    · by_cases q2 : A &&& cnd_ P p i = cnd_ P p i
      · have el : lp_ P p A (i + 1) = lp_ P p A i ++ [cnd_ P p i] := if_pos q2
        rw [if_pos q2, el]
        refine ⟨((i1.uI (by decide)).uL (by decide)).uI (by decide), by simp only [hI_uI, hL_uI, hR_uI, nx_uI, sl_uI, hI_uL, hL_uL, hR_uL, nx_uL, sl_uL, hI_uR, hL_uR, hR_uR, nx_uR, sl_uR, st_eq, if_true, if_false, eq_self, Nat.reduceEqDiff, Nat.reduceMul, reduceIte, kdT, ixT, w_cl, w_ti, w_s1, w_a, w_m12, w_m8, w_m3, w_m4]; exact i2, ?_, fun j hj => ?_⟩
        · simp only [hI_uI, hL_uI, hR_uI, nx_uI, sl_uI, hI_uL, hL_uL, hR_uL, nx_uL, sl_uL, hI_uR, hL_uR, hR_uR, nx_uR, sl_uR, st_eq, if_true, if_false, eq_self, Nat.reduceEqDiff, Nat.reduceMul, reduceIte, kdT, ixT, w_cl, w_ti, w_s1, w_a, w_m12, w_m8, w_m3, w_m4]
          rw [List.length_append]; rfl
        · rw [List.length_append] at hj
          have hj' : j < (lp_ P p A i).length + 1 := hj
          simp only [hI_uI, hL_uI, hR_uI, nx_uI, sl_uI, hI_uL, hL_uL, hR_uL, nx_uL, sl_uL, hI_uR, hL_uR, hR_uR, nx_uR, sl_uR, st_eq, if_true, if_false, eq_self, Nat.reduceEqDiff, Nat.reduceMul, reduceIte, kdT, ixT, w_cl, w_ti, w_s1, w_a, w_m12, w_m8, w_m3, w_m4]
          by_cases q : j = (lp_ P p A i).length
          · rw [if_pos q, if_pos q, q, gd_r]
            exact ⟨rfl, rfl⟩
          · rw [if_neg q, if_neg q, gd_l (by omega)]
            exact i4 j (by omega)
      · have el : lp_ P p A (i + 1) = lp_ P p A i := if_neg q2
        rw [if_neg q2, el]
        exact ⟨i1, i2, i3, i4⟩) (qr_ P p + qb_ P p) 0 (uI_ h 25952258 (st_ (hI_ h 25952258) 3 0), vX 0) (by omega) ⟨KF_.rf.uI (by decide), by simp only [hI_uI, hL_uI, hR_uI, nx_uI, sl_uI, hI_uL, hL_uL, hR_uL, nx_uL, sl_uL, hI_uR, hL_uR, hR_uR, nx_uR, sl_uR, st_eq, if_true, if_false, eq_self, Nat.reduceEqDiff, Nat.reduceMul, reduceIte, kdT, ixT, w_cl, w_ti, w_s1, w_a, w_m12, w_m8, w_m3, w_m4], by simp only [hI_uI, hL_uI, hR_uI, nx_uI, sl_uI, hI_uL, hL_uL, hR_uL, nx_uL, sl_uL, hI_uR, hL_uR, hR_uR, nx_uR, sl_uR, st_eq, if_true, if_false, eq_self, Nat.reduceEqDiff, Nat.reduceMul, reduceIte, kdT, ixT, w_cl, w_ti, w_s1, w_a, w_m12, w_m8, w_m3, w_m4]; rfl, fun j hj => absurd hj (Nat.not_lt_zero _)⟩
  have R9 := (L9 (fun _ _ => True)).2
  obtain ⟨r1, r2, r3⟩ := R9
  refine ⟨_, r1, r2, r3, fun Q => ?_⟩
  simp (disch := first | omega | assumption | decide | (apply bT_; decide)) only [s21_0, s21_1, s21_2, s21_5, s21_6, s21_10, s21_11, s21_14, s21_15, s21_18, s21_19, s21_22, s21_24, s21_25, s21_28, s21_29, s21_32, s21_34, s21_35, s21_38, s21_41, s21_42, s21_44, s21_45, s21_48, s21_49, s21_52, s21_54, s21_55, s21_58, s21_59, s21_60, s21_62, s21_63, s21_65, s21_66, s21_68, s21_71, s21_72, s21_75, s21_76, s21_79, s21_81, s21_82, s21_83, s21_86, s21_87, s21_90, s21_92, s21_93, s21_94, s21_96, s21_99, s21_100, s21_101, s21_101i, s21_102, s21_105, s21_106, s21_107, s21_110, s21_113, s21_116, K_v, K_0, acI, acA, acJ, acX, List.map_cons, List.map_nil, List.sum_cons, List.sum_nil, true_and, and_true, posT, b2_0, b2_1, bft, true_or, or_true, Nat.zero_le, Nat.reduceAdd, Nat.reduceLeDiff, hI_uI, hL_uI, hR_uI, nx_uI, sl_uI, hI_uL, hL_uL, hR_uL, nx_uL, sl_uL, hI_uR, hL_uR, hR_uR, nx_uR, sl_uR, st_eq, if_true, if_false, eq_self, Nat.reduceEqDiff, Nat.reduceMul, reduceIte, kdT, ixT, w_cl, w_ti, w_s1, w_a, w_m12, w_m8, w_m3, w_m4, kd_FI, ln_FI]
  refine (show V_ xs d 21 8 [vA (some 25952258), vA (some (mk_ (sp p) 4 0)), vI (Int32.ofNat A), vI (Int32.ofNat (12 - a)), vJ (Int64.ofNat c), vX 0, vI (Int32.ofNat 0), vX 0] [] (uI_ h 25952258 (st_ (hI_ h 25952258) 3 0)) Q ↔ _ from (L9 Q).1).trans ?_
  have hPx := r1.cp hP
  obtain ⟨t1, t2, t3⟩ := hPx.2.2.2.2.2.1 p hp
  have nl : ¬ (qr_ P p + qb_ P p < qr_ P p + qb_ P p) := by omega
  rw [s21_8]
  simp (disch := first | omega | assumption | decide | (apply bT_; decide)) only [s21_0, s21_1, s21_2, s21_5, s21_6, s21_10, s21_11, s21_14, s21_15, s21_18, s21_19, s21_22, s21_24, s21_25, s21_28, s21_29, s21_32, s21_34, s21_35, s21_38, s21_41, s21_42, s21_44, s21_45, s21_48, s21_49, s21_52, s21_54, s21_55, s21_58, s21_59, s21_60, s21_62, s21_63, s21_65, s21_66, s21_68, s21_71, s21_72, s21_75, s21_76, s21_79, s21_81, s21_82, s21_83, s21_86, s21_87, s21_90, s21_92, s21_93, s21_94, s21_96, s21_99, s21_100, s21_101, s21_101i, s21_102, s21_105, s21_106, s21_107, s21_110, s21_113, s21_116, K_v, K_0, acI, acA, acJ, acX, List.map_cons, List.map_nil, List.sum_cons, List.sum_nil, true_and, and_true, posT, b2_0, b2_1, bft, true_or, or_true, Nat.zero_le, Nat.reduceAdd, Nat.reduceLeDiff, hI_uI, hL_uI, hR_uI, nx_uI, sl_uI, hI_uL, hL_uL, hR_uL, nx_uL, sl_uL, hI_uR, hL_uR, hR_uR, nx_uR, sl_uR, st_eq, if_true, if_false, eq_self, Nat.reduceEqDiff, Nat.reduceMul, reduceIte, kdT, ixT, w_cl, w_ti, w_s1, w_a, w_m12, w_m8, w_m3, w_m4, t1, t3, nl, w_lt, hk0]
end CFL
