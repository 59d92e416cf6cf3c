/-! the class: the tape; hand, order, count -/
theorem by_u (v : Int32) : ((v.toUInt32 >>> ((24 : Int32).toUInt32 &&& Int32.toUInt32 31)).toInt32).toInt8 = (v >>> ((24 : Int32) &&& 31)).toInt8 ∧ ((v.toUInt32 >>> ((16 : Int32).toUInt32 &&& Int32.toUInt32 31)).toInt32).toInt8 = (v >>> ((16 : Int32) &&& 31)).toInt8 ∧ ((v.toUInt32 >>> ((8 : Int32).toUInt32 &&& Int32.toUInt32 31)).toInt32).toInt8 = (v >>> ((8 : Int32) &&& 31)).toInt8 ∧ ((v.toUInt32 >>> ((0 : Int32).toUInt32 &&& Int32.toUInt32 31)).toInt32).toInt8 = (v >>> ((0 : Int32) &&& 31)).toInt8 := by
  have key : ∀ (s : Nat) (z : UInt32) (y : Int32), s ≤ 24 → z.toBitVec.toNat % 32 = s → (y.toBitVec.smod 32) = BitVec.ofNat 32 s → ((v.toUInt32 >>> z).toInt32).toInt8 = (v >>> y).toInt8 := by
    intro s z y hs hz hy
    apply Int8.toBitVec_inj.mp
    show ((v.toUInt32 >>> z).toBitVec).signExtend 8 = ((v >>> y).toBitVec).signExtend 8
    have e1 : (v >>> y).toBitVec = v.toBitVec.sshiftRight s := by
      show BitVec.sshiftRight' v.toBitVec (y.toBitVec.smod 32) = _
      rw [hy, BitVec.sshiftRight'_ofNat_eq_sshiftRight, Nat.mod_eq_of_lt (show s < 2 ^ 32 by omega)]
    have e2 : (v.toUInt32 >>> z).toBitVec = v.toBitVec >>> s := by
      show (v.toUInt32.toBitVec) >>> (z.toBitVec % 32) = _
      show (v.toBitVec) >>> (z.toBitVec % 32).toNat = _
      rw [BitVec.toNat_umod, show (32 : BitVec 32).toNat = 32 from rfl, hz]
    rw [e1, e2]
    apply BitVec.eq_of_getLsbD_eq
    intro i hi
    rw [BitVec.getLsbD_signExtend, BitVec.getLsbD_signExtend, BitVec.getLsbD_sshiftRight, BitVec.getLsbD_ushiftRight]
    simp only [hi, show i < 32 by omega, decide_true, Bool.true_and, if_true, show ¬ (32 ≤ i) by omega, decide_false, Bool.not_false, show s + i < 32 by omega]
  exact ⟨key 24 _ _ (by omega) rfl (by decide +kernel), key 16 _ _ (by omega) rfl (by decide +kernel), key 8 _ _ (by omega) rfl (by decide +kernel), key 0 _ _ (by omega) rfl (by decide +kernel)⟩
def CT_ (tl : Nat) (T : Nat → Int32) (h : AH) : Prop := hI_ h 25165831 10 = Int32.ofNat tl ∧ tl ≤ 800 ∧ ∀ i, i < tl → hI_ h 29673489 i = T i
theorem CT_.eq {tl : Nat} {T : Nat → Int32} {h h1 : AH} (e0 : hI_ h1 25165831 10 = hI_ h 25165831 10) (e1 : hI_ h1 29673489 = hI_ h 29673489) (H : CT_ tl T h) : CT_ tl T h1 := by
  unfold CT_ at H ⊢
  rw [e0, e1]
  exact H
theorem uXT {h : AH} {f g : Nat → Int32} : uI_ (uI_ h 25165831 f) 29673489 g = uI_ (uI_ h 29673489 g) 25165831 f := uI_comm (by decide)
section CTP
variable {xs : Nat → Int32} {d : Nat} {h : AH} {Q : OU_ → AH → Prop}
theorem st_st {α : Type} {f : Nat → α} {k : Nat} {a b : α} : st_ (st_ f k a) k b = st_ f k b := by
  funext j
  simp only [st_eq]
  split <;> rfl
def bb_ (v s : Int32) : Int32 := (v >>> (s &&& 31)).toInt8.toInt32
theorem c_put1 {t : Nat} {v s s' : Int32} {r : Nat → Int32} (hC : CS_ h) (hs : ¬ s < 0) (hs' : s + -8 = s') (hb : ((v.toUInt32 >>> (s.toUInt32 &&& Int32.toUInt32 31)).toInt32).toInt8 = (v >>> (s &&& 31)).toInt8) (ht : t < 800) : V_ xs d 98 3 [vA (some 25165831), vI v, vI s] [] (uI_ (uI_ h 29673489 r) 25165831 (st_ (hI_ h 25165831) 10 (Int32.ofNat t))) Q ↔ V_ xs d 98 3 [vA (some 25165831), vI v, vI s'] [] (uI_ (uI_ h 29673489 (st_ r t (bb_ v s))) 25165831 (st_ (hI_ h 25165831) 10 (Int32.ofNat (t + 1)))) Q := by
  have l0 : Int32.ofNat t < 800 := (w_ltl (k := 800) rfl (by omega) (by omega)).mpr ht
  unfold bb_
  rw [s98_3]
  simp (disch := first | omega | assumption | decide | (apply bT_; decide)) only [s98_0, s98_2, s98_4, s98_7, s98_8, s98_11, s98_14, s98_17, s98_18, s98_21, s98_22, s98_25, s98_26, s98_27, s98_28, s98_29, s98_30, s98_31, s98_31i, s98_32, s98_35, s98_36, s98_37, s98_40, s98_43, s98_46, K_v, K_0, acI, acA, acJ, acX, List.map_cons, List.map_nil, List.sum_cons, List.sum_nil, true_and, and_true, posT, b2_0, b2_1, bft, true_or, or_true, Nat.zero_le, Nat.reduceAdd, Nat.reduceLeDiff, hI_uI, hL_uI, hR_uI, nx_uI, sl_uI, hI_uL, hL_uL, hR_uL, nx_uL, sl_uL, hI_uR, hL_uR, hR_uR, nx_uR, sl_uR, st_eq, if_true, if_false, eq_self, Nat.reduceEqDiff, Nat.reduceMul, reduceIte, kdT, ixT, w_cl, w_ti, w_s1, w_a, w_m12, w_m8, w_m3, w_m4, hC.x0, hC.x2, hC.x4, hC.x7, hC.x8, hC.x9, hC.x11, hC.f0, hC.f1, hC.f2, hC.p0, hC.p1, hC.p2, hC.p3, hC.l1, hC.l2, hC.l3, hC.l4, hC.d0, hC.d1, hC.d2, hC.g1, hC.g2, hC.g3, hC.g4, hC.k1, hC.k2, hC.k3, hC.k4, if_neg hs, if_pos l0, hs', hb, uXT, uI_uI, st_st, kd_TP, ln_TP]
theorem c_put {tl : Nat} {v : Int32} (hC : CS_ h) (e1 : hI_ h 25165831 10 = Int32.ofNat tl) (hl : tl + 4 ≤ 800) : V_ xs d 98 0 [vA (some 25165831), vI v, vX 0] [] h Q ↔ Q (some none) (uI_ (uI_ h 29673489 (st_ (st_ (st_ (st_ (hI_ h 29673489) tl (bb_ v 24)) (tl + 1) (bb_ v 16)) (tl + 2) (bb_ v 8)) (tl + 3) (bb_ v 0))) 25165831 (st_ (hI_ h 25165831) 10 (Int32.ofNat (tl + 4)))) := by
  obtain ⟨b1, b2, b3, b4⟩ := by_u v
  have h0 : uI_ (uI_ h 29673489 (hI_ h 29673489)) 25165831 (st_ (hI_ h 25165831) 10 (Int32.ofNat tl)) = h := by
    rw [uI_self]
    have : st_ (hI_ h 25165831) 10 (Int32.ofNat tl) = hI_ h 25165831 := by
      funext j
      rw [st_eq]
      by_cases q : j = 10
      · rw [if_pos q, q, e1]
      · rw [if_neg q]
    rw [this, uI_self]
  simp (disch := first | omega | assumption | decide | (apply bT_; decide)) only [s98_0, s98_2, s98_4, s98_7, s98_8, s98_11, s98_14, s98_17, s98_18, s98_21, s98_22, s98_25, s98_26, s98_27, s98_28, s98_29, s98_30, s98_31, s98_31i, s98_32, s98_35, s98_36, s98_37, s98_40, s98_43, s98_46, K_v, K_0, acI, acA, acJ, acX, List.map_cons, List.map_nil, List.sum_cons, List.sum_nil, true_and, and_true, posT, b2_0, b2_1, bft, true_or, or_true, Nat.zero_le, Nat.reduceAdd, Nat.reduceLeDiff, hI_uI, hL_uI, hR_uI, nx_uI, sl_uI, hI_uL, hL_uL, hR_uL, nx_uL, sl_uL, hI_uR, hL_uR, hR_uR, nx_uR, sl_uR, st_eq, if_true, if_false, eq_self, Nat.reduceEqDiff, Nat.reduceMul, reduceIte, kdT, ixT, w_cl, w_ti, w_s1, w_a, w_m12, w_m8, w_m3, w_m4]
  rw [show V_ xs d 98 3 [vA (some 25165831), vI v, vI 24] [] h Q ↔ V_ xs d 98 3 [vA (some 25165831), vI v, vI 24] [] (uI_ (uI_ h 29673489 (hI_ h 29673489)) 25165831 (st_ (hI_ h 25165831) 10 (Int32.ofNat tl))) Q by rw [h0]]
  rw [c_put1 (s' := 16) hC (by decide) (by decide) b1 (by omega), c_put1 (s' := 8) hC (by decide) (by decide) b2 (by omega), c_put1 (s' := 0) hC (by decide) (by decide) b3 (by omega), c_put1 (s' := -8) hC (by decide) (by decide) b4 (by omega), s98_3]
  simp (disch := first | omega | assumption | decide | (apply bT_; decide)) only [s98_0, s98_2, s98_4, s98_7, s98_8, s98_11, s98_14, s98_17, s98_18, s98_21, s98_22, s98_25, s98_26, s98_27, s98_28, s98_29, s98_30, s98_31, s98_31i, s98_32, s98_35, s98_36, s98_37, s98_40, s98_43, s98_46, K_v, K_0, acI, acA, acJ, acX, List.map_cons, List.map_nil, List.sum_cons, List.sum_nil, true_and, and_true, posT, b2_0, b2_1, bft, true_or, or_true, Nat.zero_le, Nat.reduceAdd, Nat.reduceLeDiff, hI_uI, hL_uI, hR_uI, nx_uI, sl_uI, hI_uL, hL_uL, hR_uL, nx_uL, sl_uL, hI_uR, hL_uR, hR_uR, nx_uR, sl_uR, st_eq, if_true, if_false, eq_self, Nat.reduceEqDiff, Nat.reduceMul, reduceIte, kdT, ixT, w_cl, w_ti, w_s1, w_a, w_m12, w_m8, w_m3, w_m4, show ((-8 : Int32) < 0) by decide]
theorem x_feed {tl : Nat} {T : Nat → Int32} {a b c e f : Int32} (hC : CS_ h) (hT : CT_ tl T h) (hd : 2 ≤ d) : ∃ h', FX_ [29673489] [10] h h' ∧ (∀ a, hR_ h' a = hR_ h a) ∧ nx_ h' = nx_ h ∧ sl_ h' = sl_ h ∧
    (if tl + 20 ≤ 800 then Do_ xs d 81 [vA (some 25165831), vI a, vI b, vI c, vI e, vI f] h (some (some (vI (Int32.ofNat (tl + 20))))) h' ∧ CT_ (tl + 20) (fdT_ T tl (byn_ a b c e f)) h'
     else Do_ xs d 81 [vA (some 25165831), vI a, vI b, vI c, vI e, vI f] h (some (some (vI (-1)))) h' ∧ CT_ tl T h') := by
  obtain ⟨e1, e2, e3⟩ := id hT
  have w800 : ∀ {a : Nat}, a < 2147483648 → ((800 : Int32) < Int32.ofNat a ↔ 800 < a) := fun {a} ha => by rw [show (800 : Int32) = Int32.ofNat 800 from rfl, w_lt (by omega) ha]
  have wp20 : ∀ {a : Nat}, Int32.ofNat a + 20 = Int32.ofNat (a + 20) := fun {a} => by rw [Int32.ofNat_add]; rfl
  by_cases hc : tl + 20 ≤ 800
  · simp only [if_pos hc]
    have hA1 : ¬ (800 < tl + 20) := by omega
    obtain ⟨p4, hp4⟩ : ∃ p4 : (Nat → Int32) → Nat → Int32 → Nat → Int32, p4 = fun r t v => st_ (st_ (st_ (st_ r t (bb_ v 24)) (t + 1) (bb_ v 16)) (t + 2) (bb_ v 8)) (t + 3) (bb_ v 0) := ⟨_, rfl⟩
    have cp : ∀ (g : AH) (t : Nat) (v : Int32) (Q : OU_ → AH → Prop), CS_ g → hI_ g 25165831 10 = Int32.ofNat t → t + 4 ≤ 800 → (V_ xs (d - 1) 98 0 [vA (some 25165831), vI v, vX 0] [] g Q ↔ Q (some none) (uI_ (uI_ g 29673489 (p4 (hI_ g 29673489) t v)) 25165831 (st_ (hI_ g 25165831) 10 (Int32.ofNat (t + 4))))) := fun g t v Q q1 q2 q3 => by rw [hp4]; exact c_put q1 q2 q3
    have hCu : ∀ (r f : Nat → Int32), CS_ (uI_ (uI_ h 29673489 r) 25165831 f) := fun r f => hC.eq rfl rfl rfl rfl rfl rfl rfl
    have st : ∀ (r : Nat → Int32) (k : Nat) (v : Int32) (Q : OU_ → AH → Prop), k + 4 ≤ 800 → (V_ xs (d - 1) 98 0 [vA (some 25165831), vI v, vX 0] [] (uI_ (uI_ h 29673489 r) 25165831 (st_ (hI_ h 25165831) 10 (Int32.ofNat k))) Q ↔ Q (some none) (uI_ (uI_ h 29673489 (p4 r k v)) 25165831 (st_ (hI_ h 25165831) 10 (Int32.ofNat (k + 4))))) := by
      intro r k v Q hk
      rw [cp _ k v Q (hCu _ _) (by simp only [hI_uI, hL_uI, hR_uI, nx_uI, sl_uI, hI_uL, hL_uL, hR_uL, nx_uL, sl_uL, hI_uR, hL_uR, hR_uR, nx_uR, sl_uR, st_eq, if_true, if_false, eq_self, Nat.reduceEqDiff, Nat.reduceMul, reduceIte, kdT, ixT, w_cl, w_ti, w_s1, w_a, w_m12, w_m8, w_m3, w_m4]) hk]
      simp only [hI_uI, hL_uI, hR_uI, nx_uI, sl_uI, hI_uL, hL_uL, hR_uL, nx_uL, sl_uL, hI_uR, hL_uR, hR_uR, nx_uR, sl_uR, st_eq, if_true, if_false, eq_self, Nat.reduceEqDiff, Nat.reduceMul, reduceIte, kdT, ixT, w_cl, w_ti, w_s1, w_a, w_m12, w_m8, w_m3, w_m4, uXT, uI_uI, st_st]
    have s0 : ∀ (v : Int32) (Q : OU_ → AH → Prop), (V_ xs (d - 1) 98 0 [vA (some 25165831), vI v, vX 0] [] h Q ↔ Q (some none) (uI_ (uI_ h 29673489 (p4 (hI_ h 29673489) tl v)) 25165831 (st_ (hI_ h 25165831) 10 (Int32.ofNat (tl + 4))))) := fun v Q => cp h tl v Q hC e1 (by omega)
    refine ⟨uI_ (uI_ h 29673489 (p4 (p4 (p4 (p4 (p4 (hI_ h 29673489) tl a) (tl + 4) b) (tl + 8) c) (tl + 12) e) (tl + 16) f)) 25165831 (st_ (hI_ h 25165831) 10 (Int32.ofNat (tl + 20))), ?_, fun _ => rfl, rfl, rfl, fun Q => ?_, by simp only [hI_uI, hL_uI, hR_uI, nx_uI, sl_uI, hI_uL, hL_uL, hR_uL, nx_uL, sl_uL, hI_uR, hL_uR, hR_uR, nx_uR, sl_uR, st_eq, if_true, if_false, eq_self, Nat.reduceEqDiff, Nat.reduceMul, reduceIte, kdT, ixT, w_cl, w_ti, w_s1, w_a, w_m12, w_m8, w_m3, w_m4], hc, fun i hi => ?_⟩
    · have f1 := (FX_.rf (W := [29673489]) (J := [10]) (h := h)).uI (a := 29673489) (r := p4 (p4 (p4 (p4 (p4 (hI_ h 29673489) tl a) (tl + 4) b) (tl + 8) c) (tl + 12) e) (tl + 16) f) (Or.inl (by decide)) (by decide)
      have f2 := f1.uX (j := 10) (v := Int32.ofNat (tl + 20)) (by decide)
      simp only [hI_uI, Nat.reduceEqDiff, reduceIte] at f2
      exact f2
    · simp (disch := first | omega | assumption | decide | (apply bT_; decide)) only [s81_0, s81_1, s81_4, s81_6, s81_7, s81_10, s81_13, s81_14, s81_15, s81_16, s81_17, s81_20, s81_21, s81_22, s81_25, s81_26, s81_27, s81_30, s81_31, s81_33, s81_36, s81_37, s81_39, s81_42, s81_43, s81_46, K_v, K_0, acI, acA, acJ, acX, List.map_cons, List.map_nil, List.sum_cons, List.sum_nil, true_and, and_true, posT, b2_0, b2_1, bft, true_or, or_true, Nat.zero_le, Nat.reduceAdd, Nat.reduceLeDiff, hI_uI, hL_uI, hR_uI, nx_uI, sl_uI, hI_uL, hL_uL, hR_uL, nx_uL, sl_uL, hI_uR, hL_uR, hR_uR, nx_uR, sl_uR, st_eq, if_true, if_false, eq_self, Nat.reduceEqDiff, Nat.reduceMul, reduceIte, kdT, ixT, w_cl, w_ti, w_s1, w_a, w_m12, w_m8, w_m3, w_m4, e1, wp20, w800, if_neg hA1, s0, st, Nat.add_assoc]
    · simp only [hI_uI, hL_uI, hR_uI, nx_uI, sl_uI, hI_uL, hL_uL, hR_uL, nx_uL, sl_uL, hI_uR, hL_uR, hR_uR, nx_uR, sl_uR, st_eq, if_true, if_false, eq_self, Nat.reduceEqDiff, Nat.reduceMul, reduceIte, kdT, ixT, w_cl, w_ti, w_s1, w_a, w_m12, w_m8, w_m3, w_m4]
      unfold fdT_
      by_cases q : tl ≤ i
      · rw [if_pos q]
        obtain ⟨k, rfl⟩ : ∃ k, i = tl + k := ⟨i - tl, by omega⟩
        rw [Nat.add_sub_cancel_left, hp4]
        have hk : k < 20 := by omega
        unfold st_
        dsimp only
        match k, hk with
        | 0, _ => rw [if_neg (by omega), if_neg (by omega), if_neg (by omega), if_neg (by omega), if_neg (by omega), if_neg (by omega), if_neg (by omega), if_neg (by omega), if_neg (by omega), if_neg (by omega), if_neg (by omega), if_neg (by omega), if_neg (by omega), if_neg (by omega), if_neg (by omega), if_neg (by omega), if_neg (by omega), if_neg (by omega), if_neg (by omega), if_pos (by omega)]; rfl
        | 1, _ => rw [if_neg (by omega), if_neg (by omega), if_neg (by omega), if_neg (by omega), if_neg (by omega), if_neg (by omega), if_neg (by omega), if_neg (by omega), if_neg (by omega), if_neg (by omega), if_neg (by omega), if_neg (by omega), if_neg (by omega), if_neg (by omega), if_neg (by omega), if_neg (by omega), if_neg (by omega), if_neg (by omega), if_pos (by omega)]; rfl
        | 2, _ => rw [if_neg (by omega), if_neg (by omega), if_neg (by omega), if_neg (by omega), if_neg (by omega), if_neg (by omega), if_neg (by omega), if_neg (by omega), if_neg (by omega), if_neg (by omega), if_neg (by omega), if_neg (by omega), if_neg (by omega), if_neg (by omega), if_neg (by omega), if_neg (by omega), if_neg (by omega), if_pos (by omega)]; rfl
        | 3, _ => rw [if_neg (by omega), if_neg (by omega), if_neg (by omega), if_neg (by omega), if_neg (by omega), if_neg (by omega), if_neg (by omega), if_neg (by omega), if_neg (by omega), if_neg (by omega), if_neg (by omega), if_neg (by omega), if_neg (by omega), if_neg (by omega), if_neg (by omega), if_neg (by omega), if_pos (by omega)]; rfl
        | 4, _ => rw [if_neg (by omega), if_neg (by omega), if_neg (by omega), if_neg (by omega), if_neg (by omega), if_neg (by omega), if_neg (by omega), if_neg (by omega), if_neg (by omega), if_neg (by omega), if_neg (by omega), if_neg (by omega), if_neg (by omega), if_neg (by omega), if_neg (by omega), if_pos (by omega)]; rfl
        | 5, _ => rw [if_neg (by omega), if_neg (by omega), if_neg (by omega), if_neg (by omega), if_neg (by omega), if_neg (by omega), if_neg (by omega), if_neg (by omega), if_neg (by omega), if_neg (by omega), if_neg (by omega), if_neg (by omega), if_neg (by omega), if_neg (by omega), if_pos (by omega)]; rfl
        | 6, _ => rw [if_neg (by omega), if_neg (by omega), if_neg (by omega), if_neg (by omega), if_neg (by omega), if_neg (by omega), if_neg (by omega), if_neg (by omega), if_neg (by omega), if_neg (by omega), if_neg (by omega), if_neg (by omega), if_neg (by omega), if_pos (by omega)]; rfl
        | 7, _ => rw [if_neg (by omega), if_neg (by omega), if_neg (by omega), if_neg (by omega), if_neg (by omega), if_neg (by omega), if_neg (by omega), if_neg (by omega), if_neg (by omega), if_neg (by omega), if_neg (by omega), if_neg (by omega), if_pos (by omega)]; rfl
        | 8, _ => rw [if_neg (by omega), if_neg (by omega), if_neg (by omega), if_neg (by omega), if_neg (by omega), if_neg (by omega), if_neg (by omega), if_neg (by omega), if_neg (by omega), if_neg (by omega), if_neg (by omega), if_pos (by omega)]; rfl
        | 9, _ => rw [if_neg (by omega), if_neg (by omega), if_neg (by omega), if_neg (by omega), if_neg (by omega), if_neg (by omega), if_neg (by omega), if_neg (by omega), if_neg (by omega), if_neg (by omega), if_pos (by omega)]; rfl
        | 10, _ => rw [if_neg (by omega), if_neg (by omega), if_neg (by omega), if_neg (by omega), if_neg (by omega), if_neg (by omega), if_neg (by omega), if_neg (by omega), if_neg (by omega), if_pos (by omega)]; rfl
        | 11, _ => rw [if_neg (by omega), if_neg (by omega), if_neg (by omega), if_neg (by omega), if_neg (by omega), if_neg (by omega), if_neg (by omega), if_neg (by omega), if_pos (by omega)]; rfl
        | 12, _ => rw [if_neg (by omega), if_neg (by omega), if_neg (by omega), if_neg (by omega), if_neg (by omega), if_neg (by omega), if_neg (by omega), if_pos (by omega)]; rfl
        | 13, _ => rw [if_neg (by omega), if_neg (by omega), if_neg (by omega), if_neg (by omega), if_neg (by omega), if_neg (by omega), if_pos (by omega)]; rfl
        | 14, _ => rw [if_neg (by omega), if_neg (by omega), if_neg (by omega), if_neg (by omega), if_neg (by omega), if_pos (by omega)]; rfl
        | 15, _ => rw [if_neg (by omega), if_neg (by omega), if_neg (by omega), if_neg (by omega), if_pos (by omega)]; rfl
        | 16, _ => rw [if_neg (by omega), if_neg (by omega), if_neg (by omega), if_pos (by omega)]; rfl
        | 17, _ => rw [if_neg (by omega), if_neg (by omega), if_pos (by omega)]; rfl
        | 18, _ => rw [if_neg (by omega), if_pos (by omega)]; rfl
        | 19, _ => rw [if_pos (by omega)]; rfl
        | k + 20, hk => exact absurd hk (by omega)
      · rw [if_neg q, hp4]
        simp only [st_eq]
        rw [if_neg (by omega), if_neg (by omega), if_neg (by omega), if_neg (by omega), if_neg (by omega), if_neg (by omega), if_neg (by omega), if_neg (by omega), if_neg (by omega), if_neg (by omega), if_neg (by omega), if_neg (by omega), if_neg (by omega), if_neg (by omega), if_neg (by omega), if_neg (by omega), if_neg (by omega), if_neg (by omega), if_neg (by omega), if_neg (by omega)]
        exact e3 i (by omega)
  · simp only [if_neg hc]
    refine ⟨h, FX_.rf, fun _ => rfl, rfl, rfl, fun Q => ?_, hT⟩
    simp (disch := first | omega | assumption | decide | (apply bT_; decide)) only [s81_0, s81_1, s81_4, s81_6, s81_7, s81_10, s81_13, s81_14, s81_16, s81_17, s81_20, s81_21, s81_22, s81_25, s81_26, s81_27, s81_30, s81_31, s81_33, s81_36, s81_37, s81_39, s81_42, s81_43, s81_46, K_v, K_0, acI, acA, acJ, acX, List.map_cons, List.map_nil, List.sum_cons, List.sum_nil, true_and, and_true, posT, b2_0, b2_1, bft, true_or, or_true, Nat.zero_le, Nat.reduceAdd, Nat.reduceLeDiff, hI_uI, hL_uI, hR_uI, nx_uI, sl_uI, hI_uL, hL_uL, hR_uL, nx_uL, sl_uL, hI_uR, hL_uR, hR_uR, nx_uR, sl_uR, st_eq, if_true, if_false, eq_self, Nat.reduceEqDiff, Nat.reduceMul, reduceIte, kdT, ixT, w_cl, w_ti, w_s1, w_a, w_m12, w_m8, w_m3, w_m4, e1, wp20, w800]
    rw [if_pos (by omega)]
theorem x_end {tl : Nat} {T : Nat → Int32} {n : Int32} (hT : CT_ tl T h) (hd : 1 ≤ d) : ∃ h', FX_ [] [10] h h' ∧ (∀ a, hR_ h' a = hR_ h a) ∧ nx_ h' = nx_ h ∧ sl_ h' = sl_ h ∧
    (if 0 ≤ n.toInt ∧ n.toInt ≤ tl then Do_ xs d 82 [vA (some 25165831), vI n] h (some (some (vI n))) h' ∧ CT_ n.toNatClampNeg T h'
     else Do_ xs d 82 [vA (some 25165831), vI n] h (some (some (vI (-1)))) h' ∧ CT_ tl T h') := by
  obtain ⟨e1, e2, e3⟩ := id hT
  have z : (0 : Int32).toInt = 0 := rfl
  have zt := w_ti (show tl < 2147483648 by omega)
  by_cases c : 0 ≤ n.toInt ∧ n.toInt ≤ tl
  · simp only [if_pos c]
    have cw : wi_ n 0 (Int32.ofNat tl) = true := wi_t.mpr (by omega)
    obtain ⟨k, rfl, hk1, hk2⟩ := w_of c.1
    rw [w_cl hk2]
    refine ⟨uI_ h 25165831 (st_ (hI_ h 25165831) 10 (Int32.ofNat k)), FX_.rf.uX (by decide), fun _ => rfl, rfl, rfl, fun Q => ?_, by simp only [hI_uI, hL_uI, hR_uI, nx_uI, sl_uI, hI_uL, hL_uL, hR_uL, nx_uL, sl_uL, hI_uR, hL_uR, hR_uR, nx_uR, sl_uR, st_eq, if_true, if_false, eq_self, Nat.reduceEqDiff, Nat.reduceMul, reduceIte, kdT, ixT, w_cl, w_ti, w_s1, w_a, w_m12, w_m8, w_m3, w_m4], by omega, fun i hi => by simp only [hI_uI, hL_uI, hR_uI, nx_uI, sl_uI, hI_uL, hL_uL, hR_uL, nx_uL, sl_uL, hI_uR, hL_uR, hR_uR, nx_uR, sl_uR, st_eq, if_true, if_false, eq_self, Nat.reduceEqDiff, Nat.reduceMul, reduceIte, kdT, ixT, w_cl, w_ti, w_s1, w_a, w_m12, w_m8, w_m3, w_m4]; exact e3 i (by omega)⟩
    simp (disch := first | omega | assumption | decide | (apply bT_; decide)) only [s82_0, s82_1, s82_2, s82_3, s82_6, s82_9, s82_12, s82_13, s82_14, s82_15, s82_16, s82_19, s82_20, K_v, K_0, acI, acA, acJ, acX, List.map_cons, List.map_nil, List.sum_cons, List.sum_nil, true_and, and_true, posT, b2_0, b2_1, bft, true_or, or_true, Nat.zero_le, Nat.reduceAdd, Nat.reduceLeDiff, hI_uI, hL_uI, hR_uI, nx_uI, sl_uI, hI_uL, hL_uL, hR_uL, nx_uL, sl_uL, hI_uR, hL_uR, hR_uR, nx_uR, sl_uR, st_eq, if_true, if_false, eq_self, Nat.reduceEqDiff, Nat.reduceMul, reduceIte, kdT, ixT, w_cl, w_ti, w_s1, w_a, w_m12, w_m8, w_m3, w_m4, e1, c_within, cw, Bool.true_eq_false]
  · simp only [if_neg c]
    have cw : wi_ n 0 (Int32.ofNat tl) = false := wi_f.mpr (by omega)
    refine ⟨h, FX_.rf, fun _ => rfl, rfl, rfl, fun Q => ?_, hT⟩
    simp (disch := first | omega | assumption | decide | (apply bT_; decide)) only [s82_0, s82_1, s82_2, s82_3, s82_6, s82_9, s82_12, s82_13, s82_15, s82_16, s82_19, s82_20, K_v, K_0, acI, acA, acJ, acX, List.map_cons, List.map_nil, List.sum_cons, List.sum_nil, true_and, and_true, posT, b2_0, b2_1, bft, true_or, or_true, Nat.zero_le, Nat.reduceAdd, Nat.reduceLeDiff, hI_uI, hL_uI, hR_uI, nx_uI, sl_uI, hI_uL, hL_uL, hR_uL, nx_uL, sl_uL, hI_uR, hL_uR, hR_uR, nx_uR, sl_uR, st_eq, if_true, if_false, eq_self, Nat.reduceEqDiff, Nat.reduceMul, reduceIte, kdT, ixT, w_cl, w_ti, w_s1, w_a, w_m12, w_m8, w_m3, w_m4, e1, c_within, cw]
/-! hand, order, count -/
def CH_ (hp : Option Nat) (cs : Int64) (h : AH) : Prop := hI_ h 25165831 5 = oi_ hp ∧ hL_ h 25165831 6 = cs
def CW_ (wn : Nat) (Or : Nat → Int32) (h : AH) : Prop := hI_ h 27000838 4 = Int32.ofNat wn ∧ wn ≤ 8 ∧ ∀ i, i < wn → hI_ h 28049936 i = Or i
theorem CW_.eq {wn : Nat} {Or : Nat → Int32} {h h1 : AH} (e0 : hI_ h1 27000838 = hI_ h 27000838) (e1 : hI_ h1 28049936 = hI_ h 28049936) (H : CW_ wn Or h) : CW_ wn Or h1 := by
  unfold CW_ at H ⊢
  rw [e0, e1]
  exact H
theorem x_hand {hp : Option Nat} {cs : Int64} {r : Int32} (hH : CH_ hp cs h) (hd : 2 ≤ d) : Do_ xs d 73 [vA (some 25165831), vI r] h (some (some (vI (if wi_ r 0 7 = true then ain_ cs r else -1)))) h := by
  obtain ⟨e1, e2⟩ := id hH
  intro Q
  by_cases c : wi_ r 0 7 = true
  · rw [if_pos c]
    simp (disch := first | omega | assumption | decide | (apply bT_; decide)) only [s73_0, s73_1, s73_2, s73_4, s73_7, s73_10, s73_11, s73_14, s73_15, s73_18, s73_21, s73_22, K_v, K_0, acI, acA, acJ, acX, List.map_cons, List.map_nil, List.sum_cons, List.sum_nil, true_and, and_true, posT, b2_0, b2_1, bft, true_or, or_true, Nat.zero_le, Nat.reduceAdd, Nat.reduceLeDiff, hI_uI, hL_uI, hR_uI, nx_uI, sl_uI, hI_uL, hL_uL, hR_uL, nx_uL, sl_uL, hI_uR, hL_uR, hR_uR, nx_uR, sl_uR, st_eq, if_true, if_false, eq_self, Nat.reduceEqDiff, Nat.reduceMul, reduceIte, kdT, ixT, w_cl, w_ti, w_s1, w_a, w_m12, w_m8, w_m3, w_m4, e2, c_within, c, c_actorIn, Bool.true_eq_false]
  · have c' : wi_ r 0 7 = false := by simpa using c
    rw [if_neg c]
    simp (disch := first | omega | assumption | decide | (apply bT_; decide)) only [s73_0, s73_1, s73_2, s73_4, s73_7, s73_11, s73_14, s73_15, s73_18, s73_21, s73_22, K_v, K_0, acI, acA, acJ, acX, List.map_cons, List.map_nil, List.sum_cons, List.sum_nil, true_and, and_true, posT, b2_0, b2_1, bft, true_or, or_true, Nat.zero_le, Nat.reduceAdd, Nat.reduceLeDiff, hI_uI, hL_uI, hR_uI, nx_uI, sl_uI, hI_uL, hL_uL, hR_uL, nx_uL, sl_uL, hI_uR, hL_uR, hR_uR, nx_uR, sl_uR, st_eq, if_true, if_false, eq_self, Nat.reduceEqDiff, Nat.reduceMul, reduceIte, kdT, ixT, w_cl, w_ti, w_s1, w_a, w_m12, w_m8, w_m3, w_m4, c_within, c']
theorem x_order {wn : Nat} {Or : Nat → Int32} {i : Int32} (hC : CS_ h) (hW : CW_ wn Or h) (hd : 1 ≤ d) : Do_ xs d 76 [vA (some 25165831), vI i] h (some (some (vI (ord_ wn Or i)))) h := by
  obtain ⟨e1, e2, e3⟩ := id hW
  intro Q
  unfold ord_
  have z : (0 : Int32).toInt = 0 := rfl
  have z1 := w_m1t (show wn ≤ 1000 by omega)
  by_cases c : 0 ≤ i.toInt ∧ i.toInt < wn
  · have cw : wi_ i 0 (Int32.ofNat wn - 1) = true := wi_t.mpr (by omega)
    obtain ⟨k, rfl, hk1, hk2⟩ := w_of c.1
    have hk : k < wn := by omega
    have g2 := e3 k hk
    rw [if_pos c, w_cl hk2]
    simp (disch := first | omega | assumption | decide | (apply bT_; decide)) only [s76_0, s76_1, s76_2, s76_3, s76_6, s76_9, s76_10, s76_11, s76_14, s76_17, s76_18, s76_21, s76_24, s76_25, s76_26, s76_29, s76_30, K_v, K_0, acI, acA, acJ, acX, List.map_cons, List.map_nil, List.sum_cons, List.sum_nil, true_and, and_true, posT, b2_0, b2_1, bft, true_or, or_true, Nat.zero_le, Nat.reduceAdd, Nat.reduceLeDiff, hI_uI, hL_uI, hR_uI, nx_uI, sl_uI, hI_uL, hL_uL, hR_uL, nx_uL, sl_uL, hI_uR, hL_uR, hR_uR, nx_uR, sl_uR, st_eq, if_true, if_false, eq_self, Nat.reduceEqDiff, Nat.reduceMul, reduceIte, kdT, ixT, w_cl, w_ti, w_s1, w_a, w_m12, w_m8, w_m3, w_m4, hC.x0, hC.x2, hC.x4, hC.x7, hC.x8, hC.x9, hC.x11, hC.f0, hC.f1, hC.f2, hC.p0, hC.p1, hC.p2, hC.p3, hC.l1, hC.l2, hC.l3, hC.l4, hC.d0, hC.d1, hC.d2, hC.g1, hC.g2, hC.g3, hC.g4, hC.k1, hC.k2, hC.k3, hC.k4, e1, g2, c_within, cw, kd_SEQ, ln_SEQ, Bool.true_eq_false]
  · have cw : wi_ i 0 (Int32.ofNat wn - 1) = false := wi_f.mpr (by omega)
    rw [if_neg c]
    simp (disch := first | omega | assumption | decide | (apply bT_; decide)) only [s76_0, s76_1, s76_2, s76_3, s76_6, s76_9, s76_10, s76_11, s76_14, s76_18, s76_21, s76_24, s76_25, s76_26, s76_29, s76_30, K_v, K_0, acI, acA, acJ, acX, List.map_cons, List.map_nil, List.sum_cons, List.sum_nil, true_and, and_true, posT, b2_0, b2_1, bft, true_or, or_true, Nat.zero_le, Nat.reduceAdd, Nat.reduceLeDiff, hI_uI, hL_uI, hR_uI, nx_uI, sl_uI, hI_uL, hL_uL, hR_uL, nx_uL, sl_uL, hI_uR, hL_uR, hR_uR, nx_uR, sl_uR, st_eq, if_true, if_false, eq_self, Nat.reduceEqDiff, Nat.reduceMul, reduceIte, kdT, ixT, w_cl, w_ti, w_s1, w_a, w_m12, w_m8, w_m3, w_m4, hC.x0, hC.x2, hC.x4, hC.x7, hC.x8, hC.x9, hC.x11, hC.f0, hC.f1, hC.f2, hC.p0, hC.p1, hC.p2, hC.p3, hC.l1, hC.l2, hC.l3, hC.l4, hC.d0, hC.d1, hC.d2, hC.g1, hC.g2, hC.g3, hC.g4, hC.k1, hC.k2, hC.k3, hC.k4, e1, c_within, cw]
theorem x_count {na np nf nt wn tl ag : Nat} {sa : Nat → Nat} {F G : Nat → Nat → Int32} {hp : Option Nat} {w : Int32} (hC : CS_ h) (hA : CA_ na sa F G h) (e3 : hI_ h 25165831 3 = Int32.ofNat np) (eL : hI_ h 28311555 0 = Int32.ofNat nf) (e12 : hR_ h 25165831 12 = some ag) (hag : kd_ ag = 1) (eG : hI_ h ag 0 = Int32.ofNat nt) (e5 : hI_ h 25165831 5 = oi_ hp) (eW : hI_ h 27000838 4 = Int32.ofNat wn) (e10 : hI_ h 25165831 10 = Int32.ofNat tl) (hd : 1 ≤ d) :
    Do_ xs d 87 [vA (some 25165831), vI w] h (some (some (vI (cnt_ na np nf nt hp wn tl F w)))) h := by
  have a1 := hA.1
  intro Q
  by_cases c : w.toInt < 0 ∨ 7 < w.toInt
  · have hne : ∀ k : Nat, k ≤ 7 → ¬ (w = Int32.ofNat k) := fun k hk e => by rw [e, w_ti (by omega)] at c; omega
    unfold cnt_
    rw [if_neg (show ¬ w = 0 from hne 0 (by omega)), if_neg (show ¬ w = 1 from hne 1 (by omega)), if_neg (show ¬ w = 2 from hne 2 (by omega)), if_neg (show ¬ w = 3 from hne 3 (by omega)), if_neg (show ¬ w = 4 from hne 4 (by omega)), if_neg (show ¬ w = 5 from hne 5 (by omega)), if_neg (show ¬ w = 6 from hne 6 (by omega)), if_neg (show ¬ w = 7 from hne 7 (by omega))]
    simp (disch := first | omega | assumption | decide | (apply bT_; decide)) only [s87_0, s87_1_0, s87_1_1, s87_1_2, s87_1_3, s87_1_4, s87_1_5, s87_1_6, s87_1_7, s87_1_d, s87_48, s87_49, s87_52, s87_53, s87_54, s87_57, s87_58, s87_59, s87_62, s87_65, s87_66, s87_67, s87_70, s87_73, s87_74, s87_75, s87_78, s87_79, s87_80, s87_83, s87_86, s87_87, s87_88, s87_91, s87_92, s87_93, s87_96, s87_97, s87_98, K_v, K_0, acI, acA, acJ, acX, List.map_cons, List.map_nil, List.sum_cons, List.sum_nil, true_and, and_true, posT, b2_0, b2_1, bft, true_or, or_true, Nat.zero_le, Nat.reduceAdd, Nat.reduceLeDiff, hI_uI, hL_uI, hR_uI, nx_uI, sl_uI, hI_uL, hL_uL, hR_uL, nx_uL, sl_uL, hI_uR, hL_uR, hR_uR, nx_uR, sl_uR, st_eq, if_true, if_false, eq_self, Nat.reduceEqDiff, Nat.reduceMul, reduceIte, kdT, ixT, w_cl, w_ti, w_s1, w_a, w_m12, w_m8, w_m3, w_m4]
  · rcases w_cases c with rfl | rfl | rfl | rfl | rfl | rfl | rfl | rfl
    · simp (disch := first | omega | assumption | decide | (apply bT_; decide)) only [s87_0, s87_1_0, s87_1_1, s87_1_2, s87_1_3, s87_1_4, s87_1_5, s87_1_6, s87_1_7, s87_1_d, s87_48, s87_49, s87_52, s87_53, s87_54, s87_57, s87_58, s87_59, s87_62, s87_65, s87_66, s87_67, s87_70, s87_73, s87_74, s87_75, s87_78, s87_79, s87_80, s87_83, s87_86, s87_87, s87_88, s87_91, s87_92, s87_93, s87_96, s87_97, s87_98, K_v, K_0, acI, acA, acJ, acX, List.map_cons, List.map_nil, List.sum_cons, List.sum_nil, true_and, and_true, posT, b2_0, b2_1, bft, true_or, or_true, Nat.zero_le, Nat.reduceAdd, Nat.reduceLeDiff, hI_uI, hL_uI, hR_uI, nx_uI, sl_uI, hI_uL, hL_uL, hR_uL, nx_uL, sl_uL, hI_uR, hL_uR, hR_uR, nx_uR, sl_uR, st_eq, if_true, if_false, eq_self, Nat.reduceEqDiff, Nat.reduceMul, reduceIte, kdT, ixT, w_cl, w_ti, w_s1, w_a, w_m12, w_m8, w_m3, w_m4, a1]; rfl
    · simp (disch := first | omega | assumption | decide | (apply bT_; decide)) only [s87_0, s87_1_0, s87_1_1, s87_1_2, s87_1_3, s87_1_4, s87_1_5, s87_1_6, s87_1_7, s87_1_d, s87_48, s87_49, s87_52, s87_53, s87_54, s87_57, s87_58, s87_59, s87_62, s87_65, s87_66, s87_67, s87_70, s87_73, s87_74, s87_75, s87_78, s87_79, s87_80, s87_83, s87_86, s87_87, s87_88, s87_91, s87_92, s87_93, s87_96, s87_97, s87_98, K_v, K_0, acI, acA, acJ, acX, List.map_cons, List.map_nil, List.sum_cons, List.sum_nil, true_and, and_true, posT, b2_0, b2_1, bft, true_or, or_true, Nat.zero_le, Nat.reduceAdd, Nat.reduceLeDiff, hI_uI, hL_uI, hR_uI, nx_uI, sl_uI, hI_uL, hL_uL, hR_uL, nx_uL, sl_uL, hI_uR, hL_uR, hR_uR, nx_uR, sl_uR, st_eq, if_true, if_false, eq_self, Nat.reduceEqDiff, Nat.reduceMul, reduceIte, kdT, ixT, w_cl, w_ti, w_s1, w_a, w_m12, w_m8, w_m3, w_m4, e3]; rfl
    · simp (disch := first | omega | assumption | decide | (apply bT_; decide)) only [s87_0, s87_1_0, s87_1_1, s87_1_2, s87_1_3, s87_1_4, s87_1_5, s87_1_6, s87_1_7, s87_1_d, s87_48, s87_49, s87_52, s87_53, s87_54, s87_57, s87_58, s87_59, s87_62, s87_65, s87_66, s87_67, s87_70, s87_73, s87_74, s87_75, s87_78, s87_79, s87_80, s87_83, s87_86, s87_87, s87_88, s87_91, s87_92, s87_93, s87_96, s87_97, s87_98, K_v, K_0, acI, acA, acJ, acX, List.map_cons, List.map_nil, List.sum_cons, List.sum_nil, true_and, and_true, posT, b2_0, b2_1, bft, true_or, or_true, Nat.zero_le, Nat.reduceAdd, Nat.reduceLeDiff, hI_uI, hL_uI, hR_uI, nx_uI, sl_uI, hI_uL, hL_uL, hR_uL, nx_uL, sl_uL, hI_uR, hL_uR, hR_uR, nx_uR, sl_uR, st_eq, if_true, if_false, eq_self, Nat.reduceEqDiff, Nat.reduceMul, reduceIte, kdT, ixT, w_cl, w_ti, w_s1, w_a, w_m12, w_m8, w_m3, w_m4, hC.x0, hC.x2, hC.x4, hC.x7, hC.x8, hC.x9, hC.x11, hC.f0, hC.f1, hC.f2, hC.p0, hC.p1, hC.p2, hC.p3, hC.l1, hC.l2, hC.l3, hC.l4, hC.d0, hC.d1, hC.d2, hC.g1, hC.g2, hC.g3, hC.g4, hC.k1, hC.k2, hC.k3, hC.k4, eL]; rfl
    · simp (disch := first | omega | assumption | decide | (apply bT_; decide)) only [s87_0, s87_1_0, s87_1_1, s87_1_2, s87_1_3, s87_1_4, s87_1_5, s87_1_6, s87_1_7, s87_1_d, s87_48, s87_49, s87_52, s87_53, s87_54, s87_57, s87_58, s87_59, s87_62, s87_65, s87_66, s87_67, s87_70, s87_73, s87_74, s87_75, s87_78, s87_79, s87_80, s87_83, s87_86, s87_87, s87_88, s87_91, s87_92, s87_93, s87_96, s87_97, s87_98, K_v, K_0, acI, acA, acJ, acX, List.map_cons, List.map_nil, List.sum_cons, List.sum_nil, true_and, and_true, posT, b2_0, b2_1, bft, true_or, or_true, Nat.zero_le, Nat.reduceAdd, Nat.reduceLeDiff, hI_uI, hL_uI, hR_uI, nx_uI, sl_uI, hI_uL, hL_uL, hR_uL, nx_uL, sl_uL, hI_uR, hL_uR, hR_uR, nx_uR, sl_uR, st_eq, if_true, if_false, eq_self, Nat.reduceEqDiff, Nat.reduceMul, reduceIte, kdT, ixT, w_cl, w_ti, w_s1, w_a, w_m12, w_m8, w_m3, w_m4, e12, hag, eG]; rfl
    · simp (disch := first | omega | assumption | decide | (apply bT_; decide)) only [s87_0, s87_1_0, s87_1_1, s87_1_2, s87_1_3, s87_1_4, s87_1_5, s87_1_6, s87_1_7, s87_1_d, s87_48, s87_49, s87_52, s87_53, s87_54, s87_57, s87_58, s87_59, s87_62, s87_65, s87_66, s87_67, s87_70, s87_73, s87_74, s87_75, s87_78, s87_79, s87_80, s87_83, s87_86, s87_87, s87_88, s87_91, s87_92, s87_93, s87_96, s87_97, s87_98, K_v, K_0, acI, acA, acJ, acX, List.map_cons, List.map_nil, List.sum_cons, List.sum_nil, true_and, and_true, posT, b2_0, b2_1, bft, true_or, or_true, Nat.zero_le, Nat.reduceAdd, Nat.reduceLeDiff, hI_uI, hL_uI, hR_uI, nx_uI, sl_uI, hI_uL, hL_uL, hR_uL, nx_uL, sl_uL, hI_uR, hL_uR, hR_uR, nx_uR, sl_uR, st_eq, if_true, if_false, eq_self, Nat.reduceEqDiff, Nat.reduceMul, reduceIte, kdT, ixT, w_cl, w_ti, w_s1, w_a, w_m12, w_m8, w_m3, w_m4, e5]; rfl
    · simp (disch := first | omega | assumption | decide | (apply bT_; decide)) only [s87_0, s87_1_0, s87_1_1, s87_1_2, s87_1_3, s87_1_4, s87_1_5, s87_1_6, s87_1_7, s87_1_d, s87_48, s87_49, s87_52, s87_53, s87_54, s87_57, s87_58, s87_59, s87_62, s87_65, s87_66, s87_67, s87_70, s87_73, s87_74, s87_75, s87_78, s87_79, s87_80, s87_83, s87_86, s87_87, s87_88, s87_91, s87_92, s87_93, s87_96, s87_97, s87_98, K_v, K_0, acI, acA, acJ, acX, List.map_cons, List.map_nil, List.sum_cons, List.sum_nil, true_and, and_true, posT, b2_0, b2_1, bft, true_or, or_true, Nat.zero_le, Nat.reduceAdd, Nat.reduceLeDiff, hI_uI, hL_uI, hR_uI, nx_uI, sl_uI, hI_uL, hL_uL, hR_uL, nx_uL, sl_uL, hI_uR, hL_uR, hR_uR, nx_uR, sl_uR, st_eq, if_true, if_false, eq_self, Nat.reduceEqDiff, Nat.reduceMul, reduceIte, kdT, ixT, w_cl, w_ti, w_s1, w_a, w_m12, w_m8, w_m3, w_m4, hC.x0, hC.x2, hC.x4, hC.x7, hC.x8, hC.x9, hC.x11, hC.f0, hC.f1, hC.f2, hC.p0, hC.p1, hC.p2, hC.p3, hC.l1, hC.l2, hC.l3, hC.l4, hC.d0, hC.d1, hC.d2, hC.g1, hC.g2, hC.g3, hC.g4, hC.k1, hC.k2, hC.k3, hC.k4, eW]; rfl
    · simp (disch := first | omega | assumption | decide | (apply bT_; decide)) only [s87_0, s87_1_0, s87_1_1, s87_1_2, s87_1_3, s87_1_4, s87_1_5, s87_1_6, s87_1_7, s87_1_d, s87_48, s87_49, s87_52, s87_53, s87_54, s87_57, s87_58, s87_59, s87_62, s87_65, s87_66, s87_67, s87_70, s87_73, s87_74, s87_75, s87_78, s87_79, s87_80, s87_83, s87_86, s87_87, s87_88, s87_91, s87_92, s87_93, s87_96, s87_97, s87_98, K_v, K_0, acI, acA, acJ, acX, List.map_cons, List.map_nil, List.sum_cons, List.sum_nil, true_and, and_true, posT, b2_0, b2_1, bft, true_or, or_true, Nat.zero_le, Nat.reduceAdd, Nat.reduceLeDiff, hI_uI, hL_uI, hR_uI, nx_uI, sl_uI, hI_uL, hL_uL, hR_uL, nx_uL, sl_uL, hI_uR, hL_uR, hR_uR, nx_uR, sl_uR, st_eq, if_true, if_false, eq_self, Nat.reduceEqDiff, Nat.reduceMul, reduceIte, kdT, ixT, w_cl, w_ti, w_s1, w_a, w_m12, w_m8, w_m3, w_m4, e10]; rfl
    · simp (disch := first | omega | assumption | decide | (apply bT_; decide)) only [s87_0, s87_1_0, s87_1_1, s87_1_2, s87_1_3, s87_1_4, s87_1_5, s87_1_6, s87_1_7, s87_1_d, s87_48, s87_49, s87_52, s87_53, s87_54, s87_57, s87_58, s87_59, s87_62, s87_65, s87_66, s87_67, s87_70, s87_73, s87_74, s87_75, s87_78, s87_79, s87_80, s87_83, s87_86, s87_87, s87_88, s87_91, s87_92, s87_93, s87_96, s87_97, s87_98, K_v, K_0, acI, acA, acJ, acX, List.map_cons, List.map_nil, List.sum_cons, List.sum_nil, true_and, and_true, posT, b2_0, b2_1, bft, true_or, or_true, Nat.zero_le, Nat.reduceAdd, Nat.reduceLeDiff, hI_uI, hL_uI, hR_uI, nx_uI, sl_uI, hI_uL, hL_uL, hR_uL, nx_uL, sl_uL, hI_uR, hL_uR, hR_uR, nx_uR, sl_uR, st_eq, if_true, if_false, eq_self, Nat.reduceEqDiff, Nat.reduceMul, reduceIte, kdT, ixT, w_cl, w_ti, w_s1, w_a, w_m12, w_m8, w_m3, w_m4, c_countIn hC hA]; rfl
end CTP
