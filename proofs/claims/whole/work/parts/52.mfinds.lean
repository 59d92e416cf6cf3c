/-! the model: the best that can be had -/
def igd_ (P : PS) (p σ : Nat) (Hs : Nat → Int32) (s : Nat) : Bool := !an_ (bad_ P p σ Hs s) (qr_ P p) 0
/-- changes and roles of the casts, of the sets before i -/
def EL_ (F G : Nat → Nat → Int32) (P : PS) (p σ : Nat) (Hs O : Nat → Int32) (na i hn c : Nat) : Prop := ∃ s v, s < i ∧ RM_ F G P p σ Hs O na s v ∧ igd_ P p σ Hs s = true ∧ hn = v + hc_ P p O s (qr_ P p) ∧ c = pc_ s
def BO_ (o : Option (Nat × Nat)) (E : Nat → Nat → Prop) : Prop := match o with
  | none => ∀ x y, ¬ E x y
  | some (b, r) => E b r ∧ ∀ x y, E x y → b < x ∨ (b = x ∧ y ≤ r)
def nxt_ (o : Option (Nat × Nat)) (x n : Nat) : Option (Nat × Nat) := match o with
  | none => some (x, n)
  | some (b, r) => if x < b ∨ (x = b ∧ r < n) then some (x, n) else some (b, r)
theorem BO_.iff {o : Option (Nat × Nat)} {E E' : Nat → Nat → Prop} (h : ∀ x y, E x y ↔ E' x y) (k : BO_ o E) : BO_ o E' := by
  cases o with
  | none => exact fun x y hv => k x y ((h x y).mpr hv)
  | some w => exact ⟨(h _ _).mp k.1, fun x y hv => k.2 x y ((h x y).mpr hv)⟩
theorem BO_.step {o : Option (Nat × Nat)} {E E' : Nat → Nat → Prop} {R : Nat → Prop} {k q n : Nat} (H : BO_ o E) (hE : ∀ x y, E' x y ↔ E x y ∨ ∃ v, R v ∧ x = v + q ∧ y = n) (hk : R k) (hm : ∀ v, R v → k ≤ v) : BO_ (nxt_ o (k + q) n) E' := by
  cases o with
  | none =>
    refine ⟨(hE _ _).mpr (Or.inr ⟨k, hk, rfl, rfl⟩), fun x y hv => ?_⟩
    rcases (hE x y).mp hv with z | ⟨v, z, rfl, rfl⟩
    · exact absurd z (H x y)
    · have := hm v z; omega
  | some w =>
    obtain ⟨b, r⟩ := w
    obtain ⟨h1, h2⟩ := H
    show BO_ (if k + q < b ∨ (k + q = b ∧ r < n) then some (k + q, n) else some (b, r)) E'
    by_cases c : k + q < b ∨ (k + q = b ∧ r < n)
    · rw [if_pos c]
      refine ⟨(hE _ _).mpr (Or.inr ⟨k, hk, rfl, rfl⟩), fun x y hv => ?_⟩
      rcases (hE x y).mp hv with z | ⟨v, z, rfl, rfl⟩
      · have := h2 x y z; omega
      · have := hm v z; omega
    · rw [if_neg c]
      refine ⟨(hE _ _).mpr (Or.inl h1), fun x y hv => ?_⟩
      rcases (hE x y).mp hv with z | ⟨v, z, rfl, rfl⟩
      · exact h2 x y z
      · have := hm v z; omega
theorem pc_le {s : Nat} : pc_ s ≤ 8 := by
  have : pc_ s ≤ 8 * 1 := sm_bd (fun i => by split <;> omega)
  omega
section MFN
variable {xs : Nat → Int32} {d : Nat} {h : AH} {Q : OU_ → AH → Prop} {P : PS} {na : Nat} {F G : Nat → Nat → Int32} {σ T U p a s : Nat} {Hs O : Nat → Int32}
theorem MC_.um {f : Nat → Int32} (hr : f 22 = hI_ h 33554440 22) (H : MC_ σ Hs O T U h) : MC_ σ Hs O T U (uI_ h 33554440 f) := by
  obtain ⟨e1, e2, e3, e4, e5, e6, e7⟩ := H
  exact ⟨by simp only [hI_uI, hL_uI, hR_uI, nx_uI, sl_uI, hI_uL, hL_uL, hR_uL, nx_uL, sl_uL, hI_uR, hL_uR, hR_uR, nx_uR, sl_uR, st_eq, if_true, if_false, eq_self, Nat.reduceEqDiff, Nat.reduceMul, reduceIte, kdT, ixT, w_cl, w_ti, w_s1, w_a, w_m12, w_m8, w_m3, w_m4]; rw [hr]; exact e1, e2, fun r hr => by simp only [hI_uI, hL_uI, hR_uI, nx_uI, sl_uI, hI_uL, hL_uL, hR_uL, nx_uL, sl_uL, hI_uR, hL_uR, hR_uR, nx_uR, sl_uR, st_eq, if_true, if_false, eq_self, Nat.reduceEqDiff, Nat.reduceMul, reduceIte, kdT, ixT, w_cl, w_ti, w_s1, w_a, w_m12, w_m8, w_m3, w_m4]; exact e3 r hr, fun r hr => by simp only [hI_uI, hL_uI, hR_uI, nx_uI, sl_uI, hI_uL, hL_uL, hR_uL, nx_uL, sl_uL, hI_uR, hL_uR, hR_uR, nx_uR, sl_uR, st_eq, if_true, if_false, eq_self, Nat.reduceEqDiff, Nat.reduceMul, reduceIte, kdT, ixT, w_cl, w_ti, w_s1, w_a, w_m12, w_m8, w_m3, w_m4]; exact e4 r hr, e5, e6, e7⟩
theorem MP_.um {f : Nat → Int32} (hr : f 8 = hI_ h 33554440 8) (H : MP_ P h) : MP_ P (uI_ h 33554440 f) := MP_.eq (by simp only [hI_uI, hL_uI, hR_uI, nx_uI, sl_uI, hI_uL, hL_uL, hR_uL, nx_uL, sl_uL, hI_uR, hL_uR, hR_uR, nx_uR, sl_uR, st_eq, if_true, if_false, eq_self, Nat.reduceEqDiff, Nat.reduceMul, reduceIte, kdT, ixT, w_cl, w_ti, w_s1, w_a, w_m12, w_m8, w_m3, w_m4]; exact hr) (by simp only [hI_uI, hL_uI, hR_uI, nx_uI, sl_uI, hI_uL, hL_uL, hR_uL, nx_uL, sl_uL, hI_uR, hL_uR, hR_uR, nx_uR, sl_uR, st_eq, if_true, if_false, eq_self, Nat.reduceEqDiff, Nat.reduceMul, reduceIte, kdT, ixT, w_cl, w_ti, w_s1, w_a, w_m12, w_m8, w_m3, w_m4]) (by simp only [hI_uI, hL_uI, hR_uI, nx_uI, sl_uI, hI_uL, hL_uL, hR_uL, nx_uL, sl_uL, hI_uR, hL_uR, hR_uR, nx_uR, sl_uR, st_eq, if_true, if_false, eq_self, Nat.reduceEqDiff, Nat.reduceMul, reduceIte, kdT, ixT, w_cl, w_ti, w_s1, w_a, w_m12, w_m8, w_m3, w_m4]) (by simp only [hI_uI, hL_uI, hR_uI, nx_uI, sl_uI, hI_uL, hL_uL, hR_uL, nx_uL, sl_uL, hI_uR, hL_uR, hR_uR, nx_uR, sl_uR, st_eq, if_true, if_false, eq_self, Nat.reduceEqDiff, Nat.reduceMul, reduceIte, kdT, ixT, w_cl, w_ti, w_s1, w_a, w_m12, w_m8, w_m3, w_m4]) (by simp only [hI_uI, hL_uI, hR_uI, nx_uI, sl_uI, hI_uL, hL_uL, hR_uL, nx_uL, sl_uL, hI_uR, hL_uR, hR_uR, nx_uR, sl_uR, st_eq, if_true, if_false, eq_self, Nat.reduceEqDiff, Nat.reduceMul, reduceIte, kdT, ixT, w_cl, w_ti, w_s1, w_a, w_m12, w_m8, w_m3, w_m4]) (by simp only [hI_uI, hL_uI, hR_uI, nx_uI, sl_uI, hI_uL, hL_uL, hR_uL, nx_uL, sl_uL, hI_uR, hL_uR, hR_uR, nx_uR, sl_uR, st_eq, if_true, if_false, eq_self, Nat.reduceEqDiff, Nat.reduceMul, reduceIte, kdT, ixT, w_cl, w_ti, w_s1, w_a, w_m12, w_m8, w_m3, w_m4]) (by simp only [hI_uI, hL_uI, hR_uI, nx_uI, sl_uI, hI_uL, hL_uL, hR_uL, nx_uL, sl_uL, hI_uR, hL_uR, hR_uR, nx_uR, sl_uR, st_eq, if_true, if_false, eq_self, Nat.reduceEqDiff, Nat.reduceMul, reduceIte, kdT, ixT, w_cl, w_ti, w_s1, w_a, w_m12, w_m8, w_m3, w_m4]) (by simp only [hI_uI, hL_uI, hR_uI, nx_uI, sl_uI, hI_uL, hL_uL, hR_uL, nx_uL, sl_uL, hI_uR, hL_uR, hR_uR, nx_uR, sl_uR, st_eq, if_true, if_false, eq_self, Nat.reduceEqDiff, Nat.reduceMul, reduceIte, kdT, ixT, w_cl, w_ti, w_s1, w_a, w_m12, w_m8, w_m3, w_m4]) (by simp only [hI_uI, hL_uI, hR_uI, nx_uI, sl_uI, hI_uL, hL_uL, hR_uL, nx_uL, sl_uL, hI_uR, hL_uR, hR_uR, nx_uR, sl_uR, st_eq, if_true, if_false, eq_self, Nat.reduceEqDiff, Nat.reduceMul, reduceIte, kdT, ixT, w_cl, w_ti, w_s1, w_a, w_m12, w_m8, w_m3, w_m4]) (by simp only [hI_uI, hL_uI, hR_uI, nx_uI, sl_uI, hI_uL, hL_uL, hR_uL, nx_uL, sl_uL, hI_uR, hL_uR, hR_uR, nx_uR, sl_uR, st_eq, if_true, if_false, eq_self, Nat.reduceEqDiff, Nat.reduceMul, reduceIte, kdT, ixT, w_cl, w_ti, w_s1, w_a, w_m12, w_m8, w_m3, w_m4]) (by simp only [hI_uI, hL_uI, hR_uI, nx_uI, sl_uI, hI_uL, hL_uL, hR_uL, nx_uL, sl_uL, hI_uR, hL_uR, hR_uR, nx_uR, sl_uR, st_eq, if_true, if_false, eq_self, Nat.reduceEqDiff, Nat.reduceMul, reduceIte, kdT, ixT, w_cl, w_ti, w_s1, w_a, w_m12, w_m8, w_m3, w_m4]) H
theorem EL_s {i hn c : Nat} : EL_ F G P p σ Hs O na (i + 1) hn c ↔ EL_ F G P p σ Hs O na i hn c ∨ (igd_ P p σ Hs i = true ∧ ∃ v, RM_ F G P p σ Hs O na i v ∧ hn = v + hc_ P p O i (qr_ P p) ∧ c = pc_ i) := by
  constructor
  · rintro ⟨s, v, h1, h2, h3, h4, h5⟩
    by_cases e : s = i
    · rw [e] at h2 h3 h4 h5; exact Or.inr ⟨h3, v, h2, h4, h5⟩
    · exact Or.inl ⟨s, v, by omega, h2, h3, h4, h5⟩
  · rintro (⟨s, v, h1, h2, h3, h4, h5⟩ | ⟨h3, v, h2, h4, h5⟩)
    · exact ⟨s, v, by omega, h2, h3, h4, h5⟩
    · exact ⟨i, v, by omega, h2, h3, h4, h5⟩
theorem c_mfinds (hM : MS_ h) (hA : MA_ na F G h) (hP : MP_ P h) (hc : MC_ σ Hs O T U h) (hD : PD_ P) (hp : p < 12) (hd : 6 ≤ d) : ∃ h' T' U' o, KM_ [] [26, 27] h h' ∧ MC_ σ Hs O T' U' h' ∧ BO_ o (EL_ F G P p σ Hs O na (2 ^ qr_ P p)) ∧ (∀ b r, o = some (b, r) → hI_ h' 33554440 26 = Int32.ofNat b ∧ hI_ h' 33554440 27 = Int32.ofNat r ∧ b ≤ 200 ∧ r ≤ 8) ∧ Do_ xs d 127 [vA (some 33554440), vI (Int32.ofNat p), vX 0, vX 0, vX 0, vX 0] h (some (some (vI (b2_ o.isSome)))) h' := by
  have h8 := hP.2.1.2.2.1 p
  have hq1 : 2 ^ qr_ P p ≤ 2 ^ 8 := Nat.pow_le_pow_right (by omega) h8
  have hsh := w_shl (qr_ P p) (by omega)
  obtain ⟨h1, T', U', w1, w2, w3, w4⟩ := c_mworks (xs := xs) (d := d - 1) hM hA hP hc hD hp (by omega)
  have hM1 := w1.ms hM
  have hP1 := w1.mp (by decide) (by decide) hP
  obtain ⟨-, -, -, -, c5, c6, c7⟩ := id w2
  have kT : kd_ T' = 16 := by rcases c7.l with rfl | rfl <;> rfl
  have lT : ln_ T' = 256 := by rcases c7.l with rfl | rfl <;> rfl
  have nTM : ¬ (T' = 33554440) := by rcases c7.l with rfl | rfl <;> decide
  have g0 := (hP1.2.2.2.1 p hp).1
  obtain ⟨⟨f, o, v4, v5⟩, ⟨z1, z2, z3⟩, z4⟩ := loopX_ (P := fun Q i (x : (Nat → Int32) × Option (Nat × Nat) × AV × AV) => V_ xs d 127 9 [vA (some 33554440), vI (Int32.ofNat p), vI (b2_ x.2.1.isSome), vI (Int32.ofNat i), x.2.2.1, x.2.2.2] [] (uI_ h1 33554440 x.1) Q) (n := 2 ^ qr_ P p) (fun i x => (∀ j, j ≠ 26 → j ≠ 27 → x.1 j = hI_ h1 33554440 j) ∧ (∀ b r, x.2.1 = some (b, r) → x.1 26 = Int32.ofNat b ∧ x.1 27 = Int32.ofNat r ∧ b ≤ 200 ∧ r ≤ 8) ∧ BO_ x.2.1 (EL_ F G P p σ Hs O na i)) (fun i x hi hI => by
    obtain ⟨f, o, v4, v5⟩ := x
    obtain ⟨i1, i2, i3⟩ := hI
    dsimp only at i1 i2 i3
    have i256 : i < 256 := by omega
    have hMx : MS_ (uI_ h1 33554440 f) := hM1.u
    have hPx := hP1.um (i1 8 (by decide) (by decide))
    have hcx := w2.um (i1 22 (by decide) (by decide))
    obtain ⟨k, ek, hk⟩ := w3 i hi
    have hk100 : k ≤ 100 := by omega
    have hig := fun Q => c_misGood (xs := xs) (d := d - 1) (Q := Q) hMx hPx hcx hp i256
    have hhn := fun Q => c_mhands (xs := xs) (d := d - 1) (Q := Q) (k := k) hMx hPx hcx hp i256 (by simp only [hI_uI, hL_uI, hR_uI, nx_uI, sl_uI, hI_uL, hL_uL, hR_uL, nx_uL, sl_uL, hI_uR, hL_uR, hR_uR, nx_uR, sl_uR, st_eq, if_true, if_false, eq_self, Nat.reduceEqDiff, Nat.reduceMul, reduceIte, kdT, ixT, w_cl, w_ti, w_s1, w_a, w_m12, w_m8, w_m3, w_m4, nTM]; exact ek) hk100
    have hbc := fun h Q => c_bitCount (xs := xs) (d := d - 1) (h := h) (Q := Q) i256
    rcases hk with ⟨k1, k2⟩ | ⟨k1, k2, k3⟩
    · refine ⟨(f, o, v4, v5), ⟨i1, i2, i3.iff (fun x y => ?_)⟩, fun Q => ?_⟩
      · rw [EL_s]
        exact ⟨Or.inl, fun e => e.resolve_right (fun ⟨_, v, e1, _⟩ => k2 v e1)⟩
      · have n1 : ¬ (Int32.ofNat k < 100) := by rw [k1]; decide
        dsimp only
        rw [s127_9]
        simp (disch := first | omega | assumption | decide | (apply bT_; decide)) only [s127_0, s127_1, s127_2, s127_5, s127_6, s127_7, s127_8, s127_10, s127_11, s127_12, s127_15, s127_16, s127_17, s127_18, s127_21, s127_22, s127_25, s127_26, s127_27, s127_29, s127_33, s127_34, s127_35, s127_38, s127_41, s127_44, s127_45, s127_46, s127_47, s127_50, s127_52, s127_53, s127_56, s127_58, s127_59, s127_62, s127_64, s127_65, s127_68, s127_71, s127_73, s127_74, s127_77, s127_80, s127_82, s127_83, s127_86, s127_89, s127_92, s127_93, s127_94, s127_95, s127_97, s127_100, s127_101, s127_103, s127_106, s127_109, s127_113, K_v, K_0, acI, acA, acJ, acX, List.map_cons, List.map_nil, List.sum_cons, List.sum_nil, true_and, and_true, posT, b2_0, b2_1, bft, true_or, or_true, Nat.zero_le, Nat.reduceAdd, Nat.reduceLeDiff, hI_uI, hL_uI, hR_uI, nx_uI, sl_uI, hI_uL, hL_uL, hR_uL, nx_uL, sl_uL, hI_uR, hL_uR, hR_uR, nx_uR, sl_uR, st_eq, if_true, if_false, eq_self, Nat.reduceEqDiff, Nat.reduceMul, reduceIte, kdT, ixT, w_cl, w_ti, w_s1, w_a, w_m12, w_m8, w_m3, w_m4, hM1.r2, hM1.r3, hM1.r4, hM1.r5, hM1.r6, hM1.r7, hM1.r9, hM1.r10, hM1.r11, hM1.r12, hM1.r13, hM1.r14, hM1.r15, hM1.r16, hM1.r17, hM1.r18, hM1.r20, hM1.r21, hM1.r23, hM1.r29, hM1.r30, hM1.r35, hM1.r36, hM1.r37, hM1.r38, hM1.r40, hM1.r42, hM1.r43, hM1.r44, hM1.r45, hM1.r46, hM1.r47, c5, g0, hsh, hi, ek, n1, nTM, kT, lT, w_lt, kd_M, ln_M, kd_mRoles, ln_mRoles]
    · have n1 : Int32.ofNat k < 100 := (w_lt (b := 100) (by omega) (by omega)).mpr k1
      cases hg : igd_ P p σ Hs i
      · unfold igd_ at hg
        rw [hg] at hig
        refine ⟨(f, o, v4, v5), ⟨i1, i2, i3.iff (fun x y => ?_)⟩, fun Q => ?_⟩
        · rw [EL_s]
          exact ⟨Or.inl, fun e => e.resolve_right (fun ⟨e0, _⟩ => by unfold igd_ at e0; rw [hg] at e0; cases e0)⟩
        · dsimp only
          rw [s127_9]
          simp (disch := first | omega | assumption | decide | (apply bT_; decide)) only [s127_0, s127_1, s127_2, s127_5, s127_6, s127_7, s127_8, s127_10, s127_11, s127_12, s127_15, s127_16, s127_17, s127_18, s127_21, s127_22, s127_25, s127_26, s127_27, s127_29, s127_32, s127_33, s127_34, s127_35, s127_38, s127_41, s127_45, s127_46, s127_47, s127_50, s127_52, s127_53, s127_56, s127_58, s127_59, s127_62, s127_64, s127_65, s127_68, s127_71, s127_73, s127_74, s127_77, s127_80, s127_82, s127_83, s127_86, s127_89, s127_92, s127_93, s127_94, s127_95, s127_97, s127_100, s127_101, s127_103, s127_106, s127_109, s127_113, K_v, K_0, acI, acA, acJ, acX, List.map_cons, List.map_nil, List.sum_cons, List.sum_nil, true_and, and_true, posT, b2_0, b2_1, bft, true_or, or_true, Nat.zero_le, Nat.reduceAdd, Nat.reduceLeDiff, hI_uI, hL_uI, hR_uI, nx_uI, sl_uI, hI_uL, hL_uL, hR_uL, nx_uL, sl_uL, hI_uR, hL_uR, hR_uR, nx_uR, sl_uR, st_eq, if_true, if_false, eq_self, Nat.reduceEqDiff, Nat.reduceMul, reduceIte, kdT, ixT, w_cl, w_ti, w_s1, w_a, w_m12, w_m8, w_m3, w_m4, hM1.r2, hM1.r3, hM1.r4, hM1.r5, hM1.r6, hM1.r7, hM1.r9, hM1.r10, hM1.r11, hM1.r12, hM1.r13, hM1.r14, hM1.r15, hM1.r16, hM1.r17, hM1.r18, hM1.r20, hM1.r21, hM1.r23, hM1.r29, hM1.r30, hM1.r35, hM1.r36, hM1.r37, hM1.r38, hM1.r40, hM1.r42, hM1.r43, hM1.r44, hM1.r45, hM1.r46, hM1.r47, c5, g0, hsh, hi, ek, n1, nTM, kT, lT, w_lt, hig, kd_M, ln_M, kd_mRoles, ln_mRoles]
      · have hst := i3.step (E' := EL_ F G P p σ Hs O na (i + 1)) (R := RM_ F G P p σ Hs O na i) (k := k) (q := hc_ P p O i (qr_ P p)) (n := pc_ i) (fun x y => by
          rw [EL_s]
          exact ⟨fun e => e.elim Or.inl (fun e => Or.inr e.2), fun e => e.elim Or.inl (fun e => Or.inr ⟨hg, e⟩)⟩) k2 k3
        unfold igd_ at hg
        rw [hg] at hig
        have hhc : hc_ P p O i (qr_ P p) ≤ qr_ P p := hc_le
        have hpc : pc_ i ≤ 8 := pc_le
        have n2 : ¬ ((1 : Int32) = 0) := by decide
        cases o with
        | none =>
          refine ⟨(st_ (st_ f 26 (Int32.ofNat (k + hc_ P p O i (qr_ P p)))) 27 (Int32.ofNat (pc_ i)), some (k + hc_ P p O i (qr_ P p), pc_ i), vI (Int32.ofNat (k + hc_ P p O i (qr_ P p))), vI (Int32.ofNat (pc_ i))), ⟨fun j q1 q2 => ?_, fun b r e => ?_, hst⟩, fun Q => ?_⟩
          · dsimp only; rw [st_eq, if_neg q2, st_eq, if_neg q1]; exact i1 j q1 q2
          · cases e
            simp only [hI_uI, hL_uI, hR_uI, nx_uI, sl_uI, hI_uL, hL_uL, hR_uL, nx_uL, sl_uL, hI_uR, hL_uR, hR_uR, nx_uR, sl_uR, st_eq, if_true, if_false, eq_self, Nat.reduceEqDiff, Nat.reduceMul, reduceIte, kdT, ixT, w_cl, w_ti, w_s1, w_a, w_m12, w_m8, w_m3, w_m4]
            exact ⟨trivial, trivial, by omega, hpc⟩
          · dsimp only
            rw [s127_9]
            simp (disch := first | omega | assumption | decide | (apply bT_; decide)) only [s127_0, s127_1, s127_2, s127_5, s127_6, s127_7, s127_8, s127_10, s127_11, s127_12, s127_15, s127_16, s127_17, s127_18, s127_21, s127_22, s127_25, s127_26, s127_27, s127_29, s127_32, s127_33, s127_34, s127_35, s127_38, s127_41, s127_44, s127_45, s127_46, s127_47, s127_50, s127_52, s127_53, s127_56, s127_58, s127_59, s127_64, s127_65, s127_68, s127_71, s127_73, s127_74, s127_77, s127_80, s127_82, s127_83, s127_86, s127_89, s127_92, s127_93, s127_94, s127_95, s127_97, s127_100, s127_101, s127_103, s127_106, s127_109, s127_113, K_v, K_0, acI, acA, acJ, acX, List.map_cons, List.map_nil, List.sum_cons, List.sum_nil, true_and, and_true, posT, b2_0, b2_1, bft, true_or, or_true, Nat.zero_le, Nat.reduceAdd, Nat.reduceLeDiff, hI_uI, hL_uI, hR_uI, nx_uI, sl_uI, hI_uL, hL_uL, hR_uL, nx_uL, sl_uL, hI_uR, hL_uR, hR_uR, nx_uR, sl_uR, st_eq, if_true, if_false, eq_self, Nat.reduceEqDiff, Nat.reduceMul, reduceIte, kdT, ixT, w_cl, w_ti, w_s1, w_a, w_m12, w_m8, w_m3, w_m4, hM1.r2, hM1.r3, hM1.r4, hM1.r5, hM1.r6, hM1.r7, hM1.r9, hM1.r10, hM1.r11, hM1.r12, hM1.r13, hM1.r14, hM1.r15, hM1.r16, hM1.r17, hM1.r18, hM1.r20, hM1.r21, hM1.r23, hM1.r29, hM1.r30, hM1.r35, hM1.r36, hM1.r37, hM1.r38, hM1.r40, hM1.r42, hM1.r43, hM1.r44, hM1.r45, hM1.r46, hM1.r47, c5, g0, hsh, hi, ek, n1, nTM, kT, lT, w_lt, hig, hhn, hbc, uI_uI, kd_M, ln_M, kd_mRoles, ln_mRoles, Option.isSome_none, Option.isSome_some, Bool.true_eq_false]
            exact Iff.rfl
        | some w =>
          obtain ⟨b, r⟩ := w
          obtain ⟨j1, j2, j3, j4⟩ := i2 b r rfl
          by_cases cc : k + hc_ P p O i (qr_ P p) < b ∨ (k + hc_ P p O i (qr_ P p) = b ∧ r < pc_ i)
          · have en : nxt_ (some (b, r)) (k + hc_ P p O i (qr_ P p)) (pc_ i) = some (k + hc_ P p O i (qr_ P p), pc_ i) := if_pos cc
            rw [en] at hst
            refine ⟨(st_ (st_ f 26 (Int32.ofNat (k + hc_ P p O i (qr_ P p)))) 27 (Int32.ofNat (pc_ i)), some (k + hc_ P p O i (qr_ P p), pc_ i), vI (Int32.ofNat (k + hc_ P p O i (qr_ P p))), vI (Int32.ofNat (pc_ i))), ⟨fun j q1 q2 => ?_, fun b r e => ?_, hst⟩, fun Q => ?_⟩
            · dsimp only; rw [st_eq, if_neg q2, st_eq, if_neg q1]; exact i1 j q1 q2
            · cases e
              simp only [hI_uI, hL_uI, hR_uI, nx_uI, sl_uI, hI_uL, hL_uL, hR_uL, nx_uL, sl_uL, hI_uR, hL_uR, hR_uR, nx_uR, sl_uR, st_eq, if_true, if_false, eq_self, Nat.reduceEqDiff, Nat.reduceMul, reduceIte, kdT, ixT, w_cl, w_ti, w_s1, w_a, w_m12, w_m8, w_m3, w_m4]
              exact ⟨trivial, trivial, by omega, hpc⟩
            · dsimp only
              have q1 : ¬ (b < k + hc_ P p O i (qr_ P p)) := by omega
              rw [s127_9]
              by_cases q2 : k + hc_ P p O i (qr_ P p) = b
              · have q3 : r < pc_ i := by omega
                have q2' : Int32.ofNat (k + hc_ P p O i (qr_ P p)) = Int32.ofNat b := by rw [q2]
                simp (disch := first | omega | assumption | decide | (apply bT_; decide)) only [s127_0, s127_1, s127_2, s127_5, s127_6, s127_7, s127_8, s127_10, s127_11, s127_12, s127_15, s127_16, s127_17, s127_18, s127_21, s127_22, s127_25, s127_26, s127_27, s127_29, s127_32, s127_33, s127_34, s127_35, s127_38, s127_41, s127_44, s127_45, s127_46, s127_47, s127_50, s127_52, s127_53, s127_56, s127_58, s127_59, s127_62, s127_64, s127_65, s127_68, s127_71, s127_73, s127_74, s127_77, s127_80, s127_82, s127_83, s127_86, s127_89, s127_92, s127_93, s127_94, s127_95, s127_97, s127_100, s127_101, s127_103, s127_106, s127_109, s127_113, K_v, K_0, acI, acA, acJ, acX, List.map_cons, List.map_nil, List.sum_cons, List.sum_nil, true_and, and_true, posT, b2_0, b2_1, bft, true_or, or_true, Nat.zero_le, Nat.reduceAdd, Nat.reduceLeDiff, hI_uI, hL_uI, hR_uI, nx_uI, sl_uI, hI_uL, hL_uL, hR_uL, nx_uL, sl_uL, hI_uR, hL_uR, hR_uR, nx_uR, sl_uR, st_eq, if_true, if_false, eq_self, Nat.reduceEqDiff, Nat.reduceMul, reduceIte, kdT, ixT, w_cl, w_ti, w_s1, w_a, w_m12, w_m8, w_m3, w_m4, hM1.r2, hM1.r3, hM1.r4, hM1.r5, hM1.r6, hM1.r7, hM1.r9, hM1.r10, hM1.r11, hM1.r12, hM1.r13, hM1.r14, hM1.r15, hM1.r16, hM1.r17, hM1.r18, hM1.r20, hM1.r21, hM1.r23, hM1.r29, hM1.r30, hM1.r35, hM1.r36, hM1.r37, hM1.r38, hM1.r40, hM1.r42, hM1.r43, hM1.r44, hM1.r45, hM1.r46, hM1.r47, c5, g0, hsh, hi, ek, n1, n2, nTM, kT, lT, w_lt, hig, hhn, hbc, j1, j2, q1, q2', q3, uI_uI, kd_M, ln_M, kd_mRoles, ln_mRoles, Option.isSome_none, Option.isSome_some, Bool.true_eq_false, Nat.lt_irrefl]
                exact Iff.rfl
              · have q3 : ¬ (Int32.ofNat (k + hc_ P p O i (qr_ P p)) = Int32.ofNat b) := fun e => q2 ((w_eq (by omega) (by omega)).mp e)
                simp (disch := first | omega | assumption | decide | (apply bT_; decide)) only [s127_0, s127_1, s127_2, s127_5, s127_6, s127_7, s127_8, s127_10, s127_11, s127_12, s127_15, s127_16, s127_17, s127_18, s127_21, s127_22, s127_25, s127_26, s127_27, s127_29, s127_32, s127_33, s127_34, s127_35, s127_38, s127_41, s127_44, s127_45, s127_46, s127_47, s127_50, s127_52, s127_53, s127_56, s127_58, s127_59, s127_62, s127_64, s127_65, s127_68, s127_71, s127_73, s127_74, s127_77, s127_82, s127_83, s127_86, s127_89, s127_92, s127_93, s127_94, s127_95, s127_97, s127_100, s127_101, s127_103, s127_106, s127_109, s127_113, K_v, K_0, acI, acA, acJ, acX, List.map_cons, List.map_nil, List.sum_cons, List.sum_nil, true_and, and_true, posT, b2_0, b2_1, bft, true_or, or_true, Nat.zero_le, Nat.reduceAdd, Nat.reduceLeDiff, hI_uI, hL_uI, hR_uI, nx_uI, sl_uI, hI_uL, hL_uL, hR_uL, nx_uL, sl_uL, hI_uR, hL_uR, hR_uR, nx_uR, sl_uR, st_eq, if_true, if_false, eq_self, Nat.reduceEqDiff, Nat.reduceMul, reduceIte, kdT, ixT, w_cl, w_ti, w_s1, w_a, w_m12, w_m8, w_m3, w_m4, hM1.r2, hM1.r3, hM1.r4, hM1.r5, hM1.r6, hM1.r7, hM1.r9, hM1.r10, hM1.r11, hM1.r12, hM1.r13, hM1.r14, hM1.r15, hM1.r16, hM1.r17, hM1.r18, hM1.r20, hM1.r21, hM1.r23, hM1.r29, hM1.r30, hM1.r35, hM1.r36, hM1.r37, hM1.r38, hM1.r40, hM1.r42, hM1.r43, hM1.r44, hM1.r45, hM1.r46, hM1.r47, c5, g0, hsh, hi, ek, n1, n2, nTM, kT, lT, w_lt, hig, hhn, hbc, j1, j2, q1, q3, uI_uI, kd_M, ln_M, kd_mRoles, ln_mRoles, Option.isSome_none, Option.isSome_some, Bool.true_eq_false]
                exact Iff.rfl
          · have en : nxt_ (some (b, r)) (k + hc_ P p O i (qr_ P p)) (pc_ i) = some (b, r) := if_neg cc
            rw [en] at hst
            refine ⟨(f, some (b, r), vI (Int32.ofNat (k + hc_ P p O i (qr_ P p))), vI (Int32.ofNat (pc_ i))), ⟨i1, i2, hst⟩, fun Q => ?_⟩
            dsimp only
            rw [s127_9]
            by_cases q1 : b < k + hc_ P p O i (qr_ P p)
            · simp (disch := first | omega | assumption | decide | (apply bT_; decide)) only [s127_0, s127_1, s127_2, s127_5, s127_6, s127_7, s127_8, s127_10, s127_11, s127_12, s127_15, s127_16, s127_17, s127_18, s127_21, s127_22, s127_25, s127_26, s127_27, s127_29, s127_32, s127_33, s127_34, s127_35, s127_38, s127_41, s127_44, s127_45, s127_46, s127_47, s127_50, s127_52, s127_53, s127_56, s127_58, s127_59, s127_62, s127_64, s127_65, s127_68, s127_73, s127_74, s127_77, s127_80, s127_82, s127_83, s127_86, s127_89, s127_93, s127_94, s127_95, s127_97, s127_100, s127_101, s127_103, s127_106, s127_109, s127_113, K_v, K_0, acI, acA, acJ, acX, List.map_cons, List.map_nil, List.sum_cons, List.sum_nil, true_and, and_true, posT, b2_0, b2_1, bft, true_or, or_true, Nat.zero_le, Nat.reduceAdd, Nat.reduceLeDiff, hI_uI, hL_uI, hR_uI, nx_uI, sl_uI, hI_uL, hL_uL, hR_uL, nx_uL, sl_uL, hI_uR, hL_uR, hR_uR, nx_uR, sl_uR, st_eq, if_true, if_false, eq_self, Nat.reduceEqDiff, Nat.reduceMul, reduceIte, kdT, ixT, w_cl, w_ti, w_s1, w_a, w_m12, w_m8, w_m3, w_m4, hM1.r2, hM1.r3, hM1.r4, hM1.r5, hM1.r6, hM1.r7, hM1.r9, hM1.r10, hM1.r11, hM1.r12, hM1.r13, hM1.r14, hM1.r15, hM1.r16, hM1.r17, hM1.r18, hM1.r20, hM1.r21, hM1.r23, hM1.r29, hM1.r30, hM1.r35, hM1.r36, hM1.r37, hM1.r38, hM1.r40, hM1.r42, hM1.r43, hM1.r44, hM1.r45, hM1.r46, hM1.r47, c5, g0, hsh, hi, ek, n1, n2, nTM, kT, lT, w_lt, hig, hhn, hbc, j1, j2, q1, uI_uI, kd_M, ln_M, kd_mRoles, ln_mRoles, Option.isSome_none, Option.isSome_some, Bool.true_eq_false]
            · have q2 : k + hc_ P p O i (qr_ P p) = b := by omega
              have q3 : ¬ (r < pc_ i) := by omega
              have q2' : Int32.ofNat (k + hc_ P p O i (qr_ P p)) = Int32.ofNat b := by rw [q2]
              simp (disch := first | omega | assumption | decide | (apply bT_; decide)) only [s127_0, s127_1, s127_2, s127_5, s127_6, s127_7, s127_8, s127_10, s127_11, s127_12, s127_15, s127_16, s127_17, s127_18, s127_21, s127_22, s127_25, s127_26, s127_27, s127_29, s127_32, s127_33, s127_34, s127_35, s127_38, s127_41, s127_44, s127_45, s127_46, s127_47, s127_50, s127_52, s127_53, s127_56, s127_58, s127_59, s127_62, s127_64, s127_65, s127_68, s127_71, s127_73, s127_74, s127_77, s127_80, s127_82, s127_83, s127_86, s127_89, s127_93, s127_94, s127_95, s127_97, s127_100, s127_101, s127_103, s127_106, s127_109, s127_113, K_v, K_0, acI, acA, acJ, acX, List.map_cons, List.map_nil, List.sum_cons, List.sum_nil, true_and, and_true, posT, b2_0, b2_1, bft, true_or, or_true, Nat.zero_le, Nat.reduceAdd, Nat.reduceLeDiff, hI_uI, hL_uI, hR_uI, nx_uI, sl_uI, hI_uL, hL_uL, hR_uL, nx_uL, sl_uL, hI_uR, hL_uR, hR_uR, nx_uR, sl_uR, st_eq, if_true, if_false, eq_self, Nat.reduceEqDiff, Nat.reduceMul, reduceIte, kdT, ixT, w_cl, w_ti, w_s1, w_a, w_m12, w_m8, w_m3, w_m4, hM1.r2, hM1.r3, hM1.r4, hM1.r5, hM1.r6, hM1.r7, hM1.r9, hM1.r10, hM1.r11, hM1.r12, hM1.r13, hM1.r14, hM1.r15, hM1.r16, hM1.r17, hM1.r18, hM1.r20, hM1.r21, hM1.r23, hM1.r29, hM1.r30, hM1.r35, hM1.r36, hM1.r37, hM1.r38, hM1.r40, hM1.r42, hM1.r43, hM1.r44, hM1.r45, hM1.r46, hM1.r47, c5, g0, hsh, hi, ek, n1, n2, nTM, kT, lT, w_lt, hig, hhn, hbc, j1, j2, q1, q2', q3, uI_uI, kd_M, ln_M, kd_mRoles, ln_mRoles, Option.isSome_none, Option.isSome_some, Bool.true_eq_false, Nat.lt_irrefl]) (2 ^ qr_ P p) 0 (hI_ h1 33554440, none, vX 0, vX 0) (by omega) ⟨fun _ _ _ => rfl, fun b r e => (by cases e), fun x y ⟨s, v, e1, _⟩ => absurd e1 (Nat.not_lt_zero _)⟩
  dsimp only at z1 z2 z3
  refine ⟨uI_ h1 33554440 f, T', U', o, ?_, w2.um (z1 22 (by decide) (by decide)), z3, fun b r e => by simp only [hI_uI, hL_uI, hR_uI, nx_uI, sl_uI, hI_uL, hL_uL, hR_uL, nx_uL, sl_uL, hI_uR, hL_uR, hR_uR, nx_uR, sl_uR, st_eq, if_true, if_false, eq_self, Nat.reduceEqDiff, Nat.reduceMul, reduceIte, kdT, ixT, w_cl, w_ti, w_s1, w_a, w_m12, w_m8, w_m3, w_m4]; exact z2 b r e, fun Q => ?_⟩
  · obtain ⟨f1, f2, f3, f4, f5, f6, f7⟩ := w1
    refine ⟨fun a q1 q2 q3 q4 => ?_, fun j hj => ?_, f3, f4, f5, f6, f7⟩
    · rw [hI_uI, if_neg q1]; exact f1 a q1 q2 q3 q4
    · have n26 : j ≠ 26 := fun e => hj (by rw [e]; decide)
      have n27 : j ≠ 27 := fun e => hj (by rw [e]; decide)
      rw [hI_uI, if_pos rfl, z1 j n26 n27]
      exact f2 j (by intro z; cases z)
  · unfold Do_ at w4
    have e12 := z4 Q
    dsimp only at e12
    rw [uI_self] at e12
    simp (disch := first | omega | assumption | decide | (apply bT_; decide)) only [s127_0, s127_1, s127_2, s127_5, s127_6, s127_7, s127_8, s127_10, s127_11, s127_12, s127_15, s127_16, s127_17, s127_18, s127_21, s127_22, s127_25, s127_26, s127_27, s127_29, s127_32, s127_33, s127_34, s127_35, s127_38, s127_41, s127_44, s127_45, s127_46, s127_47, s127_50, s127_52, s127_53, s127_56, s127_58, s127_59, s127_62, s127_64, s127_65, s127_68, s127_71, s127_73, s127_74, s127_77, s127_80, s127_82, s127_83, s127_86, s127_89, s127_92, s127_93, s127_94, s127_95, s127_97, s127_100, s127_101, s127_103, s127_106, s127_109, s127_112, s127_113, K_v, K_0, acI, acA, acJ, acX, List.map_cons, List.map_nil, List.sum_cons, List.sum_nil, true_and, and_true, posT, b2_0, b2_1, bft, true_or, or_true, Nat.zero_le, Nat.reduceAdd, Nat.reduceLeDiff, hI_uI, hL_uI, hR_uI, nx_uI, sl_uI, hI_uL, hL_uL, hR_uL, nx_uL, sl_uL, hI_uR, hL_uR, hR_uR, nx_uR, sl_uR, st_eq, if_true, if_false, eq_self, Nat.reduceEqDiff, Nat.reduceMul, reduceIte, kdT, ixT, w_cl, w_ti, w_s1, w_a, w_m12, w_m8, w_m3, w_m4, w4, kd_M]
    refine (show V_ xs d 127 9 [vA (some 33554440), vI (Int32.ofNat p), vI (b2_ (none : Option (Nat × Nat)).isSome), vI (Int32.ofNat 0), vX 0, vX 0] [] h1 Q ↔ _ from e12).trans ?_
    have nl : ¬ (2 ^ qr_ P p < 2 ^ qr_ P p) := by omega
    rw [s127_9]
    simp (disch := first | omega | assumption | decide | (apply bT_; decide)) only [s127_0, s127_1, s127_2, s127_5, s127_6, s127_7, s127_8, s127_10, s127_11, s127_12, s127_15, s127_16, s127_17, s127_18, s127_22, s127_25, s127_26, s127_27, s127_29, s127_32, s127_33, s127_34, s127_35, s127_38, s127_41, s127_44, s127_45, s127_46, s127_47, s127_50, s127_52, s127_53, s127_56, s127_58, s127_59, s127_62, s127_64, s127_65, s127_68, s127_71, s127_73, s127_74, s127_77, s127_80, s127_82, s127_83, s127_86, s127_89, s127_92, s127_93, s127_94, s127_95, s127_97, s127_100, s127_101, s127_103, s127_106, s127_109, s127_112, s127_113, K_v, K_0, acI, acA, acJ, acX, List.map_cons, List.map_nil, List.sum_cons, List.sum_nil, true_and, and_true, posT, b2_0, b2_1, bft, true_or, or_true, Nat.zero_le, Nat.reduceAdd, Nat.reduceLeDiff, hI_uI, hL_uI, hR_uI, nx_uI, sl_uI, hI_uL, hL_uL, hR_uL, nx_uL, sl_uL, hI_uR, hL_uR, hR_uR, nx_uR, sl_uR, st_eq, if_true, if_false, eq_self, Nat.reduceEqDiff, Nat.reduceMul, reduceIte, kdT, ixT, w_cl, w_ti, w_s1, w_a, w_m12, w_m8, w_m3, w_m4, hM1.r2, hM1.r3, hM1.r4, hM1.r5, hM1.r6, hM1.r7, hM1.r9, hM1.r10, hM1.r11, hM1.r12, hM1.r13, hM1.r14, hM1.r15, hM1.r16, hM1.r17, hM1.r18, hM1.r20, hM1.r21, hM1.r23, hM1.r29, hM1.r30, hM1.r35, hM1.r36, hM1.r37, hM1.r38, hM1.r40, hM1.r42, hM1.r43, hM1.r44, hM1.r45, hM1.r46, hM1.r47, g0, hsh, nl, w_lt, kd_M, ln_M, kd_mRoles, ln_mRoles]
end MFN
