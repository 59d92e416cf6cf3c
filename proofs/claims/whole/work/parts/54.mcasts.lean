/-! the model: the first of the best casts -/
section MCA
variable {xs : Nat → Int32} {d : Nat} {h : AH} {Q : OU_ → AH → Prop} {P : PS} {na : Nat} {F G : Nat → Nat → Int32} {σ T U p a s : Nat} {Hs Hs' O : Nat → Int32}
theorem EL_congr {n x y : Nat} (he : ∀ j, j < σ → Hs j = Hs' j) : EL_ F G P p σ Hs O na n x y ↔ EL_ F G P p σ Hs' O na n x y := by
  have e1 : mm_ F G P p σ Hs = mm_ F G P p σ Hs' := by
    funext a r
    unfold mm_
    by_cases q : σ ≤ r
    · rw [decide_eq_true q, Bool.true_or, Bool.true_or]
    · rw [he r (by omega)]
  have e2 : ∀ s, bad_ P p σ Hs s = bad_ P p σ Hs' s := by
    intro s
    funext r
    unfold bad_
    by_cases q : r < σ
    · rw [he r q]
    · rw [decide_eq_false q, Bool.false_and, Bool.false_and]
  unfold EL_ RM_ igd_
  rw [e1]
  simp only [e2]
theorem R_may {n nb : Nat} {bt : Nat → Nat} {may may' : Nat → Nat → Bool} {g : Nat → Nat → Nat} {a s v : Nat} (hm : ∀ a r, may a r = true → may' a r = true) (H : R_ n nb bt may g a s v) : R_ n nb bt may' g a s v := by
  obtain ⟨f, ⟨v1, v2, v3⟩, h1, h2⟩ := H
  refine ⟨f, ⟨v1, v2, fun b hb => ?_⟩, h1, h2⟩
  rcases v3 b hb with q | ⟨q1, q2⟩
  · exact Or.inl q
  · exact Or.inr ⟨q1, fun r hr hbit => hm b r (q2 r hr hbit)⟩
theorem EL_mono {n x y : Nat} (H : EL_ F G P p σ Hs O na n x y) : EL_ F G P p 0 Hs' O na n x y := by
  obtain ⟨s, v, h1, h2, h3, h4, h5⟩ := H
  refine ⟨s, v, h1, R_may (fun a r hr => ?_) h2, ?_, h4, h5⟩
  · unfold mm_ at hr ⊢
    rw [decide_eq_true (Nat.zero_le r), Bool.true_or, Bool.true_and]
    exact (Bool.and_eq_true_iff.mp hr).2
  · unfold igd_ at h3 ⊢
    cases hb : an_ (bad_ P p 0 Hs' s) (qr_ P p) 0
    · rfl
    · obtain ⟨j, e1, e2, e3⟩ := an_iff.mp hb
      have : an_ (bad_ P p σ Hs s) (qr_ P p) 0 = true := an_iff.mpr ⟨j, e1, e2, by
        unfold bad_ at e3 ⊢
        rw [decide_eq_false (Nat.not_lt_zero j), Bool.false_and, Bool.or_false] at e3
        rw [e3, Bool.true_or]⟩
      rw [this] at h3
      cases h3
theorem MC_.has {r : Nat} {v : Int32} (H : MC_ σ Hs O T U h) : MC_ σ (up1_ Hs r v) O T U (uI_ h 38535696 (st_ (hI_ h 38535696) r v)) := by
  obtain ⟨e1, e2, e3, e4, e5, e6, e7⟩ := H
  refine ⟨by simp only [hI_uI, hL_uI, hR_uI, nx_uI, sl_uI, hI_uL, hL_uL, hR_uL, nx_uL, sl_uL, hI_uR, hL_uR, hR_uR, nx_uR, sl_uR, st_eq, if_true, if_false, eq_self, Nat.reduceEqDiff, Nat.reduceMul, reduceIte, kdT, ixT, w_cl, w_ti, w_s1, w_a, w_m12, w_m8, w_m3, w_m4]; exact e1, e2, fun q hq => ?_, fun q hq => by simp only [hI_uI, hL_uI, hR_uI, nx_uI, sl_uI, hI_uL, hL_uL, hR_uL, nx_uL, sl_uL, hI_uR, hL_uR, hR_uR, nx_uR, sl_uR, st_eq, if_true, if_false, eq_self, Nat.reduceEqDiff, Nat.reduceMul, reduceIte, kdT, ixT, w_cl, w_ti, w_s1, w_a, w_m12, w_m8, w_m3, w_m4]; exact e4 q hq, e5, e6, e7⟩
  simp only [hI_uI, hL_uI, hR_uI, nx_uI, sl_uI, hI_uL, hL_uL, hR_uL, nx_uL, sl_uL, hI_uR, hL_uR, hR_uR, nx_uR, sl_uR, st_eq, if_true, if_false, eq_self, Nat.reduceEqDiff, Nat.reduceMul, reduceIte, kdT, ixT, w_cl, w_ti, w_s1, w_a, w_m12, w_m8, w_m3, w_m4]
  unfold up1_
  by_cases c : q = r
  · rw [if_pos c, if_pos c]
  · rw [if_neg c, if_neg c]; exact e3 q hq
theorem MC_.set {τ : Nat} (hτ : τ ≤ 8) (H : MC_ σ Hs O T U h) : MC_ τ Hs O T U (uI_ h 33554440 (st_ (hI_ h 33554440) 22 (Int32.ofNat τ))) := by
  obtain ⟨e1, e2, e3, e4, e5, e6, e7⟩ := H
  exact ⟨by simp only [hI_uI, hL_uI, hR_uI, nx_uI, sl_uI, hI_uL, hL_uL, hR_uL, nx_uL, sl_uL, hI_uR, hL_uR, hR_uR, nx_uR, sl_uR, st_eq, if_true, if_false, eq_self, Nat.reduceEqDiff, Nat.reduceMul, reduceIte, kdT, ixT, w_cl, w_ti, w_s1, w_a, w_m12, w_m8, w_m3, w_m4], hτ, fun q hq => by simp only [hI_uI, hL_uI, hR_uI, nx_uI, sl_uI, hI_uL, hL_uL, hR_uL, nx_uL, sl_uL, hI_uR, hL_uR, hR_uR, nx_uR, sl_uR, st_eq, if_true, if_false, eq_self, Nat.reduceEqDiff, Nat.reduceMul, reduceIte, kdT, ixT, w_cl, w_ti, w_s1, w_a, w_m12, w_m8, w_m3, w_m4]; exact e3 q hq, fun q hq => by simp only [hI_uI, hL_uI, hR_uI, nx_uI, sl_uI, hI_uL, hL_uL, hR_uL, nx_uL, sl_uL, hI_uR, hL_uR, hR_uR, nx_uR, sl_uR, st_eq, if_true, if_false, eq_self, Nat.reduceEqDiff, Nat.reduceMul, reduceIte, kdT, ixT, w_cl, w_ti, w_s1, w_a, w_m12, w_m8, w_m3, w_m4]; exact e4 q hq, e5, e6, e7⟩
theorem up1_up1 {f : Nat → Int32} {r : Nat} {v w : Int32} : up1_ (up1_ f r v) r w = up1_ f r w := by
  funext j
  unfold up1_
  by_cases c : j = r
  · rw [if_pos c, if_pos c]
  · rw [if_neg c, if_neg c, if_neg c]
/-- may a role be given to an actor, when the roles before it are settled -/
def okc_ (F G : Nat → Nat → Int32) (P : PS) (p : Nat) (O : Nat → Int32) (na b c : Nat) (Hs : Nat → Int32) (r a : Nat) : Prop := abl_ F G P a p r = true ∧ EL_ F G P p (r + 1) (up1_ Hs r (Int32.ofNat a)) O na (2 ^ qr_ P p) b c
def fc_ (F G : Nat → Nat → Int32) (P : PS) (p : Nat) (O : Nat → Int32) (na b c : Nat) (Hs : Nat → Int32) (r : Nat) : Prop := (∃ a, a < na ∧ Hs r = Int32.ofNat a ∧ okc_ F G P p O na b c Hs r a ∧ ∀ a', a' < a → ¬ okc_ F G P p O na b c Hs r a') ∨ (Hs r = -1 ∧ ∀ a', a' < na → ¬ okc_ F G P p O na b c Hs r a')
theorem okc_congr {b c r : Nat} (he : ∀ j, j < r → Hs j = Hs' j) : okc_ F G P p O na b c Hs r a ↔ okc_ F G P p O na b c Hs' r a := by
  unfold okc_
  rw [EL_congr (Hs := up1_ Hs r (Int32.ofNat a)) (Hs' := up1_ Hs' r (Int32.ofNat a)) (fun j hj => by
    unfold up1_
    by_cases q : j = r
    · rw [if_pos q, if_pos q]
    · rw [if_neg q, if_neg q]; exact he j (by omega))]
theorem fc_congr {b c r : Nat} (he : ∀ j, j ≤ r → Hs j = Hs' j) (H : fc_ F G P p O na b c Hs r) : fc_ F G P p O na b c Hs' r := by
  have e := fun a => okc_congr (F := F) (G := G) (P := P) (p := p) (O := O) (na := na) (b := b) (c := c) (r := r) (a := a) (Hs := Hs) (Hs' := Hs') (fun j hj => he j (by omega))
  unfold fc_ at H ⊢
  rw [← he r (Nat.le_refl _)]
  rcases H with ⟨a, h1, h2, h3, h4⟩ | ⟨h1, h2⟩
  · exact Or.inl ⟨a, h1, h2, (e a).mp h3, fun a' ha' z => h4 a' ha' ((e a').mpr z)⟩
  · exact Or.inr ⟨h1, fun a' ha' z => h2 a' ha' ((e a').mpr z)⟩
theorem c_mcast1 {b c r : Nat} (hA : MA_ na F G h) (hM : MS_ h) (hP : MP_ P h) (hD : PD_ P) (hp : p < 12) (hr : r < qr_ P p) (hb : b ≤ 200 ∧ c ≤ 8) (hmin : ∀ x y, EL_ F G P p 0 Hs O na (2 ^ qr_ P p) x y → b ≤ x) (hd : 7 ≤ d) : ∀ (k a T U : Nat) (x : AH), a + k = na → KM_ [38535696] [22, 26, 27] h x → MC_ (r + 1) (up1_ Hs r (Int32.ofNat a)) O T U x → hI_ x 33554440 26 = Int32.ofNat b ∧ hI_ x 33554440 27 = Int32.ofNat c → (∀ a', a' < a → ¬ okc_ F G P p O na b c Hs r a') → ∃ x' T' U' v a', KM_ [38535696] [22, 26, 27] h x' ∧ MC_ (r + 1) (up1_ Hs r v) O T' U' x' ∧ (hI_ x' 33554440 26 = Int32.ofNat b ∧ hI_ x' 33554440 27 = Int32.ofNat c) ∧ fc_ F G P p O na b c (up1_ Hs r v) r ∧ ∀ Q, V_ xs d 129 43 [vA (some 33554440), vI (Int32.ofNat p), vI (Int32.ofNat r), vI (Int32.ofNat a)] [] x Q ↔ V_ xs d 129 97 [vA (some 33554440), vI (Int32.ofNat p), vI (Int32.ofNat r), a'] [] x' Q := by
  have h8 := hP.2.1.2.2.1 p
  have hna := hA.2.1
  have hcg : ∀ v a, okc_ F G P p O na b c (up1_ Hs r v) r a ↔ okc_ F G P p O na b c Hs r a := fun v a => okc_congr (fun j hj => by unfold up1_; rw [if_neg (by omega)])
  intro k
  induction k with
  | zero =>
    intro a T U x hak i1 i2 i3 i4
    have e1 := (i1.ma (by decide) (by decide) hA).1
    have hMx := i1.ms hM
    have ea : a = na := by omega
    have nl : ¬ (a < na) := by omega
    refine ⟨uI_ x 38535696 (st_ (hI_ x 38535696) r (-1)), T, U, -1, vI (Int32.ofNat a), i1.uI (Or.inr (Or.inr ⟨by decide, by decide⟩)), by have := i2.has (r := r) (v := -1); rw [up1_up1] at this; exact this, by simp only [hI_uI, hL_uI, hR_uI, nx_uI, sl_uI, hI_uL, hL_uL, hR_uL, nx_uL, sl_uL, hI_uR, hL_uR, hR_uR, nx_uR, sl_uR, st_eq, if_true, if_false, eq_self, Nat.reduceEqDiff, Nat.reduceMul, reduceIte, kdT, ixT, w_cl, w_ti, w_s1, w_a, w_m12, w_m8, w_m3, w_m4]; exact i3, Or.inr ⟨by unfold up1_; rw [if_pos rfl], fun a' ha' z => i4 a' (by omega) ((hcg _ _).mp z)⟩, fun Q => ?_⟩
    have ea' : Int32.ofNat a = Int32.ofNat na := by rw [ea]
    have nl2 : ¬ (Int32.ofNat na < Int32.ofNat na) := by rw [w_lt (by omega) (by omega)]; omega
    rw [s129_43, ea']
    simp (disch := first | omega | assumption | decide | (apply bT_; decide)) only [s129_0, s129_1, s129_2, s129_5, s129_6, s129_7, s129_10, s129_13, s129_14, s129_15, s129_16, s129_17, s129_18, s129_19, s129_22, s129_23, s129_24, s129_27, s129_28, s129_29, s129_30, s129_31, s129_34, s129_35, s129_36, s129_37, s129_40, s129_41, s129_42, s129_44, s129_45, s129_48, s129_52, s129_53, s129_54, s129_55, s129_58, s129_61, s129_62, s129_63, s129_66, s129_69, s129_72, s129_73, s129_76, s129_77, s129_78, s129_79, s129_82, s129_83, s129_84, s129_87, s129_90, s129_91, s129_94, s129_95, s129_96, s129_100, s129_103, s129_104, K_v, K_0, acI, acA, acJ, acX, List.map_cons, List.map_nil, List.sum_cons, List.sum_nil, true_and, and_true, posT, b2_0, b2_1, bft, true_or, or_true, Nat.zero_le, Nat.reduceAdd, Nat.reduceLeDiff, hI_uI, hL_uI, hR_uI, nx_uI, sl_uI, hI_uL, hL_uL, hR_uL, nx_uL, sl_uL, hI_uR, hL_uR, hR_uR, nx_uR, sl_uR, st_eq, if_true, if_false, eq_self, Nat.reduceEqDiff, Nat.reduceMul, reduceIte, kdT, ixT, w_cl, w_ti, w_s1, w_a, w_m12, w_m8, w_m3, w_m4, hMx.r2, hMx.r3, hMx.r4, hMx.r5, hMx.r6, hMx.r7, hMx.r9, hMx.r10, hMx.r11, hMx.r12, hMx.r13, hMx.r14, hMx.r15, hMx.r16, hMx.r17, hMx.r18, hMx.r20, hMx.r21, hMx.r23, hMx.r29, hMx.r30, hMx.r35, hMx.r36, hMx.r37, hMx.r38, hMx.r40, hMx.r42, hMx.r43, hMx.r44, hMx.r45, hMx.r46, hMx.r47, e1, nl2, kd_M, ln_M, kd_mHas, ln_mHas]
  | succ k ih =>
    intro a T U x hak i1 i2 i3 i4
    have hAx := i1.ma (by decide) (by decide) hA
    have hPx := i1.mp (by decide) (by decide) hP
    have e1 := hAx.1
    have hMx := i1.ms hM
    have ha : a < na := by omega
    have hab := fun Q => c_misAble (xs := xs) (d := d - 1) (Q := Q) hMx hAx hPx ha hp hr
    obtain ⟨y, T', U', e, k1, k2, k3, k4⟩ := c_misAsGood (xs := xs) (d := d - 1) (b := b) (r := c) hMx hAx hPx i2 hD hp ⟨i3.1, i3.2, hb.1, hb.2⟩ (fun x y hv => hmin x y (EL_mono hv)) (by omega)
    have i1y : KM_ [38535696] [22, 26, 27] h y := i1.tr (k1.wk (fun a z => by cases z) (fun a z => by cases z))
    have i3y : hI_ y 33554440 26 = Int32.ofNat b ∧ hI_ y 33554440 27 = Int32.ofNat c := ⟨(k1.2.1 26 (by decide)).trans i3.1, (k1.2.1 27 (by decide)).trans i3.2⟩
    have hMy := i1y.ms hM
    have e1y := (i1y.ma (by decide) (by decide) hA).1
    unfold Do_ at k4
    cases hq : abl_ F G P a p r
    · rw [hq] at hab
      obtain ⟨x', T2, U2, v, a', g1, g2, g3, g4, g5⟩ := ih (a + 1) T U (uI_ x 38535696 (st_ (hI_ x 38535696) r (Int32.ofNat (a + 1)))) (by omega) (i1.uI (Or.inr (Or.inr ⟨by decide, by decide⟩))) (by have := i2.has (r := r) (v := Int32.ofNat (a + 1)); rw [up1_up1] at this; exact this) (by simp only [hI_uI, hL_uI, hR_uI, nx_uI, sl_uI, hI_uL, hL_uL, hR_uL, nx_uL, sl_uL, hI_uR, hL_uR, hR_uR, nx_uR, sl_uR, st_eq, if_true, if_false, eq_self, Nat.reduceEqDiff, Nat.reduceMul, reduceIte, kdT, ixT, w_cl, w_ti, w_s1, w_a, w_m12, w_m8, w_m3, w_m4]; exact i3) (fun a' ha' z => by
        by_cases e : a' = a
        · rw [e] at z; rw [z.1] at hq; cases hq
        · exact i4 a' (by omega) z)
      refine ⟨x', T2, U2, v, a', g1, g2, g3, g4, fun Q => Iff.trans ?_ (g5 Q)⟩
      rw [s129_43]
      simp (disch := first | omega | assumption | decide | (apply bT_; decide)) only [s129_0, s129_1, s129_2, s129_5, s129_6, s129_7, s129_10, s129_13, s129_14, s129_15, s129_16, s129_17, s129_18, s129_19, s129_22, s129_23, s129_24, s129_27, s129_28, s129_29, s129_30, s129_31, s129_34, s129_35, s129_36, s129_37, s129_40, s129_41, s129_42, s129_44, s129_45, s129_48, s129_51, s129_52, s129_53, s129_54, s129_55, s129_58, s129_62, s129_63, s129_66, s129_69, s129_72, s129_73, s129_76, s129_77, s129_78, s129_79, s129_83, s129_84, s129_87, s129_90, s129_91, s129_94, s129_95, s129_96, s129_97, s129_100, s129_103, s129_104, K_v, K_0, acI, acA, acJ, acX, List.map_cons, List.map_nil, List.sum_cons, List.sum_nil, true_and, and_true, posT, b2_0, b2_1, bft, true_or, or_true, Nat.zero_le, Nat.reduceAdd, Nat.reduceLeDiff, hI_uI, hL_uI, hR_uI, nx_uI, sl_uI, hI_uL, hL_uL, hR_uL, nx_uL, sl_uL, hI_uR, hL_uR, hR_uR, nx_uR, sl_uR, st_eq, if_true, if_false, eq_self, Nat.reduceEqDiff, Nat.reduceMul, reduceIte, kdT, ixT, w_cl, w_ti, w_s1, w_a, w_m12, w_m8, w_m3, w_m4, hMx.r2, hMx.r3, hMx.r4, hMx.r5, hMx.r6, hMx.r7, hMx.r9, hMx.r10, hMx.r11, hMx.r12, hMx.r13, hMx.r14, hMx.r15, hMx.r16, hMx.r17, hMx.r18, hMx.r20, hMx.r21, hMx.r23, hMx.r29, hMx.r30, hMx.r35, hMx.r36, hMx.r37, hMx.r38, hMx.r40, hMx.r42, hMx.r43, hMx.r44, hMx.r45, hMx.r46, hMx.r47, e1, ha, w_lt, hab, kd_M, ln_M, kd_mHas, ln_mHas]
    · rw [hq] at hab
      have n2 : ¬ ((1 : Int32) = 0) := by decide
      cases he : e
      · rw [he] at k4
        obtain ⟨x', T2, U2, v, a', g1, g2, g3, g4, g5⟩ := ih (a + 1) T' U' (uI_ y 38535696 (st_ (hI_ y 38535696) r (Int32.ofNat (a + 1)))) (by omega) (i1y.uI (Or.inr (Or.inr ⟨by decide, by decide⟩))) (by have := k2.has (r := r) (v := Int32.ofNat (a + 1)); rw [up1_up1] at this; exact this) (by simp only [hI_uI, hL_uI, hR_uI, nx_uI, sl_uI, hI_uL, hL_uL, hR_uL, nx_uL, sl_uL, hI_uR, hL_uR, hR_uR, nx_uR, sl_uR, st_eq, if_true, if_false, eq_self, Nat.reduceEqDiff, Nat.reduceMul, reduceIte, kdT, ixT, w_cl, w_ti, w_s1, w_a, w_m12, w_m8, w_m3, w_m4]; exact i3y) (fun a' ha' z => by
          by_cases e2 : a' = a
          · rw [e2] at z; rw [k3.mpr z.2] at he; cases he
          · exact i4 a' (by omega) z)
        refine ⟨x', T2, U2, v, a', g1, g2, g3, g4, fun Q => Iff.trans ?_ (g5 Q)⟩
        rw [s129_43]
        simp (disch := first | omega | assumption | decide | (apply bT_; decide)) only [s129_0, s129_1, s129_2, s129_5, s129_6, s129_7, s129_10, s129_13, s129_14, s129_15, s129_16, s129_17, s129_18, s129_19, s129_22, s129_23, s129_24, s129_27, s129_28, s129_29, s129_30, s129_31, s129_34, s129_35, s129_36, s129_37, s129_40, s129_41, s129_42, s129_44, s129_45, s129_48, s129_51, s129_52, s129_53, s129_54, s129_55, s129_58, s129_61, s129_62, s129_63, s129_66, s129_69, s129_72, s129_73, s129_76, s129_77, s129_78, s129_79, s129_83, s129_84, s129_87, s129_90, s129_91, s129_94, s129_95, s129_96, s129_97, s129_100, s129_103, s129_104, K_v, K_0, acI, acA, acJ, acX, List.map_cons, List.map_nil, List.sum_cons, List.sum_nil, true_and, and_true, posT, b2_0, b2_1, bft, true_or, or_true, Nat.zero_le, Nat.reduceAdd, Nat.reduceLeDiff, hI_uI, hL_uI, hR_uI, nx_uI, sl_uI, hI_uL, hL_uL, hR_uL, nx_uL, sl_uL, hI_uR, hL_uR, hR_uR, nx_uR, sl_uR, st_eq, if_true, if_false, eq_self, Nat.reduceEqDiff, Nat.reduceMul, reduceIte, kdT, ixT, w_cl, w_ti, w_s1, w_a, w_m12, w_m8, w_m3, w_m4, hMx.r2, hMx.r3, hMx.r4, hMx.r5, hMx.r6, hMx.r7, hMx.r9, hMx.r10, hMx.r11, hMx.r12, hMx.r13, hMx.r14, hMx.r15, hMx.r16, hMx.r17, hMx.r18, hMx.r20, hMx.r21, hMx.r23, hMx.r29, hMx.r30, hMx.r35, hMx.r36, hMx.r37, hMx.r38, hMx.r40, hMx.r42, hMx.r43, hMx.r44, hMx.r45, hMx.r46, hMx.r47, hMy.r2, hMy.r3, hMy.r4, hMy.r5, hMy.r6, hMy.r7, hMy.r9, hMy.r10, hMy.r11, hMy.r12, hMy.r13, hMy.r14, hMy.r15, hMy.r16, hMy.r17, hMy.r18, hMy.r20, hMy.r21, hMy.r23, hMy.r29, hMy.r30, hMy.r35, hMy.r36, hMy.r37, hMy.r38, hMy.r40, hMy.r42, hMy.r43, hMy.r44, hMy.r45, hMy.r46, hMy.r47, e1, ha, w_lt, hab, k4, n2, kd_M, ln_M, kd_mHas, ln_mHas, Bool.true_eq_false]
      · rw [he] at k4
        refine ⟨y, T', U', Int32.ofNat a, vI (Int32.ofNat a), i1y, k2, i3y, Or.inl ⟨a, ha, by unfold up1_; rw [if_pos rfl], (hcg _ _).mpr ⟨hq, k3.mp he⟩, fun a' ha' z => i4 a' ha' ((hcg _ _).mp z)⟩, fun Q => ?_⟩
        have n3 : ¬ (Int32.ofNat a = Int32.ofNat na) := fun e => absurd ((w_eq (by omega) (by omega)).mp e) (by omega)
        rw [s129_43]
        simp (disch := first | omega | assumption | decide | (apply bT_; decide)) only [s129_0, s129_1, s129_2, s129_5, s129_6, s129_7, s129_10, s129_13, s129_14, s129_15, s129_16, s129_17, s129_18, s129_19, s129_22, s129_23, s129_24, s129_27, s129_28, s129_29, s129_30, s129_31, s129_34, s129_35, s129_36, s129_37, s129_40, s129_41, s129_42, s129_44, s129_45, s129_48, s129_51, s129_52, s129_53, s129_54, s129_55, s129_58, s129_61, s129_62, s129_63, s129_66, s129_72, s129_73, s129_76, s129_77, s129_78, s129_79, s129_82, s129_83, s129_84, s129_87, s129_90, s129_91, s129_94, s129_95, s129_96, s129_100, s129_103, s129_104, K_v, K_0, acI, acA, acJ, acX, List.map_cons, List.map_nil, List.sum_cons, List.sum_nil, true_and, and_true, posT, b2_0, b2_1, bft, true_or, or_true, Nat.zero_le, Nat.reduceAdd, Nat.reduceLeDiff, hI_uI, hL_uI, hR_uI, nx_uI, sl_uI, hI_uL, hL_uL, hR_uL, nx_uL, sl_uL, hI_uR, hL_uR, hR_uR, nx_uR, sl_uR, st_eq, if_true, if_false, eq_self, Nat.reduceEqDiff, Nat.reduceMul, reduceIte, kdT, ixT, w_cl, w_ti, w_s1, w_a, w_m12, w_m8, w_m3, w_m4, hMx.r2, hMx.r3, hMx.r4, hMx.r5, hMx.r6, hMx.r7, hMx.r9, hMx.r10, hMx.r11, hMx.r12, hMx.r13, hMx.r14, hMx.r15, hMx.r16, hMx.r17, hMx.r18, hMx.r20, hMx.r21, hMx.r23, hMx.r29, hMx.r30, hMx.r35, hMx.r36, hMx.r37, hMx.r38, hMx.r40, hMx.r42, hMx.r43, hMx.r44, hMx.r45, hMx.r46, hMx.r47, hMy.r2, hMy.r3, hMy.r4, hMy.r5, hMy.r6, hMy.r7, hMy.r9, hMy.r10, hMy.r11, hMy.r12, hMy.r13, hMy.r14, hMy.r15, hMy.r16, hMy.r17, hMy.r18, hMy.r20, hMy.r21, hMy.r23, hMy.r29, hMy.r30, hMy.r35, hMy.r36, hMy.r37, hMy.r38, hMy.r40, hMy.r42, hMy.r43, hMy.r44, hMy.r45, hMy.r46, hMy.r47, e1, e1y, ha, w_lt, hab, k4, n2, n3, kd_M, ln_M, kd_mHas, ln_mHas, Bool.true_eq_false]
end MCA
