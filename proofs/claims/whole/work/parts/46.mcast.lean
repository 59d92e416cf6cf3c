/-! the model: who may have what, and the table of the least changes -/
def gm_ (O : Nat → Int32) (r : Nat) : Nat → Nat
  | 0 => 0
  | b + 1 => if O r = -1 ∨ O r = Int32.ofNat b then 0 else 1
def mm_ (F G : Nat → Nat → Int32) (P : PS) (p σ : Nat) (Hs : Nat → Int32) (a r : Nat) : Bool := (decide (σ ≤ r) || decide (Hs r = Int32.ofNat a)) && (decide (r < qr_ P p) && abl_ F G P a p r)
def TU_ (T U : Nat) : Prop := (T = 38813712 ∧ U = 39075856) ∨ (T = 39075856 ∧ U = 38813712)
def MC_ (σ : Nat) (Hs O : Nat → Int32) (T U : Nat) (h : AH) : Prop := hI_ h 33554440 22 = Int32.ofNat σ ∧ σ ≤ 8 ∧ (∀ r, r < 8 → hI_ h 38535696 r = Hs r) ∧ (∀ r, r < 8 → hI_ h 38273552 r = O r) ∧ hR_ h 33554440 24 = some T ∧ hR_ h 33554440 25 = some U ∧ TU_ T U
/-- the least of the numbers, or 100 -/
def TM_ (x : Int32) (S : Nat → Prop) : Prop := ∃ k, x = Int32.ofNat k ∧ ((k = 100 ∧ ∀ v, ¬ S v) ∨ (k < 100 ∧ S k ∧ ∀ v, S v → k ≤ v))
theorem TM_.iff {x : Int32} {S T : Nat → Prop} (h : ∀ v, S v ↔ T v) (k : TM_ x S) : TM_ x T := by
  obtain ⟨m, h1, h2⟩ := k
  refine ⟨m, h1, ?_⟩
  rcases h2 with ⟨h3, h4⟩ | ⟨h3, h4, h5⟩
  · exact Or.inl ⟨h3, fun v hv => h4 v ((h v).mpr hv)⟩
  · exact Or.inr ⟨h3, (h m).mp h4, fun v hv => h5 v ((h v).mpr hv)⟩
theorem TM_.step {x y : Int32} {S T : Nat → Prop} {k : Nat} (hx : TM_ x S) (hy : TM_ y T) (hk : k ≤ 2) (hT : ∀ v, T v → v + k < 100) : TM_ (if y + Int32.ofNat k < x then y + Int32.ofNat k else x) (fun u => S u ∨ ∃ v, T v ∧ u = v + k) := by
  obtain ⟨i, rfl, hi⟩ := hx
  obtain ⟨j, rfl, hj⟩ := hy
  have hil : i ≤ 100 := by omega
  have hjl : j ≤ 100 := by omega
  rw [← Int32.ofNat_add]
  simp only [w_lt (show j + k < 2147483648 by omega) (show i < 2147483648 by omega)]
  rcases hj with ⟨j1, j2⟩ | ⟨j1, j2, j3⟩
  · rw [if_neg (by omega)]
    refine ⟨i, rfl, ?_⟩
    rcases hi with ⟨i1, i2⟩ | ⟨i1, i2, i3⟩
    · exact Or.inl ⟨i1, fun v hv => by
        rcases hv with hv | ⟨u, hu, -⟩
        · exact i2 v hv
        · exact j2 u hu⟩
    · exact Or.inr ⟨i1, Or.inl i2, fun v hv => by
        rcases hv with hv | ⟨u, hu, -⟩
        · exact i3 v hv
        · exact absurd hu (j2 u)⟩
  · have hjk := hT j j2
    by_cases q : j + k < i
    · rw [if_pos q]
      refine ⟨j + k, rfl, Or.inr ⟨hjk, Or.inr ⟨j, j2, rfl⟩, fun v hv => ?_⟩⟩
      rcases hv with hv | ⟨u, hu, rfl⟩
      · rcases hi with ⟨i1, i2⟩ | ⟨i1, i2, i3⟩
        · exact absurd hv (i2 v)
        · have := i3 v hv; omega
      · have := j3 u hu; omega
    · rw [if_neg q]
      rcases hi with ⟨i1, i2⟩ | ⟨i1, i2, i3⟩
      · omega
      · refine ⟨i, rfl, Or.inr ⟨i1, Or.inl i2, fun v hv => ?_⟩⟩
        rcases hv with hv | ⟨u, hu, rfl⟩
        · exact i3 v hv
        · have := j3 u hu; omega
section MCS
variable {xs : Nat → Int32} {d : Nat} {h : AH} {Q : OU_ → AH → Prop} {P : PS} {na : Nat} {F G : Nat → Nat → Int32} {σ T U p a : Nat} {Hs O : Nat → Int32}
theorem MS_.tu {r : Nat → Int32} (H : MS_ h) : MS_ (uI_ h U r) := H.u
theorem MP_.tu {r : Nat → Int32} (hU : U = 38813712 ∨ U = 39075856) (H : MP_ P h) : MP_ P (uI_ h U r) := by
  rcases hU with rfl | rfl <;> exact MP_.eq (by simp only [hI_uI, hL_uI, hR_uI, nx_uI, sl_uI, hI_uL, hL_uL, hR_uL, nx_uL, sl_uL, hI_uR, hL_uR, hR_uR, nx_uR, sl_uR, st_eq, if_true, if_false, eq_self, Nat.reduceEqDiff, Nat.reduceMul, reduceIte, kdT, ixT, w_cl, w_ti, w_s1, w_a, w_m12, w_m8, w_m3, w_m4]) (by simp only [hI_uI, hL_uI, hR_uI, nx_uI, sl_uI, hI_uL, hL_uL, hR_uL, nx_uL, sl_uL, hI_uR, hL_uR, hR_uR, nx_uR, sl_uR, st_eq, if_true, if_false, eq_self, Nat.reduceEqDiff, Nat.reduceMul, reduceIte, kdT, ixT, w_cl, w_ti, w_s1, w_a, w_m12, w_m8, w_m3, w_m4]) (by simp only [hI_uI, hL_uI, hR_uI, nx_uI, sl_uI, hI_uL, hL_uL, hR_uL, nx_uL, sl_uL, hI_uR, hL_uR, hR_uR, nx_uR, sl_uR, st_eq, if_true, if_false, eq_self, Nat.reduceEqDiff, Nat.reduceMul, reduceIte, kdT, ixT, w_cl, w_ti, w_s1, w_a, w_m12, w_m8, w_m3, w_m4]) (by simp only [hI_uI, hL_uI, hR_uI, nx_uI, sl_uI, hI_uL, hL_uL, hR_uL, nx_uL, sl_uL, hI_uR, hL_uR, hR_uR, nx_uR, sl_uR, st_eq, if_true, if_false, eq_self, Nat.reduceEqDiff, Nat.reduceMul, reduceIte, kdT, ixT, w_cl, w_ti, w_s1, w_a, w_m12, w_m8, w_m3, w_m4]) (by simp only [hI_uI, hL_uI, hR_uI, nx_uI, sl_uI, hI_uL, hL_uL, hR_uL, nx_uL, sl_uL, hI_uR, hL_uR, hR_uR, nx_uR, sl_uR, st_eq, if_true, if_false, eq_self, Nat.reduceEqDiff, Nat.reduceMul, reduceIte, kdT, ixT, w_cl, w_ti, w_s1, w_a, w_m12, w_m8, w_m3, w_m4]) (by simp only [hI_uI, hL_uI, hR_uI, nx_uI, sl_uI, hI_uL, hL_uL, hR_uL, nx_uL, sl_uL, hI_uR, hL_uR, hR_uR, nx_uR, sl_uR, st_eq, if_true, if_false, eq_self, Nat.reduceEqDiff, Nat.reduceMul, reduceIte, kdT, ixT, w_cl, w_ti, w_s1, w_a, w_m12, w_m8, w_m3, w_m4]) (by simp only [hI_uI, hL_uI, hR_uI, nx_uI, sl_uI, hI_uL, hL_uL, hR_uL, nx_uL, sl_uL, hI_uR, hL_uR, hR_uR, nx_uR, sl_uR, st_eq, if_true, if_false, eq_self, Nat.reduceEqDiff, Nat.reduceMul, reduceIte, kdT, ixT, w_cl, w_ti, w_s1, w_a, w_m12, w_m8, w_m3, w_m4]) (by simp only [hI_uI, hL_uI, hR_uI, nx_uI, sl_uI, hI_uL, hL_uL, hR_uL, nx_uL, sl_uL, hI_uR, hL_uR, hR_uR, nx_uR, sl_uR, st_eq, if_true, if_false, eq_self, Nat.reduceEqDiff, Nat.reduceMul, reduceIte, kdT, ixT, w_cl, w_ti, w_s1, w_a, w_m12, w_m8, w_m3, w_m4]) (by simp only [hI_uI, hL_uI, hR_uI, nx_uI, sl_uI, hI_uL, hL_uL, hR_uL, nx_uL, sl_uL, hI_uR, hL_uR, hR_uR, nx_uR, sl_uR, st_eq, if_true, if_false, eq_self, Nat.reduceEqDiff, Nat.reduceMul, reduceIte, kdT, ixT, w_cl, w_ti, w_s1, w_a, w_m12, w_m8, w_m3, w_m4]) (by simp only [hI_uI, hL_uI, hR_uI, nx_uI, sl_uI, hI_uL, hL_uL, hR_uL, nx_uL, sl_uL, hI_uR, hL_uR, hR_uR, nx_uR, sl_uR, st_eq, if_true, if_false, eq_self, Nat.reduceEqDiff, Nat.reduceMul, reduceIte, kdT, ixT, w_cl, w_ti, w_s1, w_a, w_m12, w_m8, w_m3, w_m4]) (by simp only [hI_uI, hL_uI, hR_uI, nx_uI, sl_uI, hI_uL, hL_uL, hR_uL, nx_uL, sl_uL, hI_uR, hL_uR, hR_uR, nx_uR, sl_uR, st_eq, if_true, if_false, eq_self, Nat.reduceEqDiff, Nat.reduceMul, reduceIte, kdT, ixT, w_cl, w_ti, w_s1, w_a, w_m12, w_m8, w_m3, w_m4]) H
theorem MA_.tu {r : Nat → Int32} (hU : U = 38813712 ∨ U = 39075856) (H : MA_ na F G h) : MA_ na F G (uI_ h U r) := by
  rcases hU with rfl | rfl <;> exact MA_.eq (by simp only [hI_uI, hL_uI, hR_uI, nx_uI, sl_uI, hI_uL, hL_uL, hR_uL, nx_uL, sl_uL, hI_uR, hL_uR, hR_uR, nx_uR, sl_uR, st_eq, if_true, if_false, eq_self, Nat.reduceEqDiff, Nat.reduceMul, reduceIte, kdT, ixT, w_cl, w_ti, w_s1, w_a, w_m12, w_m8, w_m3, w_m4]) (by simp only [hI_uI, hL_uI, hR_uI, nx_uI, sl_uI, hI_uL, hL_uL, hR_uL, nx_uL, sl_uL, hI_uR, hL_uR, hR_uR, nx_uR, sl_uR, st_eq, if_true, if_false, eq_self, Nat.reduceEqDiff, Nat.reduceMul, reduceIte, kdT, ixT, w_cl, w_ti, w_s1, w_a, w_m12, w_m8, w_m3, w_m4]) (by simp only [hI_uI, hL_uI, hR_uI, nx_uI, sl_uI, hI_uL, hL_uL, hR_uL, nx_uL, sl_uL, hI_uR, hL_uR, hR_uR, nx_uR, sl_uR, st_eq, if_true, if_false, eq_self, Nat.reduceEqDiff, Nat.reduceMul, reduceIte, kdT, ixT, w_cl, w_ti, w_s1, w_a, w_m12, w_m8, w_m3, w_m4]) (by simp only [hI_uI, hL_uI, hR_uI, nx_uI, sl_uI, hI_uL, hL_uL, hR_uL, nx_uL, sl_uL, hI_uR, hL_uR, hR_uR, nx_uR, sl_uR, st_eq, if_true, if_false, eq_self, Nat.reduceEqDiff, Nat.reduceMul, reduceIte, kdT, ixT, w_cl, w_ti, w_s1, w_a, w_m12, w_m8, w_m3, w_m4]) (by simp only [hI_uI, hL_uI, hR_uI, nx_uI, sl_uI, hI_uL, hL_uL, hR_uL, nx_uL, sl_uL, hI_uR, hL_uR, hR_uR, nx_uR, sl_uR, st_eq, if_true, if_false, eq_self, Nat.reduceEqDiff, Nat.reduceMul, reduceIte, kdT, ixT, w_cl, w_ti, w_s1, w_a, w_m12, w_m8, w_m3, w_m4]) (by simp only [hI_uI, hL_uI, hR_uI, nx_uI, sl_uI, hI_uL, hL_uL, hR_uL, nx_uL, sl_uL, hI_uR, hL_uR, hR_uR, nx_uR, sl_uR, st_eq, if_true, if_false, eq_self, Nat.reduceEqDiff, Nat.reduceMul, reduceIte, kdT, ixT, w_cl, w_ti, w_s1, w_a, w_m12, w_m8, w_m3, w_m4]) (by simp only [hI_uI, hL_uI, hR_uI, nx_uI, sl_uI, hI_uL, hL_uL, hR_uL, nx_uL, sl_uL, hI_uR, hL_uR, hR_uR, nx_uR, sl_uR, st_eq, if_true, if_false, eq_self, Nat.reduceEqDiff, Nat.reduceMul, reduceIte, kdT, ixT, w_cl, w_ti, w_s1, w_a, w_m12, w_m8, w_m3, w_m4]) H
theorem TU_.r (H : TU_ T U) : U = 38813712 ∨ U = 39075856 := by
  rcases H with ⟨-, h⟩ | ⟨-, h⟩
  · exact Or.inr h
  · exact Or.inl h
theorem TU_.l (H : TU_ T U) : T = 38813712 ∨ T = 39075856 := by
  rcases H with ⟨h, -⟩ | ⟨h, -⟩
  · exact Or.inl h
  · exact Or.inr h
theorem TU_.ne (H : TU_ T U) : ¬ (T = U) := by
  rcases H with ⟨rfl, rfl⟩ | ⟨rfl, rfl⟩ <;> decide
theorem MC_.tu {r : Nat → Int32} {V : Nat} (hV : V = 38813712 ∨ V = 39075856) (H : MC_ σ Hs O T U h) : MC_ σ Hs O T U (uI_ h V r) := by
  obtain ⟨h1, h2, h3, h4, h5, h6, h7⟩ := H
  rcases hV with rfl | rfl
  · refine ⟨by simp only [hI_uI, hL_uI, hR_uI, nx_uI, sl_uI, hI_uL, hL_uL, hR_uL, nx_uL, sl_uL, hI_uR, hL_uR, hR_uR, nx_uR, sl_uR, st_eq, if_true, if_false, eq_self, Nat.reduceEqDiff, Nat.reduceMul, reduceIte, kdT, ixT, w_cl, w_ti, w_s1, w_a, w_m12, w_m8, w_m3, w_m4]; exact h1, h2, fun r hr => by simp only [hI_uI, hL_uI, hR_uI, nx_uI, sl_uI, hI_uL, hL_uL, hR_uL, nx_uL, sl_uL, hI_uR, hL_uR, hR_uR, nx_uR, sl_uR, st_eq, if_true, if_false, eq_self, Nat.reduceEqDiff, Nat.reduceMul, reduceIte, kdT, ixT, w_cl, w_ti, w_s1, w_a, w_m12, w_m8, w_m3, w_m4]; exact h3 r hr, fun r hr => by simp only [hI_uI, hL_uI, hR_uI, nx_uI, sl_uI, hI_uL, hL_uL, hR_uL, nx_uL, sl_uL, hI_uR, hL_uR, hR_uR, nx_uR, sl_uR, st_eq, if_true, if_false, eq_self, Nat.reduceEqDiff, Nat.reduceMul, reduceIte, kdT, ixT, w_cl, w_ti, w_s1, w_a, w_m12, w_m8, w_m3, w_m4]; exact h4 r hr, h5, h6, h7⟩
  · refine ⟨by simp only [hI_uI, hL_uI, hR_uI, nx_uI, sl_uI, hI_uL, hL_uL, hR_uL, nx_uL, sl_uL, hI_uR, hL_uR, hR_uR, nx_uR, sl_uR, st_eq, if_true, if_false, eq_self, Nat.reduceEqDiff, Nat.reduceMul, reduceIte, kdT, ixT, w_cl, w_ti, w_s1, w_a, w_m12, w_m8, w_m3, w_m4]; exact h1, h2, fun r hr => by simp only [hI_uI, hL_uI, hR_uI, nx_uI, sl_uI, hI_uL, hL_uL, hR_uL, nx_uL, sl_uL, hI_uR, hL_uR, hR_uR, nx_uR, sl_uR, st_eq, if_true, if_false, eq_self, Nat.reduceEqDiff, Nat.reduceMul, reduceIte, kdT, ixT, w_cl, w_ti, w_s1, w_a, w_m12, w_m8, w_m3, w_m4]; exact h3 r hr, fun r hr => by simp only [hI_uI, hL_uI, hR_uI, nx_uI, sl_uI, hI_uL, hL_uL, hR_uL, nx_uL, sl_uL, hI_uR, hL_uR, hR_uR, nx_uR, sl_uR, st_eq, if_true, if_false, eq_self, Nat.reduceEqDiff, Nat.reduceMul, reduceIte, kdT, ixT, w_cl, w_ti, w_s1, w_a, w_m12, w_m8, w_m3, w_m4]; exact h4 r hr, h5, h6, h7⟩
theorem c_mmayHave {r : Nat} (hM : MS_ h) (hA : MA_ na F G h) (hP : MP_ P h) (hc : MC_ σ Hs O T U h) (ha : a < na) (hp : p < 12) (hr : r < qr_ P p) (hd : 1 ≤ d) : V_ xs d 121 0 [vA (some 33554440), vI (Int32.ofNat a), vI (Int32.ofNat p), vI (Int32.ofNat r)] [] h Q ↔ Q (some (some (vI (b2_ (mm_ F G P p σ Hs a r))))) h := by
  obtain ⟨h1, h2, h3, -⟩ := id hc
  have h8 := hP.2.1.2.2.1 p
  have e3 := h3 r (by omega)
  have hab := fun Q => c_misAble (xs := xs) (d := d - 1) (Q := Q) hM hA hP ha hp hr
  unfold mm_
  rw [decide_eq_true hr, Bool.true_and]
  by_cases c1 : σ ≤ r
  · have c2 : ¬ (r < σ) := by omega
    rw [decide_eq_true c1, Bool.true_or, Bool.true_and]
    simp (disch := first | omega | assumption | decide | (apply bT_; decide)) only [s121_0, s121_1, s121_2, s121_5, s121_8, s121_9, s121_12, s121_13, s121_14, s121_15, s121_18, s121_19, s121_20, s121_21, s121_22, s121_25, s121_28, s121_29, s121_32, s121_33, K_v, K_0, acI, acA, acJ, acX, List.map_cons, List.map_nil, List.sum_cons, List.sum_nil, true_and, and_true, posT, b2_0, b2_1, bft, true_or, or_true, Nat.zero_le, Nat.reduceAdd, Nat.reduceLeDiff, hI_uI, hL_uI, hR_uI, nx_uI, sl_uI, hI_uL, hL_uL, hR_uL, nx_uL, sl_uL, hI_uR, hL_uR, hR_uR, nx_uR, sl_uR, st_eq, if_true, if_false, eq_self, Nat.reduceEqDiff, Nat.reduceMul, reduceIte, kdT, ixT, w_cl, w_ti, w_s1, w_a, w_m12, w_m8, w_m3, w_m4, hM.r2, hM.r3, hM.r4, hM.r5, hM.r6, hM.r7, hM.r9, hM.r10, hM.r11, hM.r12, hM.r13, hM.r14, hM.r15, hM.r16, hM.r17, hM.r18, hM.r20, hM.r21, hM.r23, hM.r29, hM.r30, hM.r35, hM.r36, hM.r37, hM.r38, hM.r40, hM.r42, hM.r43, hM.r44, hM.r45, hM.r46, hM.r47, h1, c2, w_lt, hab, kd_M]
    cases abl_ F G P a p r <;> rfl
  · have c2 : r < σ := by omega
    rw [decide_eq_false c1, Bool.false_or]
    by_cases c3 : Hs r = Int32.ofNat a
    · rw [decide_eq_true c3, Bool.true_and]
      simp (disch := first | omega | assumption | decide | (apply bT_; decide)) only [s121_0, s121_1, s121_2, s121_5, s121_8, s121_9, s121_12, s121_13, s121_14, s121_15, s121_18, s121_19, s121_20, s121_21, s121_22, s121_25, s121_28, s121_29, s121_32, s121_33, K_v, K_0, acI, acA, acJ, acX, List.map_cons, List.map_nil, List.sum_cons, List.sum_nil, true_and, and_true, posT, b2_0, b2_1, bft, true_or, or_true, Nat.zero_le, Nat.reduceAdd, Nat.reduceLeDiff, hI_uI, hL_uI, hR_uI, nx_uI, sl_uI, hI_uL, hL_uL, hR_uL, nx_uL, sl_uL, hI_uR, hL_uR, hR_uR, nx_uR, sl_uR, st_eq, if_true, if_false, eq_self, Nat.reduceEqDiff, Nat.reduceMul, reduceIte, kdT, ixT, w_cl, w_ti, w_s1, w_a, w_m12, w_m8, w_m3, w_m4, hM.r2, hM.r3, hM.r4, hM.r5, hM.r6, hM.r7, hM.r9, hM.r10, hM.r11, hM.r12, hM.r13, hM.r14, hM.r15, hM.r16, hM.r17, hM.r18, hM.r20, hM.r21, hM.r23, hM.r29, hM.r30, hM.r35, hM.r36, hM.r37, hM.r38, hM.r40, hM.r42, hM.r43, hM.r44, hM.r45, hM.r46, hM.r47, h1, c2, w_lt, e3, c3, hab, kd_M, ln_M, kd_mHas, ln_mHas]
      cases abl_ F G P a p r <;> rfl
    · rw [decide_eq_false c3, Bool.false_and]
      simp (disch := first | omega | assumption | decide | (apply bT_; decide)) only [s121_0, s121_1, s121_2, s121_5, s121_8, s121_9, s121_12, s121_13, s121_14, s121_15, s121_18, s121_19, s121_20, s121_21, s121_22, s121_25, s121_28, s121_29, s121_32, s121_33, K_v, K_0, acI, acA, acJ, acX, List.map_cons, List.map_nil, List.sum_cons, List.sum_nil, true_and, and_true, posT, b2_0, b2_1, bft, true_or, or_true, Nat.zero_le, Nat.reduceAdd, Nat.reduceLeDiff, hI_uI, hL_uI, hR_uI, nx_uI, sl_uI, hI_uL, hL_uL, hR_uL, nx_uL, sl_uL, hI_uR, hL_uR, hR_uR, nx_uR, sl_uR, st_eq, if_true, if_false, eq_self, Nat.reduceEqDiff, Nat.reduceMul, reduceIte, kdT, ixT, w_cl, w_ti, w_s1, w_a, w_m12, w_m8, w_m3, w_m4, hM.r2, hM.r3, hM.r4, hM.r5, hM.r6, hM.r7, hM.r9, hM.r10, hM.r11, hM.r12, hM.r13, hM.r14, hM.r15, hM.r16, hM.r17, hM.r18, hM.r20, hM.r21, hM.r23, hM.r29, hM.r30, hM.r35, hM.r36, hM.r37, hM.r38, hM.r40, hM.r42, hM.r43, hM.r44, hM.r45, hM.r46, hM.r47, h1, c2, w_lt, e3, c3, hab, kd_M, ln_M, kd_mHas, ln_mHas]
      try rfl
theorem c_mchange {r : Nat} (hM : MS_ h) (hc : MC_ σ Hs O T U h) (hr : r < 8) : V_ xs d 122 0 [vA (some 33554440), vI (Int32.ofNat a), vI (Int32.ofNat r)] [] h Q ↔ Q (some (some (vI (Int32.ofNat (gm_ O r (a + 1)))))) h := by
  obtain ⟨-, -, -, h4, -⟩ := id hc
  have e4 := h4 r hr
  show _ ↔ Q (some (some (vI (Int32.ofNat (if O r = -1 ∨ O r = Int32.ofNat a then 0 else 1))))) h
  by_cases c1 : O r = -1
  · rw [if_pos (Or.inl c1)]
    simp (disch := first | omega | assumption | decide | (apply bT_; decide)) only [s122_0, s122_1, s122_4, s122_5, s122_6, s122_7, s122_10, s122_11, s122_14, s122_15, s122_16, s122_17, s122_20, s122_21, s122_24, s122_25, K_v, K_0, acI, acA, acJ, acX, List.map_cons, List.map_nil, List.sum_cons, List.sum_nil, true_and, and_true, posT, b2_0, b2_1, bft, true_or, or_true, Nat.zero_le, Nat.reduceAdd, Nat.reduceLeDiff, hI_uI, hL_uI, hR_uI, nx_uI, sl_uI, hI_uL, hL_uL, hR_uL, nx_uL, sl_uL, hI_uR, hL_uR, hR_uR, nx_uR, sl_uR, st_eq, if_true, if_false, eq_self, Nat.reduceEqDiff, Nat.reduceMul, reduceIte, kdT, ixT, w_cl, w_ti, w_s1, w_a, w_m12, w_m8, w_m3, w_m4, hM.r2, hM.r3, hM.r4, hM.r5, hM.r6, hM.r7, hM.r9, hM.r10, hM.r11, hM.r12, hM.r13, hM.r14, hM.r15, hM.r16, hM.r17, hM.r18, hM.r20, hM.r21, hM.r23, hM.r29, hM.r30, hM.r35, hM.r36, hM.r37, hM.r38, hM.r40, hM.r42, hM.r43, hM.r44, hM.r45, hM.r46, hM.r47, e4, c1, kd_M, ln_M, kd_mOld, ln_mOld]
    try rfl
  · by_cases c2 : O r = Int32.ofNat a
    · rw [if_pos (Or.inr c2)]
      rw [c2] at c1
      simp (disch := first | omega | assumption | decide | (apply bT_; decide)) only [s122_0, s122_1, s122_4, s122_5, s122_6, s122_7, s122_10, s122_11, s122_14, s122_15, s122_16, s122_17, s122_20, s122_21, s122_24, s122_25, K_v, K_0, acI, acA, acJ, acX, List.map_cons, List.map_nil, List.sum_cons, List.sum_nil, true_and, and_true, posT, b2_0, b2_1, bft, true_or, or_true, Nat.zero_le, Nat.reduceAdd, Nat.reduceLeDiff, hI_uI, hL_uI, hR_uI, nx_uI, sl_uI, hI_uL, hL_uL, hR_uL, nx_uL, sl_uL, hI_uR, hL_uR, hR_uR, nx_uR, sl_uR, st_eq, if_true, if_false, eq_self, Nat.reduceEqDiff, Nat.reduceMul, reduceIte, kdT, ixT, w_cl, w_ti, w_s1, w_a, w_m12, w_m8, w_m3, w_m4, hM.r2, hM.r3, hM.r4, hM.r5, hM.r6, hM.r7, hM.r9, hM.r10, hM.r11, hM.r12, hM.r13, hM.r14, hM.r15, hM.r16, hM.r17, hM.r18, hM.r20, hM.r21, hM.r23, hM.r29, hM.r30, hM.r35, hM.r36, hM.r37, hM.r38, hM.r40, hM.r42, hM.r43, hM.r44, hM.r45, hM.r46, hM.r47, e4, c2, c1, kd_M, ln_M, kd_mOld, ln_mOld]
      try rfl
    · rw [if_neg (by rintro (z | z); exact c1 z; exact c2 z)]
      simp (disch := first | omega | assumption | decide | (apply bT_; decide)) only [s122_0, s122_1, s122_4, s122_5, s122_6, s122_7, s122_10, s122_11, s122_14, s122_15, s122_16, s122_17, s122_20, s122_21, s122_24, s122_25, K_v, K_0, acI, acA, acJ, acX, List.map_cons, List.map_nil, List.sum_cons, List.sum_nil, true_and, and_true, posT, b2_0, b2_1, bft, true_or, or_true, Nat.zero_le, Nat.reduceAdd, Nat.reduceLeDiff, hI_uI, hL_uI, hR_uI, nx_uI, sl_uI, hI_uL, hL_uL, hR_uL, nx_uL, sl_uL, hI_uR, hL_uR, hR_uR, nx_uR, sl_uR, st_eq, if_true, if_false, eq_self, Nat.reduceEqDiff, Nat.reduceMul, reduceIte, kdT, ixT, w_cl, w_ti, w_s1, w_a, w_m12, w_m8, w_m3, w_m4, hM.r2, hM.r3, hM.r4, hM.r5, hM.r6, hM.r7, hM.r9, hM.r10, hM.r11, hM.r12, hM.r13, hM.r14, hM.r15, hM.r16, hM.r17, hM.r18, hM.r20, hM.r21, hM.r23, hM.r29, hM.r30, hM.r35, hM.r36, hM.r37, hM.r38, hM.r40, hM.r42, hM.r43, hM.r44, hM.r45, hM.r46, hM.r47, e4, c2, c1, kd_M, ln_M, kd_mOld, ln_mOld]
      try rfl
/-- a row of the table, one set more worked off -/
def gr_ (t m : Nat) (y : Int32) (r : Nat → Int32) : Nat → Int32 := if t &&& m = 0 then st_ r (t ||| m) (if y < r (t ||| m) then y else r (t ||| m)) else r
theorem gr_step {n t m k : Nat} {B S : Nat → Nat → Prop} {y : Int32} {r : Nat → Int32} (hk : k ≤ 2) (hB : ∀ v, B t v → v + k < 100) (hy : TM_ y (B t)) (hI : ∀ s, s < 2 ^ n → TM_ (r s) (fun v => S s v ∨ ∃ s' v', s' < t ∧ s' &&& m = 0 ∧ s = s' ||| m ∧ B s' v' ∧ v = v' + k)) : ∀ s, s < 2 ^ n → TM_ (gr_ t m (y + Int32.ofNat k) r s) (fun v => S s v ∨ ∃ s' v', s' < t + 1 ∧ s' &&& m = 0 ∧ s = s' ||| m ∧ B s' v' ∧ v = v' + k) := by
  intro s hs
  unfold gr_
  by_cases q : t &&& m = 0 ∧ s = t ||| m
  · rw [if_pos q.1, st_eq, if_pos q.2, ← q.2]
    refine ((hI s hs).step hy hk hB).iff (fun v => ?_)
    constructor
    · rintro ((hv | ⟨s', v', h1, h2, h3, h4, h5⟩) | ⟨v', h4, h5⟩)
      · exact Or.inl hv
      · exact Or.inr ⟨s', v', by omega, h2, h3, h4, h5⟩
      · exact Or.inr ⟨t, v', by omega, q.1, q.2, h4, h5⟩
    · rintro (hv | ⟨s', v', h1, h2, h3, h4, h5⟩)
      · exact Or.inl (Or.inl hv)
      · by_cases e : s' = t
        · rw [e] at h4; exact Or.inr ⟨v', h4, h5⟩
        · exact Or.inl (Or.inr ⟨s', v', by omega, h2, h3, h4, h5⟩)
  · have e : (if t &&& m = 0 then st_ r (t ||| m) (if y + Int32.ofNat k < r (t ||| m) then y + Int32.ofNat k else r (t ||| m)) else r) s = r s := by
      by_cases q1 : t &&& m = 0
      · rw [if_pos q1, st_eq, if_neg (fun z => q ⟨q1, z⟩)]
      · rw [if_neg q1]
    rw [e]
    refine (hI s hs).iff (fun v => ?_)
    constructor
    · rintro (hv | ⟨s', v', h1, h2, h3, h4, h5⟩)
      · exact Or.inl hv
      · exact Or.inr ⟨s', v', by omega, h2, h3, h4, h5⟩
    · rintro (hv | ⟨s', v', h1, h2, h3, h4, h5⟩)
      · exact Or.inl hv
      · refine Or.inr ⟨s', v', ?_, h2, h3, h4, h5⟩
        have : s' ≠ t := fun z => q (by rw [z] at h2 h3; exact ⟨h2, h3⟩)
        omega
end MCS
