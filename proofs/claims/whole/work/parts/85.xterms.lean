/-! the class: terms -/
def okt_ (S : Nat → Nat) (W : Nat → Int32) (t : Trm_) : Prop := 10 ≤ t.1 ∧ t.1 ≤ 13 ∧ LV_ 19 t.2.2.1 ∧ (∃ n, t.2.1 = Int32.ofNat n ∧ n < 1000000) ∧ S t.2.2.2 = 14 ∧ ∃ k, pE_ S W 8 (t.2.2.2 + 1) = .inr (t.2.2.1, k)
section PTO
variable {S : Nat → Nat} {W : Nat → Int32} {f : Nat}
theorem ptb_ok {w : Nat} {am : Int32} {j : Nat} (hf : ∀ k, f ≤ k → S k = 0) (hW : ∀ k, S k = 2 → ∃ n, W k = Int32.ofNat n ∧ n < 1000000) (hS : ∀ k, S k < 25) (hj : j ≤ f) (hw : 10 ≤ w ∧ w ≤ 13) (ham : ∃ n, am = Int32.ofNat n ∧ n < 1000000) : (∀ c k, ptb_ S W w am j = .inl (c, k) → (c = 1 ∨ c = 2) ∧ k ≤ f) ∧ ∀ t k, ptb_ S W w am j = .inr (t, k) → k ≤ f ∧ okt_ S W t := by
  have lt : ∀ k, S k ≠ 0 → k < f := fun k z => by
    rcases Nat.lt_or_ge k f with y | y
    · exact y
    · exact absurd (hf k y) z
  unfold ptb_
  by_cases q : S j = 14
  · rw [if_pos q]
    have hjf := lt j (by omega)
    have hE := pE_ok hf hW hS 8 (j + 1) hjf
    cases hr : pE_ S W 8 (j + 1) with
    | inl y =>
      obtain ⟨c1, k1⟩ := y
      rw [hr] at hE
      obtain ⟨a1, a2, a3⟩ := hE
      refine ⟨fun c k h => ?_, fun t k h => (by cases h)⟩
      injection h with h
      injection h with h1 h2
      rw [← h1, ← h2]
      exact ⟨a3, a2⟩
    | inr y =>
      obtain ⟨e, k1⟩ := y
      rw [hr] at hE
      obtain ⟨a1, a2, a3, a4⟩ := hE
      dsimp only
      by_cases q2 : S k1 = 6
      · rw [if_pos q2]
        have := lt k1 (by omega)
        refine ⟨fun c k h => (by cases h), fun t k h => ?_⟩
        injection h with h
        injection h with h1 h2
        rw [← h1, ← h2]
        exact ⟨this, hw.1, hw.2, a4, ham, q, k1, hr⟩
      · rw [if_neg q2]
        refine ⟨fun c k h => ?_, fun t k h => (by cases h)⟩
        injection h with h
        injection h with h1 h2
        rw [← h1, ← h2]
        exact ⟨Or.inl rfl, a2⟩
  · rw [if_neg q]
    refine ⟨fun c k h => ?_, fun t k h => (by cases h)⟩
    injection h with h
    injection h with h1 h2
    rw [← h1, ← h2]
    exact ⟨Or.inl rfl, hj⟩
theorem ptm_ok {c0 k0 : Nat} (hf : ∀ k, f ≤ k → S k = 0) (hW : ∀ k, S k = 2 → ∃ n, W k = Int32.ofNat n ∧ n < 1000000) (hS : ∀ k, S k < 25) (hj : k0 ≤ f) : (∀ c k, ptm_ S W c0 k0 = .inl (c, k) → (c = 1 ∨ c = 2) ∧ k ≤ f) ∧ ∀ t k, ptm_ S W c0 k0 = .inr (t, k) → k ≤ f ∧ okt_ S W t ∧ c0 ≠ 10 := by
  have lt : ∀ k, S k ≠ 0 → k < f := fun k z => by
    rcases Nat.lt_or_ge k f with y | y
    · exact y
    · exact absurd (hf k y) z
  have one : ∀ (c1 k1 : Nat), (c1 = 1 ∨ c1 = 2) → k1 ≤ f → (∀ c k, (.inl (c1, k1) : (Nat × Nat) ⊕ (Trm_ × Nat)) = .inl (c, k) → (c = 1 ∨ c = 2) ∧ k ≤ f) ∧ ∀ t k, (.inl (c1, k1) : (Nat × Nat) ⊕ (Trm_ × Nat)) = .inr (t, k) → k ≤ f ∧ okt_ S W t ∧ c0 ≠ 10 := by
    intro c1 k1 h1 h2
    refine ⟨fun c k h => ?_, fun t k h => (by cases h)⟩
    injection h with h
    injection h with e1 e2
    rw [← e1, ← e2]
    exact ⟨h1, h2⟩
  unfold ptm_
  by_cases q : S k0 < 10 ∨ 13 < S k0
  · rw [if_pos q]; exact one 1 k0 (Or.inl rfl) hj
  · rw [if_neg q]
    have h1 := lt k0 (by omega)
    by_cases q2 : c0 = 10
    · rw [if_pos q2]; exact one 2 k0 (Or.inr rfl) hj
    · rw [if_neg q2]
      by_cases q3 : S k0 = 10
      · rw [if_pos q3]
        have := ptb_ok (w := S k0) (am := 0) (j := k0 + 1) hf hW hS h1 (by omega) ⟨0, rfl, by decide⟩
        exact ⟨this.1, fun t k h => ⟨(this.2 t k h).1, (this.2 t k h).2, q2⟩⟩
      · rw [if_neg q3]
        by_cases q4 : S (k0 + 1) = 2
        · rw [if_pos q4]
          have := ptb_ok (w := S k0) (am := W (k0 + 1)) (j := k0 + 2) hf hW hS (lt (k0 + 1) (by omega)) (by omega) (hW _ q4)
          exact ⟨this.1, fun t k h => ⟨(this.2 t k h).1, (this.2 t k h).2, q2⟩⟩
        · rw [if_neg q4]; exact one 1 (k0 + 1) (Or.inl rfl) h1
theorem pts_ok (hf : ∀ k, f ≤ k → S k = 0) (hW : ∀ k, S k = 2 → ∃ n, W k = Int32.ofNat n ∧ n < 1000000) (hS : ∀ k, S k < 25) : ∀ (m : Nat) (L : List Trm_) (k0 : Nat), k0 ≤ f → (∀ t, t ∈ L → okt_ S W t) → (∀ c k, pts_ S W m L k0 = .inl (c, k) → (c = 1 ∨ c = 2) ∧ k ≤ f) ∧ ∀ L', pts_ S W m L k0 = .inr L' → ∀ t, t ∈ L' → okt_ S W t := by
  intro m
  induction m with
  | zero =>
    intro L k0 h1 h2
    refine ⟨fun c k h => (by cases h), fun L' h => ?_⟩
    injection h with h
    rw [← h]; exact h2
  | succ m ih =>
    intro L k0 h1 h2
    have es : pts_ S W (m + 1) L k0 = if S k0 = 0 then .inr L else (match ptm_ S W L.length k0 with | .inl x => .inl x | .inr (t, k1) => pts_ S W m (L ++ [t]) k1) := rfl
    rw [es]
    by_cases q : S k0 = 0
    · rw [if_pos q]
      refine ⟨fun c k h => (by cases h), fun L' h => ?_⟩
      injection h with h
      rw [← h]; exact h2
    · rw [if_neg q]
      have hP := ptm_ok (c0 := L.length) hf hW hS h1
      cases hr : ptm_ S W L.length k0 with
      | inl y =>
        obtain ⟨c1, k1⟩ := y
        have := hP.1 c1 k1 hr
        refine ⟨fun c k h => ?_, fun L' h => by cases h⟩
        injection h with h
        injection h with e1 e2
        rw [← e1, ← e2]
        exact this
      | inr y =>
        obtain ⟨t, k1⟩ := y
        obtain ⟨b1, b2, -⟩ := hP.2 t k1 hr
        exact ih (L ++ [t]) k1 b1 (fun t' ht' => by
          rcases List.mem_append.mp ht' with z | z
          · exact h2 t' z
          · rw [List.mem_singleton.mp z]; exact b2)
end PTO
/-- the agreed terms, as the class has them -/
def CE_ (L : List Trm_) (h : AH) : Prop := (hR_ h 25165831 12 = some 30932993 ∧ hR_ h 25165831 13 = some 32243713 ∧ AG_ 30932993 31195798 31457936 31720080 32032784 L h) ∨ (hR_ h 25165831 12 = some 32243713 ∧ hR_ h 25165831 13 = some 30932993 ∧ AG_ 32243713 32506518 32768656 33030800 33343504 L h)
/-- what terms leaves -/
def KX_ (h h' : AH) : Prop := (∀ a, a ∉ [25165831, 29884421, 30459984, 30722128, 30932993, 31457936, 31720080, 32032784, 32243713, 32768656, 33030800, 33343504] → hI_ h' a = hI_ h a) ∧ (∀ j, j ≠ 10 → hI_ h' 25165831 j = hI_ h 25165831 j) ∧ hL_ h' = hL_ h ∧ (∀ a j, a ∉ [30197846, 31195798, 32506518] → (a = 29884421 → j ≠ 6) → (a = 25165831 → j ≠ 12 ∧ j ≠ 13) → hR_ h' a j = hR_ h a j) ∧ nx_ h' = nx_ h ∧ sl_ h' = sl_ h
theorem KX_.cs {h h1 : AH} (f : KX_ h h1) (H : CS_ h) : CS_ h1 := by
  have g := f.2.2.2.1
  unfold CS_ at H ⊢
  simp (disch := decide) only [g]
  exact H
def agrd_ (T : Nat → Int32) (tl : Nat) (L : List Trm_) : List Trm_ := match ptx_ T tl with
  | .inl _ => L
  | .inr L' => L'
section XTM
variable {xs : Nat → Int32} {d : Nat} {h h1 : AH} {T : Nat → Int32} {tl : Nat} {L : List Trm_}
theorem AG_.kt {WI WR : List Nat} {cG cW cN cP cT : Nat} (f1 : KT_ WI WR h h1) (hI : cG ∉ WI ∧ cN ∉ WI ∧ cP ∉ WI ∧ cT ∉ WI) (hR : cW ∉ WR ∧ cW ≠ 29884421) (H : AG_ cG cW cN cP cT L h) : AG_ cG cW cN cP cT L h1 := by
  obtain ⟨a1, a2, a3, a4⟩ := H
  refine ⟨by rw [f1.1 cG hI.1]; exact a1, a2, fun i hi => ?_, fun j hj => by rw [f1.1 cT hI.2.2.2]; exact a4 j hj⟩
  rw [f1.2.2.1 cW i hR.1 (fun z => absurd z hR.2), f1.1 cN hI.2.1, f1.1 cP hI.2.2.1]
  exact a3 i hi
theorem rda_0 : (∀ L', ptx_ T tl = .inr L' → rda_ T tl (ptx_ T tl) = 0) ∧ (tl ≤ 800 → (∀ c k, ptx_ T tl = .inl (c, k) → c = 1 ∨ c = 2) → ∀ c k, ptx_ T tl = .inl (c, k) → ¬ (rda_ T tl (ptx_ T tl) = 0)) := by
  constructor
  · intro L' h; rw [h]; rfl
  · intro h8 hc c k h
    have := hc c k h
    rw [h]
    show ¬ (Int32.ofNat c + 16 * Int32.ofNat (ps_ T tl k) = 0)
    have hp := ps_le (B := T) (N := tl) (k := k)
    rw [show (16 : Int32) = Int32.ofNat 16 from rfl, ← Int32.ofNat_mul, ← Int32.ofNat_add]
    intro z
    have := (w_eq (b := 0) (by omega) (by omega)).mp z
    omega
theorem x_terms (hC : CS_ h) (hE : CE_ L h) (hT : CT_ tl T h) (hd : 33 ≤ d) : ∃ h', KX_ h h' ∧ Do_ xs d 83 [vA (some 25165831), vX 0, vX 0] h (some (some (vI (rda_ T tl (ptx_ T tl))))) h' ∧ CT_ 0 T h' ∧ CE_ (agrd_ T tl L) h' ∧ (∀ c k, ptx_ T tl = .inl (c, k) → c = 1 ∨ c = 2) ∧ (∀ L', ptx_ T tl = .inr L' → ∀ t, t ∈ L' → okt_ (stk_ T tl) (vlk_ T tl) t) := by
  obtain ⟨e1, e2, e3⟩ := id hT
  have hTX : TX_ T tl 29673489 h := ⟨e2, e3⟩
  have hps : (∀ c k, ptx_ T tl = .inl (c, k) → c = 1 ∨ c = 2) ∧ (∀ L', ptx_ T tl = .inr L' → ∀ t, t ∈ L' → okt_ (stk_ T tl) (vlk_ T tl) t) := by
    obtain ⟨h1, f, a1, a2, a3⟩ := c_scan (xs := xs) (d := 8) hC hTX (by omega)
    have := pts_ok (f := f) (tkf_0 a2) (vlk_nat (B := T) (N := tl)) (fun k => stk_lt) 11 [] 0 (Nat.zero_le _) (fun t ht => nomatch ht)
    exact ⟨fun c k h => (this.1 c k h).1, this.2⟩
  obtain ⟨z1, z2⟩ := rda_0 (T := T) (tl := tl)
  have z2 := z2 e2 hps.1
  rcases hE with ⟨x12, x13, hA⟩ | ⟨x12, x13, hA⟩
  · have hg : GC_ 32243713 32506518 32768656 33030800 33343504 := Or.inr ⟨rfl, rfl, rfl, rfl, rfl⟩
    obtain ⟨y, a1, a2, a3⟩ := c_read (xs := xs) (d := d - 1) hg hC hTX (by omega)
    have y12 : hR_ y 25165831 12 = some 30932993 := by rw [a1.2.2.1 25165831 12 (by decide) (by decide)]; exact x12
    have y13 : hR_ y 25165831 13 = some 32243713 := by rw [a1.2.2.1 25165831 13 (by decide) (by decide)]; exact x13
    have hAy := hA.kt a1 (by decide) (by decide)
    cases hr : ptx_ T tl with
    | inl v =>
      obtain ⟨c, k⟩ := v
      have nz := z2 c k hr
      rw [hr] at nz a3
      refine ⟨uI_ y 25165831 (st_ (hI_ y 25165831) 10 0), ⟨fun a ha => ?_, fun j hj => ?_, a1.2.1, fun a j q1 q2 q3 => ?_, a1.2.2.2⟩, fun Q => ?_, ⟨by simp only [hI_uI, hL_uI, hR_uI, nx_uI, sl_uI, hI_uL, hL_uL, hR_uL, nx_uL, sl_uL, hI_uR, hL_uR, hR_uR, nx_uR, sl_uR, st_eq, if_true, if_false, eq_self, Nat.reduceEqDiff, Nat.reduceMul, reduceIte, kdT, ixT, w_cl, w_ti, w_s1, w_a, w_m12, w_m8, w_m3, w_m4]; rfl, by decide, fun i hi => absurd hi (Nat.not_lt_zero _)⟩, Or.inl ⟨y12, y13, ?_⟩, by rw [← hr]; exact hps.1, by rw [← hr]; exact hps.2⟩
      · rw [hI_uI, if_neg (fun z => ha (by rw [z]; decide))]
        exact a1.1 a (fun z => ha (by revert z; simp only [List.mem_cons, List.not_mem_nil, or_false]; omega))
      · simp only [hI_uI, hL_uI, hR_uI, nx_uI, sl_uI, hI_uL, hL_uL, hR_uL, nx_uL, sl_uL, hI_uR, hL_uR, hR_uR, nx_uR, sl_uR, st_eq, if_true, if_false, eq_self, Nat.reduceEqDiff, Nat.reduceMul, reduceIte, kdT, ixT, w_cl, w_ti, w_s1, w_a, w_m12, w_m8, w_m3, w_m4]; rw [if_neg hj, a1.1 25165831 (by decide)]
      · exact a1.2.2.1 a j (fun z => q1 (by revert z; simp only [List.mem_cons, List.not_mem_nil, or_false]; omega)) q2
      · simp (disch := first | omega | assumption | decide | (apply bT_; decide)) only [s83_0, s83_1, s83_4, s83_5, s83_8, s83_9, s83_12, s83_13, s83_16, s83_19, s83_20, s83_21, s83_22, s83_25, s83_26, s83_30, s83_33, s83_34, s83_35, s83_36, s83_39, s83_42, s83_43, s83_44, s83_47, s83_48, K_v, K_0, acI, acA, acJ, acX, List.map_cons, List.map_nil, List.sum_cons, List.sum_nil, true_and, and_true, posT, b2_0, b2_1, bft, true_or, or_true, Nat.zero_le, Nat.reduceAdd, Nat.reduceLeDiff, hI_uI, hL_uI, hR_uI, nx_uI, sl_uI, hI_uL, hL_uL, hR_uL, nx_uL, sl_uL, hI_uR, hL_uR, hR_uR, nx_uR, sl_uR, st_eq, if_true, if_false, eq_self, Nat.reduceEqDiff, Nat.reduceMul, reduceIte, kdT, ixT, w_cl, w_ti, w_s1, w_a, w_m12, w_m8, w_m3, w_m4, hC.x0, hC.x2, hC.x4, hC.x7, hC.x8, hC.x9, hC.x11, hC.f0, hC.f1, hC.f2, hC.p0, hC.p1, hC.p2, hC.p3, hC.l1, hC.l2, hC.l3, hC.l4, hC.d0, hC.d1, hC.d2, hC.g1, hC.g2, hC.g3, hC.g4, hC.k1, hC.k2, hC.k3, hC.k4, e1, x13, a3, nz, kd_X, ln_X, kd_RD, ln_RD]
      · have : agrd_ T tl L = L := by unfold agrd_; rw [hr]
        rw [this]
        obtain ⟨b1, b2, b3, b4⟩ := hAy
        exact ⟨by simp only [hI_uI, hL_uI, hR_uI, nx_uI, sl_uI, hI_uL, hL_uL, hR_uL, nx_uL, sl_uL, hI_uR, hL_uR, hR_uR, nx_uR, sl_uR, st_eq, if_true, if_false, eq_self, Nat.reduceEqDiff, Nat.reduceMul, reduceIte, kdT, ixT, w_cl, w_ti, w_s1, w_a, w_m12, w_m8, w_m3, w_m4]; exact b1, b2, fun i hi => by simp only [hI_uI, hL_uI, hR_uI, nx_uI, sl_uI, hI_uL, hL_uL, hR_uL, nx_uL, sl_uL, hI_uR, hL_uR, hR_uR, nx_uR, sl_uR, st_eq, if_true, if_false, eq_self, Nat.reduceEqDiff, Nat.reduceMul, reduceIte, kdT, ixT, w_cl, w_ti, w_s1, w_a, w_m12, w_m8, w_m3, w_m4]; exact b3 i hi, fun j hj => by simp only [hI_uI, hL_uI, hR_uI, nx_uI, sl_uI, hI_uL, hL_uL, hR_uL, nx_uL, sl_uL, hI_uR, hL_uR, hR_uR, nx_uR, sl_uR, st_eq, if_true, if_false, eq_self, Nat.reduceEqDiff, Nat.reduceMul, reduceIte, kdT, ixT, w_cl, w_ti, w_s1, w_a, w_m12, w_m8, w_m3, w_m4]; exact b4 j hj⟩
    | inr L' =>
      have nz := z1 L' hr
      rw [hr] at nz a3
      refine ⟨uR_ (uR_ (uI_ y 25165831 (st_ (hI_ y 25165831) 10 0)) 25165831 (st_ (hR_ y 25165831) 12 (some 32243713))) 25165831 (st_ (st_ (hR_ y 25165831) 12 (some 32243713)) 13 (some 30932993)), ⟨fun a ha => ?_, fun j hj => ?_, a1.2.1, fun a j q1 q2 q3 => ?_, a1.2.2.2⟩, fun Q => ?_, ⟨by simp only [hI_uI, hL_uI, hR_uI, nx_uI, sl_uI, hI_uL, hL_uL, hR_uL, nx_uL, sl_uL, hI_uR, hL_uR, hR_uR, nx_uR, sl_uR, st_eq, if_true, if_false, eq_self, Nat.reduceEqDiff, Nat.reduceMul, reduceIte, kdT, ixT, w_cl, w_ti, w_s1, w_a, w_m12, w_m8, w_m3, w_m4]; rfl, by decide, fun i hi => absurd hi (Nat.not_lt_zero _)⟩, Or.inr ⟨by simp only [hI_uI, hL_uI, hR_uI, nx_uI, sl_uI, hI_uL, hL_uL, hR_uL, nx_uL, sl_uL, hI_uR, hL_uR, hR_uR, nx_uR, sl_uR, st_eq, if_true, if_false, eq_self, Nat.reduceEqDiff, Nat.reduceMul, reduceIte, kdT, ixT, w_cl, w_ti, w_s1, w_a, w_m12, w_m8, w_m3, w_m4], by simp only [hI_uI, hL_uI, hR_uI, nx_uI, sl_uI, hI_uL, hL_uL, hR_uL, nx_uL, sl_uL, hI_uR, hL_uR, hR_uR, nx_uR, sl_uR, st_eq, if_true, if_false, eq_self, Nat.reduceEqDiff, Nat.reduceMul, reduceIte, kdT, ixT, w_cl, w_ti, w_s1, w_a, w_m12, w_m8, w_m3, w_m4], ?_⟩, by rw [← hr]; exact hps.1, by rw [← hr]; exact hps.2⟩
      · simp only [hI_uR]
        rw [hI_uI, if_neg (fun z => ha (by rw [z]; decide))]
        exact a1.1 a (fun z => ha (by revert z; simp only [List.mem_cons, List.not_mem_nil, or_false]; omega))
      · simp only [hI_uI, hL_uI, hR_uI, nx_uI, sl_uI, hI_uL, hL_uL, hR_uL, nx_uL, sl_uL, hI_uR, hL_uR, hR_uR, nx_uR, sl_uR, st_eq, if_true, if_false, eq_self, Nat.reduceEqDiff, Nat.reduceMul, reduceIte, kdT, ixT, w_cl, w_ti, w_s1, w_a, w_m12, w_m8, w_m3, w_m4]; rw [if_neg hj, a1.1 25165831 (by decide)]
      · simp only [hR_uR, hR_uI, st_eq]
        have := a1.2.2.1 a j (fun z => q1 (by revert z; simp only [List.mem_cons, List.not_mem_nil, or_false]; omega)) q2
        by_cases q : a = 25165831
        · rw [if_pos q, st_eq, st_eq, if_neg (q3 q).2, if_neg (q3 q).1, ← q]; exact this
        · rw [if_neg q, if_neg q]; exact this
      · simp (disch := first | omega | assumption | decide | (apply bT_; decide)) only [s83_0, s83_1, s83_4, s83_5, s83_8, s83_9, s83_12, s83_13, s83_16, s83_19, s83_20, s83_21, s83_22, s83_25, s83_26, s83_29, s83_30, s83_33, s83_34, s83_35, s83_36, s83_39, s83_42, s83_43, s83_44, s83_47, s83_48, K_v, K_0, acI, acA, acJ, acX, List.map_cons, List.map_nil, List.sum_cons, List.sum_nil, true_and, and_true, posT, b2_0, b2_1, bft, true_or, or_true, Nat.zero_le, Nat.reduceAdd, Nat.reduceLeDiff, hI_uI, hL_uI, hR_uI, nx_uI, sl_uI, hI_uL, hL_uL, hR_uL, nx_uL, sl_uL, hI_uR, hL_uR, hR_uR, nx_uR, sl_uR, st_eq, if_true, if_false, eq_self, Nat.reduceEqDiff, Nat.reduceMul, reduceIte, kdT, ixT, w_cl, w_ti, w_s1, w_a, w_m12, w_m8, w_m3, w_m4, hC.x0, hC.x2, hC.x4, hC.x7, hC.x8, hC.x9, hC.x11, hC.f0, hC.f1, hC.f2, hC.p0, hC.p1, hC.p2, hC.p3, hC.l1, hC.l2, hC.l3, hC.l4, hC.d0, hC.d1, hC.d2, hC.g1, hC.g2, hC.g3, hC.g4, hC.k1, hC.k2, hC.k3, hC.k4, e1, x13, y12, y13, a3, nz, kd_X, ln_X, kd_RD, ln_RD]
      · have : agrd_ T tl L = L' := by unfold agrd_; rw [hr]
        rw [this]
        obtain ⟨b1, b2, b3, b4⟩ := a2 L' hr
        exact ⟨by simp only [hI_uI, hL_uI, hR_uI, nx_uI, sl_uI, hI_uL, hL_uL, hR_uL, nx_uL, sl_uL, hI_uR, hL_uR, hR_uR, nx_uR, sl_uR, st_eq, if_true, if_false, eq_self, Nat.reduceEqDiff, Nat.reduceMul, reduceIte, kdT, ixT, w_cl, w_ti, w_s1, w_a, w_m12, w_m8, w_m3, w_m4]; exact b1, b2, fun i hi => by simp only [hI_uI, hL_uI, hR_uI, nx_uI, sl_uI, hI_uL, hL_uL, hR_uL, nx_uL, sl_uL, hI_uR, hL_uR, hR_uR, nx_uR, sl_uR, st_eq, if_true, if_false, eq_self, Nat.reduceEqDiff, Nat.reduceMul, reduceIte, kdT, ixT, w_cl, w_ti, w_s1, w_a, w_m12, w_m8, w_m3, w_m4]; exact b3 i hi, fun j hj => by simp only [hI_uI, hL_uI, hR_uI, nx_uI, sl_uI, hI_uL, hL_uL, hR_uL, nx_uL, sl_uL, hI_uR, hL_uR, hR_uR, nx_uR, sl_uR, st_eq, if_true, if_false, eq_self, Nat.reduceEqDiff, Nat.reduceMul, reduceIte, kdT, ixT, w_cl, w_ti, w_s1, w_a, w_m12, w_m8, w_m3, w_m4]; exact b4 j hj⟩
  · have hg : GC_ 30932993 31195798 31457936 31720080 32032784 := Or.inl ⟨rfl, rfl, rfl, rfl, rfl⟩
    obtain ⟨y, a1, a2, a3⟩ := c_read (xs := xs) (d := d - 1) hg hC hTX (by omega)
    have y12 : hR_ y 25165831 12 = some 32243713 := by rw [a1.2.2.1 25165831 12 (by decide) (by decide)]; exact x12
    have y13 : hR_ y 25165831 13 = some 30932993 := by rw [a1.2.2.1 25165831 13 (by decide) (by decide)]; exact x13
    have hAy := hA.kt a1 (by decide) (by decide)
    cases hr : ptx_ T tl with
    | inl v =>
      obtain ⟨c, k⟩ := v
      have nz := z2 c k hr
      rw [hr] at nz a3
      refine ⟨uI_ y 25165831 (st_ (hI_ y 25165831) 10 0), ⟨fun a ha => ?_, fun j hj => ?_, a1.2.1, fun a j q1 q2 q3 => ?_, a1.2.2.2⟩, fun Q => ?_, ⟨by simp only [hI_uI, hL_uI, hR_uI, nx_uI, sl_uI, hI_uL, hL_uL, hR_uL, nx_uL, sl_uL, hI_uR, hL_uR, hR_uR, nx_uR, sl_uR, st_eq, if_true, if_false, eq_self, Nat.reduceEqDiff, Nat.reduceMul, reduceIte, kdT, ixT, w_cl, w_ti, w_s1, w_a, w_m12, w_m8, w_m3, w_m4]; rfl, by decide, fun i hi => absurd hi (Nat.not_lt_zero _)⟩, Or.inr ⟨y12, y13, ?_⟩, by rw [← hr]; exact hps.1, by rw [← hr]; exact hps.2⟩
      · rw [hI_uI, if_neg (fun z => ha (by rw [z]; decide))]
        exact a1.1 a (fun z => ha (by revert z; simp only [List.mem_cons, List.not_mem_nil, or_false]; omega))
      · simp only [hI_uI, hL_uI, hR_uI, nx_uI, sl_uI, hI_uL, hL_uL, hR_uL, nx_uL, sl_uL, hI_uR, hL_uR, hR_uR, nx_uR, sl_uR, st_eq, if_true, if_false, eq_self, Nat.reduceEqDiff, Nat.reduceMul, reduceIte, kdT, ixT, w_cl, w_ti, w_s1, w_a, w_m12, w_m8, w_m3, w_m4]; rw [if_neg hj, a1.1 25165831 (by decide)]
      · exact a1.2.2.1 a j (fun z => q1 (by revert z; simp only [List.mem_cons, List.not_mem_nil, or_false]; omega)) q2
      · simp (disch := first | omega | assumption | decide | (apply bT_; decide)) only [s83_0, s83_1, s83_4, s83_5, s83_8, s83_9, s83_12, s83_13, s83_16, s83_19, s83_20, s83_21, s83_22, s83_25, s83_26, s83_30, s83_33, s83_34, s83_35, s83_36, s83_39, s83_42, s83_43, s83_44, s83_47, s83_48, K_v, K_0, acI, acA, acJ, acX, List.map_cons, List.map_nil, List.sum_cons, List.sum_nil, true_and, and_true, posT, b2_0, b2_1, bft, true_or, or_true, Nat.zero_le, Nat.reduceAdd, Nat.reduceLeDiff, hI_uI, hL_uI, hR_uI, nx_uI, sl_uI, hI_uL, hL_uL, hR_uL, nx_uL, sl_uL, hI_uR, hL_uR, hR_uR, nx_uR, sl_uR, st_eq, if_true, if_false, eq_self, Nat.reduceEqDiff, Nat.reduceMul, reduceIte, kdT, ixT, w_cl, w_ti, w_s1, w_a, w_m12, w_m8, w_m3, w_m4, hC.x0, hC.x2, hC.x4, hC.x7, hC.x8, hC.x9, hC.x11, hC.f0, hC.f1, hC.f2, hC.p0, hC.p1, hC.p2, hC.p3, hC.l1, hC.l2, hC.l3, hC.l4, hC.d0, hC.d1, hC.d2, hC.g1, hC.g2, hC.g3, hC.g4, hC.k1, hC.k2, hC.k3, hC.k4, e1, x13, a3, nz, kd_X, ln_X, kd_RD, ln_RD]
      · have : agrd_ T tl L = L := by unfold agrd_; rw [hr]
        rw [this]
        obtain ⟨b1, b2, b3, b4⟩ := hAy
        exact ⟨by simp only [hI_uI, hL_uI, hR_uI, nx_uI, sl_uI, hI_uL, hL_uL, hR_uL, nx_uL, sl_uL, hI_uR, hL_uR, hR_uR, nx_uR, sl_uR, st_eq, if_true, if_false, eq_self, Nat.reduceEqDiff, Nat.reduceMul, reduceIte, kdT, ixT, w_cl, w_ti, w_s1, w_a, w_m12, w_m8, w_m3, w_m4]; exact b1, b2, fun i hi => by simp only [hI_uI, hL_uI, hR_uI, nx_uI, sl_uI, hI_uL, hL_uL, hR_uL, nx_uL, sl_uL, hI_uR, hL_uR, hR_uR, nx_uR, sl_uR, st_eq, if_true, if_false, eq_self, Nat.reduceEqDiff, Nat.reduceMul, reduceIte, kdT, ixT, w_cl, w_ti, w_s1, w_a, w_m12, w_m8, w_m3, w_m4]; exact b3 i hi, fun j hj => by simp only [hI_uI, hL_uI, hR_uI, nx_uI, sl_uI, hI_uL, hL_uL, hR_uL, nx_uL, sl_uL, hI_uR, hL_uR, hR_uR, nx_uR, sl_uR, st_eq, if_true, if_false, eq_self, Nat.reduceEqDiff, Nat.reduceMul, reduceIte, kdT, ixT, w_cl, w_ti, w_s1, w_a, w_m12, w_m8, w_m3, w_m4]; exact b4 j hj⟩
    | inr L' =>
      have nz := z1 L' hr
      rw [hr] at nz a3
      refine ⟨uR_ (uR_ (uI_ y 25165831 (st_ (hI_ y 25165831) 10 0)) 25165831 (st_ (hR_ y 25165831) 12 (some 30932993))) 25165831 (st_ (st_ (hR_ y 25165831) 12 (some 30932993)) 13 (some 32243713)), ⟨fun a ha => ?_, fun j hj => ?_, a1.2.1, fun a j q1 q2 q3 => ?_, a1.2.2.2⟩, fun Q => ?_, ⟨by simp only [hI_uI, hL_uI, hR_uI, nx_uI, sl_uI, hI_uL, hL_uL, hR_uL, nx_uL, sl_uL, hI_uR, hL_uR, hR_uR, nx_uR, sl_uR, st_eq, if_true, if_false, eq_self, Nat.reduceEqDiff, Nat.reduceMul, reduceIte, kdT, ixT, w_cl, w_ti, w_s1, w_a, w_m12, w_m8, w_m3, w_m4]; rfl, by decide, fun i hi => absurd hi (Nat.not_lt_zero _)⟩, Or.inl ⟨by simp only [hI_uI, hL_uI, hR_uI, nx_uI, sl_uI, hI_uL, hL_uL, hR_uL, nx_uL, sl_uL, hI_uR, hL_uR, hR_uR, nx_uR, sl_uR, st_eq, if_true, if_false, eq_self, Nat.reduceEqDiff, Nat.reduceMul, reduceIte, kdT, ixT, w_cl, w_ti, w_s1, w_a, w_m12, w_m8, w_m3, w_m4], by simp only [hI_uI, hL_uI, hR_uI, nx_uI, sl_uI, hI_uL, hL_uL, hR_uL, nx_uL, sl_uL, hI_uR, hL_uR, hR_uR, nx_uR, sl_uR, st_eq, if_true, if_false, eq_self, Nat.reduceEqDiff, Nat.reduceMul, reduceIte, kdT, ixT, w_cl, w_ti, w_s1, w_a, w_m12, w_m8, w_m3, w_m4], ?_⟩, by rw [← hr]; exact hps.1, by rw [← hr]; exact hps.2⟩
      · simp only [hI_uR]
        rw [hI_uI, if_neg (fun z => ha (by rw [z]; decide))]
        exact a1.1 a (fun z => ha (by revert z; simp only [List.mem_cons, List.not_mem_nil, or_false]; omega))
      · simp only [hI_uI, hL_uI, hR_uI, nx_uI, sl_uI, hI_uL, hL_uL, hR_uL, nx_uL, sl_uL, hI_uR, hL_uR, hR_uR, nx_uR, sl_uR, st_eq, if_true, if_false, eq_self, Nat.reduceEqDiff, Nat.reduceMul, reduceIte, kdT, ixT, w_cl, w_ti, w_s1, w_a, w_m12, w_m8, w_m3, w_m4]; rw [if_neg hj, a1.1 25165831 (by decide)]
      · simp only [hR_uR, hR_uI, st_eq]
        have := a1.2.2.1 a j (fun z => q1 (by revert z; simp only [List.mem_cons, List.not_mem_nil, or_false]; omega)) q2
        by_cases q : a = 25165831
        · rw [if_pos q, st_eq, st_eq, if_neg (q3 q).2, if_neg (q3 q).1, ← q]; exact this
        · rw [if_neg q, if_neg q]; exact this
      · simp (disch := first | omega | assumption | decide | (apply bT_; decide)) only [s83_0, s83_1, s83_4, s83_5, s83_8, s83_9, s83_12, s83_13, s83_16, s83_19, s83_20, s83_21, s83_22, s83_25, s83_26, s83_29, s83_30, s83_33, s83_34, s83_35, s83_36, s83_39, s83_42, s83_43, s83_44, s83_47, s83_48, K_v, K_0, acI, acA, acJ, acX, List.map_cons, List.map_nil, List.sum_cons, List.sum_nil, true_and, and_true, posT, b2_0, b2_1, bft, true_or, or_true, Nat.zero_le, Nat.reduceAdd, Nat.reduceLeDiff, hI_uI, hL_uI, hR_uI, nx_uI, sl_uI, hI_uL, hL_uL, hR_uL, nx_uL, sl_uL, hI_uR, hL_uR, hR_uR, nx_uR, sl_uR, st_eq, if_true, if_false, eq_self, Nat.reduceEqDiff, Nat.reduceMul, reduceIte, kdT, ixT, w_cl, w_ti, w_s1, w_a, w_m12, w_m8, w_m3, w_m4, hC.x0, hC.x2, hC.x4, hC.x7, hC.x8, hC.x9, hC.x11, hC.f0, hC.f1, hC.f2, hC.p0, hC.p1, hC.p2, hC.p3, hC.l1, hC.l2, hC.l3, hC.l4, hC.d0, hC.d1, hC.d2, hC.g1, hC.g2, hC.g3, hC.g4, hC.k1, hC.k2, hC.k3, hC.k4, e1, x13, y12, y13, a3, nz, kd_X, ln_X, kd_RD, ln_RD]
      · have : agrd_ T tl L = L' := by unfold agrd_; rw [hr]
        rw [this]
        obtain ⟨b1, b2, b3, b4⟩ := a2 L' hr
        exact ⟨by simp only [hI_uI, hL_uI, hR_uI, nx_uI, sl_uI, hI_uL, hL_uL, hR_uL, nx_uL, sl_uL, hI_uR, hL_uR, hR_uR, nx_uR, sl_uR, st_eq, if_true, if_false, eq_self, Nat.reduceEqDiff, Nat.reduceMul, reduceIte, kdT, ixT, w_cl, w_ti, w_s1, w_a, w_m12, w_m8, w_m3, w_m4]; exact b1, b2, fun i hi => by simp only [hI_uI, hL_uI, hR_uI, nx_uI, sl_uI, hI_uL, hL_uL, hR_uL, nx_uL, sl_uL, hI_uR, hL_uR, hR_uR, nx_uR, sl_uR, st_eq, if_true, if_false, eq_self, Nat.reduceEqDiff, Nat.reduceMul, reduceIte, kdT, ixT, w_cl, w_ti, w_s1, w_a, w_m12, w_m8, w_m3, w_m4]; exact b3 i hi, fun j hj => by simp only [hI_uI, hL_uI, hR_uI, nx_uI, sl_uI, hI_uL, hL_uL, hR_uL, nx_uL, sl_uL, hI_uR, hL_uR, hR_uR, nx_uR, sl_uR, st_eq, if_true, if_false, eq_self, Nat.reduceEqDiff, Nat.reduceMul, reduceIte, kdT, ixT, w_cl, w_ti, w_s1, w_a, w_m12, w_m8, w_m3, w_m4]; exact b4 j hj⟩
end XTM
