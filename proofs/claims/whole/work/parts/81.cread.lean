/-! the class reads what the tokens say -/
def GC_ (cG cW cN cP cT : Nat) : Prop := (cG = 30932993 ∧ cW = 31195798 ∧ cN = 31457936 ∧ cP = 31720080 ∧ cT = 32032784) ∨ (cG = 32243713 ∧ cW = 32506518 ∧ cN = 32768656 ∧ cP = 33030800 ∧ cT = 33343504)
def RS_ (h0 : AH) (cG cP cT sz f : Nat) (pr : Nat → Int32) (fk : Int32) (k : Nat) (s : List Int32) (x : AH) : Prop := KT_ [29884421, cG, cP, cT] [] h0 x ∧ hI_ x 29884421 3 = Int32.ofNat f ∧ hI_ x 29884421 4 = Int32.ofNat k ∧ k ≤ f ∧ hI_ x 29884421 5 = fk ∧ hR_ x 29884421 6 = some cG ∧ hI_ x cG 0 = Int32.ofNat sz ∧ hI_ x cG 5 = Int32.ofNat s.length ∧ s.length ≤ k ∧ hI_ x cP (sz - 1) = Int32.ofNat s.length ∧ (∀ j, j ≠ sz - 1 → hI_ x cP j = pr j) ∧ ∀ j, j < s.length → hI_ x cT j = s.getD j 0
def RRV_ (V : (OU_ → AH → Prop) → Prop) (h0 : AH) (cG cP cT sz f : Nat) (pr : Nat → Int32) (s : List Int32) (res : PR_) : Prop := match res with
  | .inl (c, k1) => ∃ x' s', RS_ h0 cG cP cT sz f pr (Int32.ofNat c) k1 s' x' ∧ ∀ Q, V Q ↔ Q (some (some (vI 0))) x'
  | .inr (e, k1) => ∃ x', RS_ h0 cG cP cT sz f pr 1 k1 (s ++ e.1) x' ∧ ∀ Q, V Q ↔ Q (some (some (vI 1))) x'
theorem RRV_.tr {V V' : (OU_ → AH → Prop) → Prop} {h0 : AH} {cG cP cT sz f : Nat} {pr : Nat → Int32} {s : List Int32} {res : PR_} (h : ∀ Q, V Q ↔ V' Q) (H : RRV_ V' h0 cG cP cT sz f pr s res) : RRV_ V h0 cG cP cT sz f pr s res := by
  cases res with
  | inl x => obtain ⟨c, k1⟩ := x; obtain ⟨x', s', a1, a2⟩ := H; exact ⟨x', s', a1, fun Q => (h Q).trans (a2 Q)⟩
  | inr x => obtain ⟨e, k1⟩ := x; obtain ⟨x', a1, a2⟩ := H; exact ⟨x', a1, fun Q => (h Q).trans (a2 Q)⟩
section GDI
theorem gi_l {l : List Int32} {x : Int32} {j : Nat} (h : j < l.length) : (l ++ [x]).getD j 0 = l.getD j 0 := by rw [List.getD_eq_getElem?_getD, List.getD_eq_getElem?_getD, List.getElem?_append_left h]
theorem gi_r {l : List Int32} {x : Int32} : (l ++ [x]).getD l.length 0 = x := by rw [List.getD_eq_getElem?_getD, List.getElem?_append_right (Nat.le_refl _), Nat.sub_self]; rfl
end GDI
section TKN
variable {B : Nat → Int32} {N f : Nat} {h0 : AH}
theorem tkf_0 (hT : TKF_ B N f h0) : ∀ k, f ≤ k → stk_ B N k = 0 := by
  have key : ∀ j, ps_ B N (f + j) = N := by
    intro j
    induction j with
    | zero => exact hT.2.2.2.1
    | succ j ih =>
      show (if ps_ B N (f + j) < N then tp_ B N (en_ B N (ps_ B N (f + j))) else N) = N
      rw [if_neg (by omega)]
  intro k hk
  have := key (k - f)
  rw [show f + (k - f) = k by omega] at this
  unfold stk_ sot_
  rw [this, if_neg (Nat.lt_irrefl _)]
theorem stk_lt {k : Nat} : stk_ B N k < 25 := sot_lt
theorem sot_2 {p : Nat} (h : sot_ B N p = 2) : p < N ∧ dc_ B N p = true ∧ en_ B N p - p ≤ 6 := by
  unfold sot_ at h
  by_cases q : p < N
  · rw [if_pos q] at h
    by_cases q1 : lc_ B N p = true
    · rw [if_pos q1] at h
      exfalso
      have hw2 : ∀ i, i < 15 → wcd_ i ≠ 2 := by decide +kernel
      have hle := fx_le (c := lk_ B p (en_ B N p)) (i := 0) (a := 14)
      rw [Nat.zero_add] at hle
      exact hw2 _ (by omega) h
    · rw [if_neg q1] at h
      by_cases q2 : dc_ B N p = true
      · rw [if_pos q2] at h
        by_cases q3 : 6 < en_ B N p - p
        · rw [if_pos q3] at h; cases h
        · exact ⟨q, q2, by omega⟩
      · rw [if_neg q2] at h
        exfalso
        unfold sgn_ at h
        revert h
        repeat' split
        all_goals omega
  · rw [if_neg q] at h; cases h
theorem vlk_nat : ∀ k, stk_ B N k = 2 → ∃ n, vlk_ B N k = Int32.ofNat n ∧ n < 1000000 := by
  intro k hk
  obtain ⟨h1, h2, h3⟩ := sot_2 hk
  have hen := en_ge (B := B) h1
  have hl : lc_ B N (ps_ B N k) = false := by
    unfold dc_ at h2
    rw [Bool.and_eq_true] at h2
    obtain ⟨d1, d2⟩ := wi_t.mp h2.2
    have d2' : (B (ps_ B N k)).toInt ≤ 57 := d2
    unfold lc_
    rw [show wi_ (B (ps_ B N k)) 97 122 = false from wi_f.mpr (fun z => by have z1 : (97 : Int) ≤ (B (ps_ B N k)).toInt := z.1; omega), Bool.and_false]
  have een : en_ B N (ps_ B N k) = rn_ (dc_ B N) (N - (ps_ B N k + 1)) (ps_ B N k + 1) := by
    unfold en_
    rw [hl, if_neg (by decide), if_pos h2]
  obtain ⟨n, a1, a2⟩ := vv_nat (B := B) (p := ps_ B N k) (k := en_ B N (ps_ B N k) - ps_ B N k) h3 (fun j hj => by
    have hd : dc_ B N (ps_ B N k + j) = true := by
      by_cases q : j = 0
      · rw [q]; exact h2
      · exact rn_all (c := dc_ B N) (k := N - (ps_ B N k + 1)) (i := ps_ B N k + 1) (by omega) (by rw [← een]; omega)
    unfold dc_ at hd
    rw [Bool.and_eq_true] at hd
    exact hd.2)
  refine ⟨n, a1, ?_⟩
  have : 10 ^ (en_ B N (ps_ B N k) - ps_ B N k) ≤ 10 ^ 6 := Nat.pow_le_pow_right (by omega) h3
  omega
end TKN
def at_ (x : AH) (k : Nat) : AH := uI_ x 29884421 (st_ (hI_ x 29884421) 4 (Int32.ofNat k))
theorem at_f {x : AH} {k : Nat} : uI_ x 29884421 (st_ (hI_ x 29884421) 4 (Int32.ofNat k)) = at_ x k := rfl
theorem hR_at {x : AH} {k b : Nat} : hR_ (at_ x k) b = hR_ x b := rfl
section CRD
variable {xs : Nat → Int32} {d : Nat} {h0 x : AH} {B : Nat → Int32} {N cG cW cN cP cT sz f k : Nat} {pr : Nat → Int32} {s : List Int32} {fk : Int32}
theorem RS_.at (hg : GC_ cG cW cN cP cT) (H : RS_ h0 cG cP cT sz f pr fk k s x) (hk : k < f) : RS_ h0 cG cP cT sz f pr fk (k + 1) s (at_ x (k + 1)) := by
  unfold at_
  obtain ⟨r1, r2, r3, r4, r5, r6, r7, r8, r9, r10, r11, r12⟩ := H
  rcases hg with ⟨rfl, rfl, rfl, rfl, rfl⟩ | ⟨rfl, rfl, rfl, rfl, rfl⟩
  all_goals exact ⟨r1.uI (by decide), by simp only [hI_uI, hL_uI, hR_uI, nx_uI, sl_uI, hI_uL, hL_uL, hR_uL, nx_uL, sl_uL, hI_uR, hL_uR, hR_uR, nx_uR, sl_uR, st_eq, if_true, if_false, eq_self, Nat.reduceEqDiff, Nat.reduceMul, reduceIte, kdT, ixT, w_cl, w_ti, w_s1, w_a, w_m12, w_m8, w_m3, w_m4]; exact r2, by simp only [hI_uI, hL_uI, hR_uI, nx_uI, sl_uI, hI_uL, hL_uL, hR_uL, nx_uL, sl_uL, hI_uR, hL_uR, hR_uR, nx_uR, sl_uR, st_eq, if_true, if_false, eq_self, Nat.reduceEqDiff, Nat.reduceMul, reduceIte, kdT, ixT, w_cl, w_ti, w_s1, w_a, w_m12, w_m8, w_m3, w_m4], hk, by simp only [hI_uI, hL_uI, hR_uI, nx_uI, sl_uI, hI_uL, hL_uL, hR_uL, nx_uL, sl_uL, hI_uR, hL_uR, hR_uR, nx_uR, sl_uR, st_eq, if_true, if_false, eq_self, Nat.reduceEqDiff, Nat.reduceMul, reduceIte, kdT, ixT, w_cl, w_ti, w_s1, w_a, w_m12, w_m8, w_m3, w_m4]; exact r5, r6, by simp only [hI_uI, hL_uI, hR_uI, nx_uI, sl_uI, hI_uL, hL_uL, hR_uL, nx_uL, sl_uL, hI_uR, hL_uR, hR_uR, nx_uR, sl_uR, st_eq, if_true, if_false, eq_self, Nat.reduceEqDiff, Nat.reduceMul, reduceIte, kdT, ixT, w_cl, w_ti, w_s1, w_a, w_m12, w_m8, w_m3, w_m4]; exact r7, by simp only [hI_uI, hL_uI, hR_uI, nx_uI, sl_uI, hI_uL, hL_uL, hR_uL, nx_uL, sl_uL, hI_uR, hL_uR, hR_uR, nx_uR, sl_uR, st_eq, if_true, if_false, eq_self, Nat.reduceEqDiff, Nat.reduceMul, reduceIte, kdT, ixT, w_cl, w_ti, w_s1, w_a, w_m12, w_m8, w_m3, w_m4]; exact r8, by omega, by simp only [hI_uI, hL_uI, hR_uI, nx_uI, sl_uI, hI_uL, hL_uL, hR_uL, nx_uL, sl_uL, hI_uR, hL_uR, hR_uR, nx_uR, sl_uR, st_eq, if_true, if_false, eq_self, Nat.reduceEqDiff, Nat.reduceMul, reduceIte, kdT, ixT, w_cl, w_ti, w_s1, w_a, w_m12, w_m8, w_m3, w_m4]; exact r10, fun j hj => by simp only [hI_uI, hL_uI, hR_uI, nx_uI, sl_uI, hI_uL, hL_uL, hR_uL, nx_uL, sl_uL, hI_uR, hL_uR, hR_uR, nx_uR, sl_uR, st_eq, if_true, if_false, eq_self, Nat.reduceEqDiff, Nat.reduceMul, reduceIte, kdT, ixT, w_cl, w_ti, w_s1, w_a, w_m12, w_m8, w_m3, w_m4]; exact r11 j hj, fun j hj => by simp only [hI_uI, hL_uI, hR_uI, nx_uI, sl_uI, hI_uL, hL_uL, hR_uL, nx_uL, sl_uL, hI_uR, hL_uR, hR_uR, nx_uR, sl_uR, st_eq, if_true, if_false, eq_self, Nat.reduceEqDiff, Nat.reduceMul, reduceIte, kdT, ixT, w_cl, w_ti, w_s1, w_a, w_m12, w_m8, w_m3, w_m4]; exact r12 j hj⟩
theorem RS_.fkd (hg : GC_ cG cW cN cP cT) (H : RS_ h0 cG cP cT sz f pr fk k s x) {v : Int32} : RS_ h0 cG cP cT sz f pr v k s (uI_ x 29884421 (st_ (hI_ x 29884421) 5 v)) := by
  obtain ⟨r1, r2, r3, r4, r5, r6, r7, r8, r9, r10, r11, r12⟩ := H
  rcases hg with ⟨rfl, rfl, rfl, rfl, rfl⟩ | ⟨rfl, rfl, rfl, rfl, rfl⟩
  all_goals exact ⟨r1.uI (by decide), by simp only [hI_uI, hL_uI, hR_uI, nx_uI, sl_uI, hI_uL, hL_uL, hR_uL, nx_uL, sl_uL, hI_uR, hL_uR, hR_uR, nx_uR, sl_uR, st_eq, if_true, if_false, eq_self, Nat.reduceEqDiff, Nat.reduceMul, reduceIte, kdT, ixT, w_cl, w_ti, w_s1, w_a, w_m12, w_m8, w_m3, w_m4]; exact r2, by simp only [hI_uI, hL_uI, hR_uI, nx_uI, sl_uI, hI_uL, hL_uL, hR_uL, nx_uL, sl_uL, hI_uR, hL_uR, hR_uR, nx_uR, sl_uR, st_eq, if_true, if_false, eq_self, Nat.reduceEqDiff, Nat.reduceMul, reduceIte, kdT, ixT, w_cl, w_ti, w_s1, w_a, w_m12, w_m8, w_m3, w_m4]; exact r3, r4, by simp only [hI_uI, hL_uI, hR_uI, nx_uI, sl_uI, hI_uL, hL_uL, hR_uL, nx_uL, sl_uL, hI_uR, hL_uR, hR_uR, nx_uR, sl_uR, st_eq, if_true, if_false, eq_self, Nat.reduceEqDiff, Nat.reduceMul, reduceIte, kdT, ixT, w_cl, w_ti, w_s1, w_a, w_m12, w_m8, w_m3, w_m4], r6, by simp only [hI_uI, hL_uI, hR_uI, nx_uI, sl_uI, hI_uL, hL_uL, hR_uL, nx_uL, sl_uL, hI_uR, hL_uR, hR_uR, nx_uR, sl_uR, st_eq, if_true, if_false, eq_self, Nat.reduceEqDiff, Nat.reduceMul, reduceIte, kdT, ixT, w_cl, w_ti, w_s1, w_a, w_m12, w_m8, w_m3, w_m4]; exact r7, by simp only [hI_uI, hL_uI, hR_uI, nx_uI, sl_uI, hI_uL, hL_uL, hR_uL, nx_uL, sl_uL, hI_uR, hL_uR, hR_uR, nx_uR, sl_uR, st_eq, if_true, if_false, eq_self, Nat.reduceEqDiff, Nat.reduceMul, reduceIte, kdT, ixT, w_cl, w_ti, w_s1, w_a, w_m12, w_m8, w_m3, w_m4]; exact r8, by omega, by simp only [hI_uI, hL_uI, hR_uI, nx_uI, sl_uI, hI_uL, hL_uL, hR_uL, nx_uL, sl_uL, hI_uR, hL_uR, hR_uR, nx_uR, sl_uR, st_eq, if_true, if_false, eq_self, Nat.reduceEqDiff, Nat.reduceMul, reduceIte, kdT, ixT, w_cl, w_ti, w_s1, w_a, w_m12, w_m8, w_m3, w_m4]; exact r10, fun j hj => by simp only [hI_uI, hL_uI, hR_uI, nx_uI, sl_uI, hI_uL, hL_uL, hR_uL, nx_uL, sl_uL, hI_uR, hL_uR, hR_uR, nx_uR, sl_uR, st_eq, if_true, if_false, eq_self, Nat.reduceEqDiff, Nat.reduceMul, reduceIte, kdT, ixT, w_cl, w_ti, w_s1, w_a, w_m12, w_m8, w_m3, w_m4]; exact r11 j hj, fun j hj => by simp only [hI_uI, hL_uI, hR_uI, nx_uI, sl_uI, hI_uL, hL_uL, hR_uL, nx_uL, sl_uL, hI_uR, hL_uR, hR_uR, nx_uR, sl_uR, st_eq, if_true, if_false, eq_self, Nat.reduceEqDiff, Nat.reduceMul, reduceIte, kdT, ixT, w_cl, w_ti, w_s1, w_a, w_m12, w_m8, w_m3, w_m4]; exact r12 j hj⟩
theorem RS_.cs (hC : CS_ h0) (H : RS_ h0 cG cP cT sz f pr fk k s x) : CS_ x := H.1.cs (by decide) hC
theorem RS_.tok (hT : TKF_ B N f h0) (H : RS_ h0 cG cP cT sz f pr fk k s x) : hR_ x 30197846 k = some (tref_ (cl_ (stk_ B N k))) := by
  rw [H.1.2.2.1 30197846 k (by decide) (fun z => absurd z (by decide))]
  exact (hT.2.2.2.2.2 k (by have := H.2.2.2.1; omega)).1
theorem RS_.num (hg : GC_ cG cW cN cP cT) (hT : TKF_ B N f h0) (H : RS_ h0 cG cP cT sz f pr fk k s x) (h2 : stk_ B N k = 2) : hI_ x 30722128 k = vlk_ B N k := by
  rw [H.1.1 30722128 (by rcases hg with ⟨rfl, rfl, rfl, rfl, rfl⟩ | ⟨rfl, rfl, rfl, rfl, rfl⟩ <;> decide)]
  exact (hT.2.2.2.2.2 k (by have := H.2.2.2.1; omega)).2.2 h2
theorem c_addStep {v : Int32} (hg : GC_ cG cW cN cP cT) (hC : CS_ h0) (hz : 0 < sz ∧ sz ≤ 10) (hf8 : f ≤ 800) (H : RS_ h0 cG cP cT sz f pr fk k s x) (hs : s.length + 1 ≤ k) : ∃ x', RS_ h0 cG cP cT sz f pr fk k (s ++ [v]) x' ∧ Do_ xs d 11 [vA (some cG), vI v] x (some none) x' := by
  have hCx := H.cs hC
  obtain ⟨r1, r2, r3, r4, r5, r6, r7, r8, r9, r10, r11, r12⟩ := H
  have l8 : Int32.ofNat s.length < 800 := (w_lt (b := 800) (by omega) (by omega)).mpr (by omega)
  have p0 : (0 : Int32) < Int32.ofNat sz := (w_lt (a := 0) (by omega) (by omega)).mpr hz.1
  have hp1 := w_p1 (a := sz) (by omega)
  have hll : (s ++ [v]).length = s.length + 1 := by rw [List.length_append]; rfl
  rcases hg with ⟨rfl, rfl, rfl, rfl, rfl⟩ | ⟨rfl, rfl, rfl, rfl, rfl⟩
  · refine ⟨uI_ (uI_ (uI_ x 32032784 (st_ (hI_ x 32032784) s.length v)) 30932993 (st_ (hI_ x 30932993) 5 (Int32.ofNat (s.length + 1)))) 31720080 (st_ (hI_ x 31720080) (sz - 1) (Int32.ofNat (s.length + 1))), ⟨((r1.uI (by decide)).uI (by decide)).uI (by decide), by simp only [hI_uI, hL_uI, hR_uI, nx_uI, sl_uI, hI_uL, hL_uL, hR_uL, nx_uL, sl_uL, hI_uR, hL_uR, hR_uR, nx_uR, sl_uR, st_eq, if_true, if_false, eq_self, Nat.reduceEqDiff, Nat.reduceMul, reduceIte, kdT, ixT, w_cl, w_ti, w_s1, w_a, w_m12, w_m8, w_m3, w_m4]; exact r2, by simp only [hI_uI, hL_uI, hR_uI, nx_uI, sl_uI, hI_uL, hL_uL, hR_uL, nx_uL, sl_uL, hI_uR, hL_uR, hR_uR, nx_uR, sl_uR, st_eq, if_true, if_false, eq_self, Nat.reduceEqDiff, Nat.reduceMul, reduceIte, kdT, ixT, w_cl, w_ti, w_s1, w_a, w_m12, w_m8, w_m3, w_m4]; exact r3, r4, by simp only [hI_uI, hL_uI, hR_uI, nx_uI, sl_uI, hI_uL, hL_uL, hR_uL, nx_uL, sl_uL, hI_uR, hL_uR, hR_uR, nx_uR, sl_uR, st_eq, if_true, if_false, eq_self, Nat.reduceEqDiff, Nat.reduceMul, reduceIte, kdT, ixT, w_cl, w_ti, w_s1, w_a, w_m12, w_m8, w_m3, w_m4]; exact r5, r6, by simp only [hI_uI, hL_uI, hR_uI, nx_uI, sl_uI, hI_uL, hL_uL, hR_uL, nx_uL, sl_uL, hI_uR, hL_uR, hR_uR, nx_uR, sl_uR, st_eq, if_true, if_false, eq_self, Nat.reduceEqDiff, Nat.reduceMul, reduceIte, kdT, ixT, w_cl, w_ti, w_s1, w_a, w_m12, w_m8, w_m3, w_m4]; exact r7, by simp only [hI_uI, hL_uI, hR_uI, nx_uI, sl_uI, hI_uL, hL_uL, hR_uL, nx_uL, sl_uL, hI_uR, hL_uR, hR_uR, nx_uR, sl_uR, st_eq, if_true, if_false, eq_self, Nat.reduceEqDiff, Nat.reduceMul, reduceIte, kdT, ixT, w_cl, w_ti, w_s1, w_a, w_m12, w_m8, w_m3, w_m4]; rw [hll], by omega, by simp only [hI_uI, hL_uI, hR_uI, nx_uI, sl_uI, hI_uL, hL_uL, hR_uL, nx_uL, sl_uL, hI_uR, hL_uR, hR_uR, nx_uR, sl_uR, st_eq, if_true, if_false, eq_self, Nat.reduceEqDiff, Nat.reduceMul, reduceIte, kdT, ixT, w_cl, w_ti, w_s1, w_a, w_m12, w_m8, w_m3, w_m4]; rw [hll], fun j hj => by simp only [hI_uI, hL_uI, hR_uI, nx_uI, sl_uI, hI_uL, hL_uL, hR_uL, nx_uL, sl_uL, hI_uR, hL_uR, hR_uR, nx_uR, sl_uR, st_eq, if_true, if_false, eq_self, Nat.reduceEqDiff, Nat.reduceMul, reduceIte, kdT, ixT, w_cl, w_ti, w_s1, w_a, w_m12, w_m8, w_m3, w_m4]; rw [if_neg hj]; exact r11 j hj, fun j hj => ?_⟩, fun Q => ?_⟩
    · simp only [hI_uI, hL_uI, hR_uI, nx_uI, sl_uI, hI_uL, hL_uL, hR_uL, nx_uL, sl_uL, hI_uR, hL_uR, hR_uR, nx_uR, sl_uR, st_eq, if_true, if_false, eq_self, Nat.reduceEqDiff, Nat.reduceMul, reduceIte, kdT, ixT, w_cl, w_ti, w_s1, w_a, w_m12, w_m8, w_m3, w_m4]
      rw [hll] at hj
      by_cases q : j = s.length
      · rw [if_pos q, q, gi_r]
      · rw [if_neg q, gi_l (by omega)]; exact r12 j (by omega)
    · simp (disch := first | omega | assumption | decide | (apply bT_; decide)) only [s11_0, s11_1, s11_4, s11_7, s11_10, s11_11, s11_14, s11_17, s11_18, s11_21, s11_22, s11_25, s11_26, s11_27, s11_28, s11_28i, s11_29, s11_32, s11_33, s11_34, s11_37, s11_38, s11_41, s11_42, s11_45, s11_46, s11_47, s11_48, s11_51, s11_52, K_v, K_0, acI, acA, acJ, acX, List.map_cons, List.map_nil, List.sum_cons, List.sum_nil, true_and, and_true, posT, b2_0, b2_1, bft, true_or, or_true, Nat.zero_le, Nat.reduceAdd, Nat.reduceLeDiff, hI_uI, hL_uI, hR_uI, nx_uI, sl_uI, hI_uL, hL_uL, hR_uL, nx_uL, sl_uL, hI_uR, hL_uR, hR_uR, nx_uR, sl_uR, st_eq, if_true, if_false, eq_self, Nat.reduceEqDiff, Nat.reduceMul, reduceIte, kdT, ixT, w_cl, w_ti, w_s1, w_a, w_m12, w_m8, w_m3, w_m4, hCx.x0, hCx.x2, hCx.x4, hCx.x7, hCx.x8, hCx.x9, hCx.x11, hCx.f0, hCx.f1, hCx.f2, hCx.p0, hCx.p1, hCx.p2, hCx.p3, hCx.l1, hCx.l2, hCx.l3, hCx.l4, hCx.d0, hCx.d1, hCx.d2, hCx.g1, hCx.g2, hCx.g3, hCx.g4, hCx.k1, hCx.k2, hCx.k3, hCx.k4, r7, r8, l8, p0, hp1, kd_G1, ln_G1, kd_P1, ln_P1, kd_T1, ln_T1]
  · refine ⟨uI_ (uI_ (uI_ x 33343504 (st_ (hI_ x 33343504) s.length v)) 32243713 (st_ (hI_ x 32243713) 5 (Int32.ofNat (s.length + 1)))) 33030800 (st_ (hI_ x 33030800) (sz - 1) (Int32.ofNat (s.length + 1))), ⟨((r1.uI (by decide)).uI (by decide)).uI (by decide), by simp only [hI_uI, hL_uI, hR_uI, nx_uI, sl_uI, hI_uL, hL_uL, hR_uL, nx_uL, sl_uL, hI_uR, hL_uR, hR_uR, nx_uR, sl_uR, st_eq, if_true, if_false, eq_self, Nat.reduceEqDiff, Nat.reduceMul, reduceIte, kdT, ixT, w_cl, w_ti, w_s1, w_a, w_m12, w_m8, w_m3, w_m4]; exact r2, by simp only [hI_uI, hL_uI, hR_uI, nx_uI, sl_uI, hI_uL, hL_uL, hR_uL, nx_uL, sl_uL, hI_uR, hL_uR, hR_uR, nx_uR, sl_uR, st_eq, if_true, if_false, eq_self, Nat.reduceEqDiff, Nat.reduceMul, reduceIte, kdT, ixT, w_cl, w_ti, w_s1, w_a, w_m12, w_m8, w_m3, w_m4]; exact r3, r4, by simp only [hI_uI, hL_uI, hR_uI, nx_uI, sl_uI, hI_uL, hL_uL, hR_uL, nx_uL, sl_uL, hI_uR, hL_uR, hR_uR, nx_uR, sl_uR, st_eq, if_true, if_false, eq_self, Nat.reduceEqDiff, Nat.reduceMul, reduceIte, kdT, ixT, w_cl, w_ti, w_s1, w_a, w_m12, w_m8, w_m3, w_m4]; exact r5, r6, by simp only [hI_uI, hL_uI, hR_uI, nx_uI, sl_uI, hI_uL, hL_uL, hR_uL, nx_uL, sl_uL, hI_uR, hL_uR, hR_uR, nx_uR, sl_uR, st_eq, if_true, if_false, eq_self, Nat.reduceEqDiff, Nat.reduceMul, reduceIte, kdT, ixT, w_cl, w_ti, w_s1, w_a, w_m12, w_m8, w_m3, w_m4]; exact r7, by simp only [hI_uI, hL_uI, hR_uI, nx_uI, sl_uI, hI_uL, hL_uL, hR_uL, nx_uL, sl_uL, hI_uR, hL_uR, hR_uR, nx_uR, sl_uR, st_eq, if_true, if_false, eq_self, Nat.reduceEqDiff, Nat.reduceMul, reduceIte, kdT, ixT, w_cl, w_ti, w_s1, w_a, w_m12, w_m8, w_m3, w_m4]; rw [hll], by omega, by simp only [hI_uI, hL_uI, hR_uI, nx_uI, sl_uI, hI_uL, hL_uL, hR_uL, nx_uL, sl_uL, hI_uR, hL_uR, hR_uR, nx_uR, sl_uR, st_eq, if_true, if_false, eq_self, Nat.reduceEqDiff, Nat.reduceMul, reduceIte, kdT, ixT, w_cl, w_ti, w_s1, w_a, w_m12, w_m8, w_m3, w_m4]; rw [hll], fun j hj => by simp only [hI_uI, hL_uI, hR_uI, nx_uI, sl_uI, hI_uL, hL_uL, hR_uL, nx_uL, sl_uL, hI_uR, hL_uR, hR_uR, nx_uR, sl_uR, st_eq, if_true, if_false, eq_self, Nat.reduceEqDiff, Nat.reduceMul, reduceIte, kdT, ixT, w_cl, w_ti, w_s1, w_a, w_m12, w_m8, w_m3, w_m4]; rw [if_neg hj]; exact r11 j hj, fun j hj => ?_⟩, fun Q => ?_⟩
    · simp only [hI_uI, hL_uI, hR_uI, nx_uI, sl_uI, hI_uL, hL_uL, hR_uL, nx_uL, sl_uL, hI_uR, hL_uR, hR_uR, nx_uR, sl_uR, st_eq, if_true, if_false, eq_self, Nat.reduceEqDiff, Nat.reduceMul, reduceIte, kdT, ixT, w_cl, w_ti, w_s1, w_a, w_m12, w_m8, w_m3, w_m4]
      rw [hll] at hj
      by_cases q : j = s.length
      · rw [if_pos q, q, gi_r]
      · rw [if_neg q, gi_l (by omega)]; exact r12 j (by omega)
    · simp (disch := first | omega | assumption | decide | (apply bT_; decide)) only [s11_0, s11_1, s11_4, s11_7, s11_10, s11_11, s11_14, s11_17, s11_18, s11_21, s11_22, s11_25, s11_26, s11_27, s11_28, s11_28i, s11_29, s11_32, s11_33, s11_34, s11_37, s11_38, s11_41, s11_42, s11_45, s11_46, s11_47, s11_48, s11_51, s11_52, K_v, K_0, acI, acA, acJ, acX, List.map_cons, List.map_nil, List.sum_cons, List.sum_nil, true_and, and_true, posT, b2_0, b2_1, bft, true_or, or_true, Nat.zero_le, Nat.reduceAdd, Nat.reduceLeDiff, hI_uI, hL_uI, hR_uI, nx_uI, sl_uI, hI_uL, hL_uL, hR_uL, nx_uL, sl_uL, hI_uR, hL_uR, hR_uR, nx_uR, sl_uR, st_eq, if_true, if_false, eq_self, Nat.reduceEqDiff, Nat.reduceMul, reduceIte, kdT, ixT, w_cl, w_ti, w_s1, w_a, w_m12, w_m8, w_m3, w_m4, hCx.x0, hCx.x2, hCx.x4, hCx.x7, hCx.x8, hCx.x9, hCx.x11, hCx.f0, hCx.f1, hCx.f2, hCx.p0, hCx.p1, hCx.p2, hCx.p3, hCx.l1, hCx.l2, hCx.l3, hCx.l4, hCx.d0, hCx.d1, hCx.d2, hCx.g1, hCx.g2, hCx.g3, hCx.g4, hCx.k1, hCx.k2, hCx.k3, hCx.k4, r7, r8, l8, p0, hp1, kd_G2, ln_G2, kd_P2, ln_P2, kd_T2, ln_T2]
theorem cl_inj : ∀ a, a < 25 → ∀ b, b < 25 → cl_ a < 20 → (cl_ b = cl_ a ↔ b = a) := by decide +kernel
theorem tref_inj {a b : Nat} : some (tref_ a) = some (tref_ b) ↔ a = b := by
  constructor
  · intro z
    have := Option.some.inj z
    unfold tref_ at this
    omega
  · intro z; rw [z]
theorem c_take {σ : Nat} (hσ : σ < 25) (ht : cl_ σ < 20) (hg : GC_ cG cW cN cP cT) (hC : CS_ h0) (hT : TKF_ B N f h0) (H : RS_ h0 cG cP cT sz f pr fk k s x) : (stk_ B N k = σ → k < f ∧ Do_ xs d 47 [vA (some 29884421), vA (some (tref_ (cl_ σ)))] x (some (some (vI 1))) (at_ x (k + 1))) ∧ (stk_ B N k ≠ σ → Do_ xs d 47 [vA (some 29884421), vA (some (tref_ (cl_ σ)))] x (some (some (vI 0))) x) := by
  have hCx := H.cs hC
  have htk := H.tok hT
  have f8 := hT.2.2.1
  obtain ⟨r1, r2, r3, r4, r5, r6, r7, r8, r9, r10, r11, r12⟩ := H
  have hb : kd_ 30197846 = 20 ∨ kd_ 30197846 = 21 ∨ kd_ 30197846 = 22 := Or.inr (Or.inr rfl)
  have t1 := (tok_f (cl_ (stk_ B N k)) (cl_lt _ stk_lt)).2.2
  have t2 := (tok_f (cl_ σ) (by omega)).2.2
  have hin := cl_inj σ hσ (stk_ B N k) stk_lt ht
  constructor
  · intro q
    have hkf : k < f := by
      rcases Nat.lt_or_ge k f with z | z
      · exact z
      · exfalso
        rw [tkf_0 hT k z] at q
        rw [← q] at ht
        exact absurd ht (by decide)
    refine ⟨hkf, fun Q => ?_⟩
    have qe : some (tref_ (cl_ (stk_ B N k))) = some (tref_ (cl_ σ)) := by rw [q]
    simp (disch := first | omega | assumption | decide | (apply bT_; decide)) only [s47_0, s47_1, s47_4, s47_5, s47_8, s47_11, s47_12, s47_15, s47_16, s47_19, s47_20, s47_21, s47_25, s47_26, s47_27, s47_27i, s47_28, s47_31, s47_32, s47_33, s47_36, s47_37, K_v, K_0, acI, acA, acJ, acX, List.map_cons, List.map_nil, List.sum_cons, List.sum_nil, true_and, and_true, posT, b2_0, b2_1, bft, true_or, or_true, Nat.zero_le, Nat.reduceAdd, Nat.reduceLeDiff, hI_uI, hL_uI, hR_uI, nx_uI, sl_uI, hI_uL, hL_uL, hR_uL, nx_uL, sl_uL, hI_uR, hL_uR, hR_uR, nx_uR, sl_uR, st_eq, if_true, if_false, eq_self, Nat.reduceEqDiff, Nat.reduceMul, reduceIte, kdT, ixT, w_cl, w_ti, w_s1, w_a, w_m12, w_m8, w_m3, w_m4, hCx.x0, hCx.x2, hCx.x4, hCx.x7, hCx.x8, hCx.x9, hCx.x11, hCx.f0, hCx.f1, hCx.f2, hCx.p0, hCx.p1, hCx.p2, hCx.p3, hCx.l1, hCx.l2, hCx.l3, hCx.l4, hCx.d0, hCx.d1, hCx.d2, hCx.g1, hCx.g2, hCx.g3, hCx.g4, hCx.k1, hCx.k2, hCx.k3, hCx.k4, r2, r3, hkf, w_lt, htk, hb, t1, t2, if_pos qe, at_f, kd_RD, ln_RD, kd_TK, ln_TK]
  · intro q Q
    have qe : ¬ (some (tref_ (cl_ (stk_ B N k))) = some (tref_ (cl_ σ))) := fun z => q (hin.mp (tref_inj.mp z))
    by_cases hkf : k < f
    · simp (disch := first | omega | assumption | decide | (apply bT_; decide)) only [s47_0, s47_1, s47_4, s47_5, s47_8, s47_11, s47_12, s47_15, s47_16, s47_19, s47_20, s47_21, s47_24, s47_25, s47_27, s47_27i, s47_28, s47_31, s47_32, s47_33, s47_36, s47_37, K_v, K_0, acI, acA, acJ, acX, List.map_cons, List.map_nil, List.sum_cons, List.sum_nil, true_and, and_true, posT, b2_0, b2_1, bft, true_or, or_true, Nat.zero_le, Nat.reduceAdd, Nat.reduceLeDiff, hI_uI, hL_uI, hR_uI, nx_uI, sl_uI, hI_uL, hL_uL, hR_uL, nx_uL, sl_uL, hI_uR, hL_uR, hR_uR, nx_uR, sl_uR, st_eq, if_true, if_false, eq_self, Nat.reduceEqDiff, Nat.reduceMul, reduceIte, kdT, ixT, w_cl, w_ti, w_s1, w_a, w_m12, w_m8, w_m3, w_m4, hCx.x0, hCx.x2, hCx.x4, hCx.x7, hCx.x8, hCx.x9, hCx.x11, hCx.f0, hCx.f1, hCx.f2, hCx.p0, hCx.p1, hCx.p2, hCx.p3, hCx.l1, hCx.l2, hCx.l3, hCx.l4, hCx.d0, hCx.d1, hCx.d2, hCx.g1, hCx.g2, hCx.g3, hCx.g4, hCx.k1, hCx.k2, hCx.k3, hCx.k4, r2, r3, hkf, w_lt, htk, hb, t1, t2, if_neg qe, kd_RD, ln_RD, kd_TK, ln_TK]
    · simp (disch := first | omega | assumption | decide | (apply bT_; decide)) only [s47_0, s47_1, s47_4, s47_5, s47_8, s47_12, s47_15, s47_16, s47_19, s47_20, s47_21, s47_24, s47_25, s47_26, s47_27, s47_27i, s47_28, s47_31, s47_32, s47_33, s47_36, s47_37, K_v, K_0, acI, acA, acJ, acX, List.map_cons, List.map_nil, List.sum_cons, List.sum_nil, true_and, and_true, posT, b2_0, b2_1, bft, true_or, or_true, Nat.zero_le, Nat.reduceAdd, Nat.reduceLeDiff, hI_uI, hL_uI, hR_uI, nx_uI, sl_uI, hI_uL, hL_uL, hR_uL, nx_uL, sl_uL, hI_uR, hL_uR, hR_uR, nx_uR, sl_uR, st_eq, if_true, if_false, eq_self, Nat.reduceEqDiff, Nat.reduceMul, reduceIte, kdT, ixT, w_cl, w_ti, w_s1, w_a, w_m12, w_m8, w_m3, w_m4, r2, r3, hkf, w_lt, kd_RD, ln_RD]
end CRD
