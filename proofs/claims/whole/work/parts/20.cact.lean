/-! what a method of the class leaves as it was -/
def FX_ (W J : List Nat) (h h' : AH) : Prop := (∀ a, a ≠ 25165831 → a ∉ W → sr_ a < nx_ h → hI_ h' a = hI_ h a ∧ hL_ h' a = hL_ h a ∧ hR_ h' a = hR_ h a) ∧ (∀ j, j ∉ J → hI_ h' 25165831 j = hI_ h 25165831 j) ∧ hL_ h' 25165831 = hL_ h 25165831 ∧ hR_ h' 25165831 = hR_ h 25165831 ∧ nx_ h ≤ nx_ h'
section FXS
variable {W J : List Nat} {h h1 h2 : AH} {a j : Nat}
theorem FX_.rf : FX_ W J h h := ⟨fun _ _ _ _ => ⟨rfl, rfl, rfl⟩, fun _ _ => rfl, rfl, rfl, Nat.le_refl _⟩
theorem FX_.tr (f : FX_ W J h h1) (g : FX_ W J h1 h2) : FX_ W J h h2 := by
  obtain ⟨f1, f2, f3, f4, f5⟩ := f
  obtain ⟨g1, g2, g3, g4, g5⟩ := g
  refine ⟨fun a q1 q2 q3 => ?_, fun j hj => (g2 j hj).trans (f2 j hj), g3.trans f3, g4.trans f4, Nat.le_trans f5 g5⟩
  obtain ⟨u1, u2, u3⟩ := f1 a q1 q2 q3
  obtain ⟨v1, v2, v3⟩ := g1 a q1 q2 (by omega)
  exact ⟨v1.trans u1, v2.trans u2, v3.trans u3⟩
theorem FX_.uX {v : Int32} (f : FX_ W J h h1) (hj : j ∈ J) : FX_ W J h (uI_ h1 25165831 (st_ (hI_ h1 25165831) j v)) := by
  obtain ⟨f1, f2, f3, f4, f5⟩ := f
  refine ⟨fun a q1 q2 q3 => ?_, fun k hk => ?_, f3, f4, f5⟩
  · rw [hI_uI, if_neg q1]; exact f1 a q1 q2 q3
  · rw [hI_uI, if_pos rfl, st_eq, if_neg (fun (e : k = j) => hk (e ▸ hj))]; exact f2 k hk
theorem FX_.uI {r : Nat → Int32} (f : FX_ W J h h1) (ha : a ∈ W ∨ nx_ h ≤ sr_ a) (hX : a ≠ 25165831) : FX_ W J h (uI_ h1 a r) := by
  obtain ⟨f1, f2, f3, f4, f5⟩ := f
  refine ⟨fun b q1 q2 q3 => ?_, fun k hk => ?_, f3, f4, f5⟩
  · rw [hI_uI, if_neg (fun (e : b = a) => ha.elim (fun z => q2 (e ▸ z)) (fun z => by rw [e] at q3; omega))]; exact f1 b q1 q2 q3
  · rw [hI_uI, if_neg (fun e => hX e.symm)]; exact f2 k hk
theorem FX_.uL {r : Nat → Int64} (f : FX_ W J h h1) (ha : a ∈ W ∨ nx_ h ≤ sr_ a) (hX : a ≠ 25165831) : FX_ W J h (uL_ h1 a r) := by
  obtain ⟨f1, f2, f3, f4, f5⟩ := f
  refine ⟨fun b q1 q2 q3 => ?_, fun k hk => f2 k hk, ?_, f4, f5⟩
  · rw [hL_uL, if_neg (fun (e : b = a) => ha.elim (fun z => q2 (e ▸ z)) (fun z => by rw [e] at q3; omega))]; exact f1 b q1 q2 q3
  · rw [hL_uL, if_neg (fun e => hX e.symm)]; exact f3
theorem FX_.uR {r : Nat → Option Nat} (f : FX_ W J h h1) (ha : a ∈ W ∨ nx_ h ≤ sr_ a) (hX : a ≠ 25165831) : FX_ W J h (uR_ h1 a r) := by
  obtain ⟨f1, f2, f3, f4, f5⟩ := f
  refine ⟨fun b q1 q2 q3 => ?_, fun k hk => f2 k hk, f3, ?_, f5⟩
  · rw [hR_uR, if_neg (fun (e : b = a) => ha.elim (fun z => q2 (e ▸ z)) (fun z => by rw [e] at q3; omega))]; exact f1 b q1 q2 q3
  · rw [hR_uR, if_neg (fun e => hX e.symm)]; exact f4
theorem FX_.nw {k n s : Nat} (f : FX_ W J h h1) (hk : k < 64) (hn : n < 4096) (h9 : 96 < nx_ h1) : FX_ W J h (nw_ h1 k n s) := by
  obtain ⟨f1, f2, f3, f4, f5⟩ := f
  have hid : sr_ (mk_ (nx_ h1) k n) = nx_ h1 := sr_mk hk hn
  have hX : 25165831 ≠ mk_ (nx_ h1) k n := fun e => by
    have h3 := congrArg sr_ e
    rw [hid] at h3
    have : sr_ 25165831 = 96 := rfl
    omega
  refine ⟨fun b q1 q2 q3 => ?_, fun k hk => ?_, ?_, ?_, Nat.le_succ_of_le f5⟩
  · have hb : ¬ (b = mk_ (nx_ h1) k n) := fun e => by rw [e, hid] at q3; omega
    rw [hI_nw, hL_nw, hR_nw, if_neg hb, if_neg hb, if_neg hb]; exact f1 b q1 q2 q3
  · rw [hI_nw, if_neg hX]; exact f2 k hk
  · rw [hL_nw, if_neg hX]; exact f3
  · rw [hR_nw, if_neg hX]; exact f4
theorem FX_.row (f : FX_ W J h h1) (a : Nat) (q1 : a ≠ 25165831) (q2 : a ∉ W) (q3 : sr_ a < nx_ h) : hI_ h1 a = hI_ h a ∧ hL_ h1 a = hL_ h a ∧ hR_ h1 a = hR_ h a := f.1 a q1 q2 q3
theorem FX_.CS (f : FX_ W J h h1) (hW : ∀ a ∈ [25952258, 27000838, 28311555, 29884421, 30932993, 32243713], hR_ h1 a = hR_ h a) (H : CS_ h) : CS_ h1 :=
  H.eq (hW _ (by decide)) (hW _ (by decide)) (hW _ (by decide)) (hW _ (by decide)) (hW _ (by decide)) (hW _ (by decide)) f.2.2.2.1
end FXS
/-! the actors, as the class has them -/
def CA_ (na : Nat) (sa : Nat → Nat) (F G : Nat → Nat → Int32) (h : AH) : Prop := hI_ h 25165831 1 = Int32.ofNat na ∧ na ≤ 12 ∧ (∀ i, i < na → hR_ h 25428756 i = some (mk_ (sa i) 0 0) ∧ 164 ≤ sa i ∧ sa i + 1 < nx_ h ∧ hR_ h (mk_ (sa i) 0 0) 5 = some (mk_ (sa i + 1) 16 12)) ∧ (∀ i, na ≤ i → i < 12 → hR_ h 25428756 i = none) ∧
  (∀ i j, i < na → j < 5 → hI_ h (mk_ (sa i) 0 0) j = F i j) ∧ (∀ i k, i < na → k < 12 → hI_ h (mk_ (sa i + 1) 16 12) k = G i k) ∧ (∀ i j, i < j → j < na → sa i + 2 ≤ sa j)
theorem CA_.fr {na : Nat} {sa : Nat → Nat} {F G : Nat → Nat → Int32} {h h1 : AH} (H : CA_ na sa F G h) (e1 : hI_ h1 25165831 1 = hI_ h 25165831 1) (e2 : hR_ h1 25428756 = hR_ h 25428756) (e3 : ∀ s, 164 ≤ s → s < nx_ h → hI_ h1 (mk_ s 0 0) = hI_ h (mk_ s 0 0) ∧ hR_ h1 (mk_ s 0 0) = hR_ h (mk_ s 0 0) ∧ hI_ h1 (mk_ s 16 12) = hI_ h (mk_ s 16 12)) (e4 : nx_ h ≤ nx_ h1) : CA_ na sa F G h1 := by
  obtain ⟨g1, g2, g3, g4, g5, g6, g7⟩ := H
  refine ⟨e1.trans g1, g2, fun i hi => ?_, fun i h1 h2 => by rw [e2]; exact g4 i h1 h2, fun i j hi hj => ?_, fun i k hi hk => ?_, g7⟩
  · obtain ⟨u1, u2, u3, u4⟩ := g3 i hi
    rw [e2, (e3 (sa i) u2 (by omega)).2.1]
    exact ⟨u1, u2, by omega, u4⟩
  · obtain ⟨u1, u2, u3, u4⟩ := g3 i hi
    rw [(e3 (sa i) u2 (by omega)).1]
    exact g5 i j hi hj
  · obtain ⟨u1, u2, u3, u4⟩ := g3 i hi
    rw [(e3 (sa i + 1) (by omega) u3).2.2]
    exact g6 i k hi hk
theorem w_m1t {n : Nat} (h : n ≤ 1000) : (Int32.ofNat n - 1).toInt = (n : Int) - 1 := by
  cases n with
  | zero => rfl
  | succ n => rw [w_p1 (by omega), w_ti (by omega)]; omega
section CAC
variable {xs : Nat → Int32} {d : Nat} {h : AH} {na : Nat} {sa : Nat → Nat} {F G : Nat → Nat → Int32} {Q : OU_ → AH → Prop}
/-- somebody reaches a grade of one of the kinds -/
def rea_ (g : Nat → Int32) (ks gr : Int32) : Bool := an_ (fun k => decide ((ks >>> (Int32.ofNat k &&& 31)) &&& 1 = 1) && !decide (g k < gr)) 12 0
theorem c_reaches {s : Nat} {g : Nat → Int32} {ks gr : Int32} (h5 : hR_ h (mk_ s 0 0) 5 = some (mk_ (s + 1) 16 12)) (hg : ∀ k, k < 12 → hI_ h (mk_ (s + 1) 16 12) k = g k) : V_ xs d 1 0 [vA (some (mk_ s 0 0)), vI ks, vI gr, vX 0] [] h Q ↔ Q (some (some (vI (b2_ (rea_ g ks gr))))) h := by
  have hk0 : kd_ (mk_ s 0 0) = 0 := kd_mk (by omega)
  have hk1 : kd_ (mk_ (s + 1) 16 12) = 16 := kd_mk (by omega)
  have hl1 : ln_ (mk_ (s + 1) 16 12) = 12 := ln_mk (by omega) (by omega)
  unfold rea_
  have L := loopE_ (P := fun k => V_ xs d 1 2 [vA (some (mk_ s 0 0)), vI ks, vI gr, vI (Int32.ofNat k)] [] h Q) (R := Q (some (some (vI 1))) h) (c := fun k => decide ((ks >>> (Int32.ofNat k &&& 31)) &&& 1 = 1) && !decide (g k < gr)) (n := 12) (fun k hk => by
    have g3 := hg k hk
    rw [s1_2]
    simp (disch := first | omega | assumption | decide | (apply bT_; decide)) only [s1_0, s1_1, s1_3, s1_5, s1_8, s1_9, s1_10, s1_11, s1_12, s1_13, s1_14, s1_17, s1_18, s1_21, s1_22, s1_23, s1_24, s1_27, s1_28, s1_29, s1_32, s1_35, s1_36, K_v, K_0, acI, acA, acJ, acX, List.map_cons, List.map_nil, List.sum_cons, List.sum_nil, true_and, and_true, posT, b2_0, b2_1, bft, true_or, or_true, Nat.zero_le, Nat.reduceAdd, Nat.reduceLeDiff, hI_uI, hL_uI, hR_uI, nx_uI, sl_uI, hI_uL, hL_uL, hR_uL, nx_uL, sl_uL, hI_uR, hL_uR, hR_uR, nx_uR, sl_uR, st_eq, if_true, if_false, eq_self, Nat.reduceEqDiff, Nat.reduceMul, reduceIte, kdT, ixT, w_cl, w_ti, w_s1, w_a, w_m12, w_m8, w_m3, w_m4, hk0, hl1, h5, g3, w12]
    rw [if_pos hk]
    by_cases q1 : (ks >>> (Int32.ofNat k &&& 31)) &&& 1 = 1
    · rw [if_pos q1]
      by_cases q2 : g k < gr
      · rw [if_pos q2, if_neg (by simp [q2])]
      · rw [if_neg q2, if_pos (by simp [q1, q2])]
    · rw [if_neg q1, if_neg (by simp [q1])]) 12 0 rfl
  simp (disch := first | omega | assumption | decide | (apply bT_; decide)) only [s1_0, s1_1, s1_3, s1_5, s1_8, s1_9, s1_10, s1_11, s1_12, s1_13, s1_14, s1_17, s1_18, s1_21, s1_22, s1_23, s1_24, s1_27, s1_28, s1_29, s1_32, s1_35, s1_36, K_v, K_0, acI, acA, acJ, acX, List.map_cons, List.map_nil, List.sum_cons, List.sum_nil, true_and, and_true, posT, b2_0, b2_1, bft, true_or, or_true, Nat.zero_le, Nat.reduceAdd, Nat.reduceLeDiff, hI_uI, hL_uI, hR_uI, nx_uI, sl_uI, hI_uL, hL_uL, hR_uL, nx_uL, sl_uL, hI_uR, hL_uR, hR_uR, nx_uR, sl_uR, st_eq, if_true, if_false, eq_self, Nat.reduceEqDiff, Nat.reduceMul, reduceIte, kdT, ixT, w_cl, w_ti, w_s1, w_a, w_m12, w_m8, w_m3, w_m4]
  refine (show V_ xs d 1 2 [vA (some (mk_ s 0 0)), vI ks, vI gr, vI (Int32.ofNat 0)] [] h Q ↔ _ from L).trans ?_
  cases an_ (fun k => decide ((ks >>> (Int32.ofNat k &&& 31)) &&& 1 = 1) && !decide (g k < gr)) 12 0
  · rw [if_neg (by decide), s1_2]
    simp (disch := first | omega | assumption | decide | (apply bT_; decide)) only [s1_0, s1_1, s1_3, s1_5, s1_8, s1_9, s1_10, s1_11, s1_12, s1_13, s1_14, s1_17, s1_18, s1_21, s1_22, s1_23, s1_24, s1_27, s1_28, s1_29, s1_32, s1_35, s1_36, K_v, K_0, acI, acA, acJ, acX, List.map_cons, List.map_nil, List.sum_cons, List.sum_nil, true_and, and_true, posT, b2_0, b2_1, bft, true_or, or_true, Nat.zero_le, Nat.reduceAdd, Nat.reduceLeDiff, hI_uI, hL_uI, hR_uI, nx_uI, sl_uI, hI_uL, hL_uL, hR_uL, nx_uL, sl_uL, hI_uR, hL_uR, hR_uR, nx_uR, sl_uR, st_eq, if_true, if_false, eq_self, Nat.reduceEqDiff, Nat.reduceMul, reduceIte, kdT, ixT, w_cl, w_ti, w_s1, w_a, w_m12, w_m8, w_m3, w_m4, w12]
    rw [if_neg (by omega)]
    rfl
  · rw [if_pos rfl]
    rfl
theorem c_greatest {i : Nat} (hA : CA_ na sa F G h) (hi : i < na) (hd : 1 ≤ d) : V_ xs d 2 0 [vA (some (mk_ (sa i) 0 0)), vX 0, vX 0] [] h Q ↔ Q (some (some (vI (gre_ G i)))) h := by
  obtain ⟨g1, g2, g3, g4, g5, g6, g7⟩ := id hA
  have h5 := (g3 i hi).2.2.2
  have hk0 : kd_ (mk_ (sa i) 0 0) = 0 := kd_mk (by omega)
  have hk1 : kd_ (mk_ (sa i + 1) 16 12) = 16 := kd_mk (by omega)
  have hl1 : ln_ (mk_ (sa i + 1) 16 12) = 12 := ln_mk (by omega) (by omega)
  have L9 := loop_ (P := fun k g => V_ xs d 2 4 [vA (some (mk_ (sa i) 0 0)), vI g, vI (Int32.ofNat k)] [] h Q) (f := fun k g => if g < G i k then G i k else g) (n := 12) (fun _ _ => True) (fun k g hk _ => ⟨by
    have e1 := g6 i k hi hk
    rw [s2_4]
    simp (disch := first | omega | assumption | decide | (apply bT_; decide)) only [s2_0, s2_1, s2_2, s2_3, s2_5, s2_7, s2_10, s2_11, s2_12, s2_15, s2_16, s2_17, s2_20, s2_21, s2_24, s2_27, s2_28, K_v, K_0, acI, acA, acJ, acX, List.map_cons, List.map_nil, List.sum_cons, List.sum_nil, true_and, and_true, posT, b2_0, b2_1, bft, true_or, or_true, Nat.zero_le, Nat.reduceAdd, Nat.reduceLeDiff, hI_uI, hL_uI, hR_uI, nx_uI, sl_uI, hI_uL, hL_uL, hR_uL, nx_uL, sl_uL, hI_uR, hL_uR, hR_uR, nx_uR, sl_uR, st_eq, if_true, if_false, eq_self, Nat.reduceEqDiff, Nat.reduceMul, reduceIte, kdT, ixT, w_cl, w_ti, w_s1, w_a, w_m12, w_m8, w_m3, w_m4, hk0, hl1, h5, e1, c_max, w12]
    rw [if_pos hk], trivial⟩) 12 0 0 rfl trivial
  simp (disch := first | omega | assumption | decide | (apply bT_; decide)) only [s2_0, s2_1, s2_2, s2_3, s2_5, s2_7, s2_10, s2_11, s2_12, s2_15, s2_16, s2_17, s2_20, s2_21, s2_24, s2_27, s2_28, K_v, K_0, acI, acA, acJ, acX, List.map_cons, List.map_nil, List.sum_cons, List.sum_nil, true_and, and_true, posT, b2_0, b2_1, bft, true_or, or_true, Nat.zero_le, Nat.reduceAdd, Nat.reduceLeDiff, hI_uI, hL_uI, hR_uI, nx_uI, sl_uI, hI_uL, hL_uL, hR_uL, nx_uL, sl_uL, hI_uR, hL_uR, hR_uR, nx_uR, sl_uR, st_eq, if_true, if_false, eq_self, Nat.reduceEqDiff, Nat.reduceMul, reduceIte, kdT, ixT, w_cl, w_ti, w_s1, w_a, w_m12, w_m8, w_m3, w_m4]
  refine (show V_ xs d 2 4 [vA (some (mk_ (sa i) 0 0)), vI 0, vI (Int32.ofNat 0)] [] _ Q ↔ _ from L9.1).trans ?_
  rw [s2_4]
  simp (disch := first | omega | assumption | decide | (apply bT_; decide)) only [s2_0, s2_1, s2_2, s2_3, s2_5, s2_7, s2_10, s2_11, s2_12, s2_15, s2_16, s2_17, s2_20, s2_21, s2_24, s2_27, s2_28, K_v, K_0, acI, acA, acJ, acX, List.map_cons, List.map_nil, List.sum_cons, List.sum_nil, true_and, and_true, posT, b2_0, b2_1, bft, true_or, or_true, Nat.zero_le, Nat.reduceAdd, Nat.reduceLeDiff, hI_uI, hL_uI, hR_uI, nx_uI, sl_uI, hI_uL, hL_uL, hR_uL, nx_uL, sl_uL, hI_uR, hL_uR, hR_uR, nx_uR, sl_uR, st_eq, if_true, if_false, eq_self, Nat.reduceEqDiff, Nat.reduceMul, reduceIte, kdT, ixT, w_cl, w_ti, w_s1, w_a, w_m12, w_m8, w_m3, w_m4, w12]
  rw [if_neg (by omega)]
  rfl
/-- an actor's object, or null -/
def aat_ (na : Nat) (sa : Nat → Nat) (a : Int32) : Option Nat := if 0 ≤ a.toInt ∧ a.toInt < na then some (mk_ (sa a.toNatClampNeg) 0 0) else none
theorem c_actorAt {a : Int32} (hC : CS_ h) (hA : CA_ na sa F G h) (hd : 1 ≤ d) : V_ xs d 91 0 [vA (some 25165831), vI a] [] h Q ↔ Q (some (some (vA (aat_ na sa a)))) h := by
  obtain ⟨g1, g2, g3, g4, g5, g6, g7⟩ := id hA
  have z : (0 : Int32).toInt = 0 := rfl
  have z1 := w_m1t (show na ≤ 1000 by omega)
  have hb : kd_ 25428756 = 20 ∨ kd_ 25428756 = 21 ∨ kd_ 25428756 = 22 := Or.inl rfl
  unfold aat_
  by_cases c : 0 ≤ a.toInt ∧ a.toInt < na
  · obtain ⟨i, rfl, hi1, hi2⟩ := w_of c.1
    have hi : i < na := by omega
    have e1 := (g3 i hi).1
    have cw : wi_ (Int32.ofNat i) 0 (Int32.ofNat na - 1) = true := wi_t.mpr (by omega)
    rw [if_pos c, w_cl hi2]
    simp (disch := first | omega | assumption | decide | (apply bT_; decide)) only [s91_0, s91_1, s91_2, s91_3, s91_6, s91_7, s91_8, s91_11, s91_14, s91_15, s91_18, s91_19, s91_20, s91_23, s91_24, K_v, K_0, acI, acA, acJ, acX, List.map_cons, List.map_nil, List.sum_cons, List.sum_nil, true_and, and_true, posT, b2_0, b2_1, bft, true_or, or_true, Nat.zero_le, Nat.reduceAdd, Nat.reduceLeDiff, hI_uI, hL_uI, hR_uI, nx_uI, sl_uI, hI_uL, hL_uL, hR_uL, nx_uL, sl_uL, hI_uR, hL_uR, hR_uR, nx_uR, sl_uR, st_eq, if_true, if_false, eq_self, Nat.reduceEqDiff, Nat.reduceMul, reduceIte, kdT, ixT, w_cl, w_ti, w_s1, w_a, w_m12, w_m8, w_m3, w_m4, hC.x0, hC.x2, hC.x4, hC.x7, hC.x8, hC.x9, hC.x11, hC.f0, hC.f1, hC.f2, hC.p0, hC.p1, hC.p2, hC.p3, hC.l1, hC.l2, hC.l3, hC.l4, hC.d0, hC.d1, hC.d2, hC.g1, hC.g2, hC.g3, hC.g4, hC.k1, hC.k2, hC.k3, hC.k4, g1, e1, c_within, cw, kd_ACT, ln_ACT, Bool.true_eq_false]
  · have cw : wi_ a 0 (Int32.ofNat na - 1) = false := wi_f.mpr (by omega)
    rw [if_neg c]
    simp (disch := first | omega | assumption | decide | (apply bT_; decide)) only [s91_0, s91_1, s91_2, s91_3, s91_6, s91_7, s91_8, s91_11, s91_15, s91_18, s91_19, s91_20, s91_23, s91_24, K_v, K_0, acI, acA, acJ, acX, List.map_cons, List.map_nil, List.sum_cons, List.sum_nil, true_and, and_true, posT, b2_0, b2_1, bft, true_or, or_true, Nat.zero_le, Nat.reduceAdd, Nat.reduceLeDiff, hI_uI, hL_uI, hR_uI, nx_uI, sl_uI, hI_uL, hL_uL, hR_uL, nx_uL, sl_uL, hI_uR, hL_uR, hR_uR, nx_uR, sl_uR, st_eq, if_true, if_false, eq_self, Nat.reduceEqDiff, Nat.reduceMul, reduceIte, kdT, ixT, w_cl, w_ti, w_s1, w_a, w_m12, w_m8, w_m3, w_m4, g1, c_within, cw]
theorem c_countIn (hC : CS_ h) (hA : CA_ na sa F G h) : V_ xs d 93 0 [vA (some 25165831), vX 0, vX 0, vX 0] [] h Q ↔ Q (some (some (vI (Int32.ofNat (inn_ na F))))) h := by
  obtain ⟨g1, g2, g3, g4, g5, g6, g7⟩ := id hA
  have hb : kd_ 25428756 = 20 ∨ kd_ 25428756 = 21 ∨ kd_ 25428756 = 22 := Or.inl rfl
  have L9 := loop_ (P := fun k (x : Nat × AV) => V_ xs d 93 4 [vA (some 25165831), vI (Int32.ofNat x.1), vI (Int32.ofNat k), x.2] [] h Q) (f := fun k x => (ctb_ (fun a => !decide (F a 4 = 0)) k x.1, vA (some (mk_ (sa k) 0 0)))) (n := na) (fun _ _ => True) (fun k x hk _ => ⟨by
    obtain ⟨n, v⟩ := x
    have e1 := (g3 k hk).1
    have e2 := g5 k 4 hk (by omega)
    have hk0 : kd_ (mk_ (sa k) 0 0) = 0 := kd_mk (by omega)
    dsimp only
    rw [s93_4]
    simp (disch := first | omega | assumption | decide | (apply bT_; decide)) only [s93_0, s93_1, s93_2, s93_3, s93_5, s93_6, s93_9, s93_12, s93_13, s93_16, s93_17, s93_18, s93_19, s93_20, s93_23, s93_24, s93_27, s93_30, s93_33, s93_36, s93_39, s93_40, K_v, K_0, acI, acA, acJ, acX, List.map_cons, List.map_nil, List.sum_cons, List.sum_nil, true_and, and_true, posT, b2_0, b2_1, bft, true_or, or_true, Nat.zero_le, Nat.reduceAdd, Nat.reduceLeDiff, hI_uI, hL_uI, hR_uI, nx_uI, sl_uI, hI_uL, hL_uL, hR_uL, nx_uL, sl_uL, hI_uR, hL_uR, hR_uR, nx_uR, sl_uR, st_eq, if_true, if_false, eq_self, Nat.reduceEqDiff, Nat.reduceMul, reduceIte, kdT, ixT, w_cl, w_ti, w_s1, w_a, w_m12, w_m8, w_m3, w_m4, hC.x0, hC.x2, hC.x4, hC.x7, hC.x8, hC.x9, hC.x11, hC.f0, hC.f1, hC.f2, hC.p0, hC.p1, hC.p2, hC.p3, hC.l1, hC.l2, hC.l3, hC.l4, hC.d0, hC.d1, hC.d2, hC.g1, hC.g2, hC.g3, hC.g4, hC.k1, hC.k2, hC.k3, hC.k4, g1, e1, e2, hk0, w_lt, ctb_, kd_ACT, ln_ACT, reduceCtorEq]
    rw [if_pos hk]
    by_cases q : F k 4 = 0
    · rw [if_pos q, if_neg (by simp [q])]
    · rw [if_neg q, if_pos (by simp [q])], trivial⟩) na 0 (0, vX 0) (by omega) trivial
  have h1 : ∀ (k i n : Nat) (v : AV), (it_ (fun k (x : Nat × AV) => (ctb_ (fun a => !decide (F a 4 = 0)) k x.1, vA (some (mk_ (sa k) 0 0)))) k i (n, v)).1 = it_ (ctb_ (fun a => !decide (F a 4 = 0))) k i n := by
    intro k
    induction k with
    | zero => intro i n v; rfl
    | succ k ih => intro i n v; exact ih (i + 1) _ _
  simp (disch := first | omega | assumption | decide | (apply bT_; decide)) only [s93_0, s93_1, s93_2, s93_3, s93_5, s93_6, s93_9, s93_12, s93_13, s93_16, s93_17, s93_18, s93_19, s93_20, s93_23, s93_24, s93_27, s93_30, s93_33, s93_36, s93_39, s93_40, K_v, K_0, acI, acA, acJ, acX, List.map_cons, List.map_nil, List.sum_cons, List.sum_nil, true_and, and_true, posT, b2_0, b2_1, bft, true_or, or_true, Nat.zero_le, Nat.reduceAdd, Nat.reduceLeDiff, hI_uI, hL_uI, hR_uI, nx_uI, sl_uI, hI_uL, hL_uL, hR_uL, nx_uL, sl_uL, hI_uR, hL_uR, hR_uR, nx_uR, sl_uR, st_eq, if_true, if_false, eq_self, Nat.reduceEqDiff, Nat.reduceMul, reduceIte, kdT, ixT, w_cl, w_ti, w_s1, w_a, w_m12, w_m8, w_m3, w_m4]
  refine (show V_ xs d 93 4 [vA (some 25165831), vI (Int32.ofNat 0), vI (Int32.ofNat 0), vX 0] [] _ Q ↔ _ from L9.1).trans ?_
  rw [s93_4]
  simp (disch := first | omega | assumption | decide | (apply bT_; decide)) only [s93_0, s93_1, s93_2, s93_3, s93_5, s93_6, s93_9, s93_12, s93_13, s93_16, s93_17, s93_18, s93_19, s93_20, s93_23, s93_24, s93_27, s93_30, s93_33, s93_36, s93_39, s93_40, K_v, K_0, acI, acA, acJ, acX, List.map_cons, List.map_nil, List.sum_cons, List.sum_nil, true_and, and_true, posT, b2_0, b2_1, bft, true_or, or_true, Nat.zero_le, Nat.reduceAdd, Nat.reduceLeDiff, hI_uI, hL_uI, hR_uI, nx_uI, sl_uI, hI_uL, hL_uL, hR_uL, nx_uL, sl_uL, hI_uR, hL_uR, hR_uR, nx_uR, sl_uR, st_eq, if_true, if_false, eq_self, Nat.reduceEqDiff, Nat.reduceMul, reduceIte, kdT, ixT, w_cl, w_ti, w_s1, w_a, w_m12, w_m8, w_m3, w_m4, g1, w_lt]
  rw [if_neg (by omega), h1]
  rfl
end CAC
