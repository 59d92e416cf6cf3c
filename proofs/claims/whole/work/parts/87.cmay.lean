/-! the class: may, pay, keeps, broken, about -/
abbrev knd_ (L : List Trm_) (i : Nat) : Nat := (L.getD i dT_).1
abbrev amt_ (L : List Trm_) (i : Nat) : Int32 := (L.getD i dT_).2.1
abbrev hlv_ (L : List Trm_) (i : Nat) (m : Nat → Int) : Bool := (L.getD i dT_).2.2.1.2 m
def TL_ (L : List Trm_) : Prop := (∀ i, i < L.length → 10 ≤ knd_ L i ∧ knd_ L i ≤ 13 ∧ LV_ 19 (L.getD i dT_).2.2.1) ∧ (sts_ L).length ≤ 800
def mayb_ (L : List Trm_) (m : Nat → Int) (i : Nat) : Bool := decide (knd_ L i = 10) && !(hlv_ L i m)
def pys_ (L : List Trm_) (m : Nat → Int) : Nat → Int32
  | 0 => 0
  | i + 1 => if knd_ L i = 13 ∧ hlv_ L i m = true then pys_ L m i + amt_ L i else pys_ L m i
def kal_ (hd : Nat → Nat) : Nat → Nat
  | 0 => 0
  | a + 1 => if 0 < hd a then kal_ hd a + 1 else kal_ hd a
def kho_ (L : List Trm_) (t : Nat) (m : Nat → Nat → Int) (hd : Nat → Nat) : Nat → Nat
  | 0 => 0
  | a + 1 => if 0 < hd a ∧ hlv_ L t (m a) = true then kho_ L t m hd a + 1 else kho_ L t m hd a
def kps_ (L : List Trm_) (t : Nat) (m : Nat → Nat → Int) (hd : Nat → Nat) (na : Nat) : Bool := if knd_ L t = 13 then true else if knd_ L t = 10 then decide (kho_ L t m hd na = kal_ hd na) else if knd_ L t = 11 then decide (¬ amt_ L t < Int32.ofNat (kho_ L t m hd na)) else decide (¬ Int32.ofNat (kho_ L t m hd na) < amt_ L t)
theorem kal_le {hd : Nat → Nat} : ∀ {n : Nat}, kal_ hd n ≤ n := by
  intro n
  induction n with
  | zero => exact Nat.le_refl _
  | succ n ih => show (if 0 < hd n then kal_ hd n + 1 else kal_ hd n) ≤ _; split <;> omega
theorem kho_le {L : List Trm_} {t : Nat} {m : Nat → Nat → Int} {hd : Nat → Nat} : ∀ {n : Nat}, kho_ L t m hd n ≤ n := by
  intro n
  induction n with
  | zero => exact Nat.le_refl _
  | succ n ih => show (if 0 < hd n ∧ hlv_ L t (m n) = true then kho_ L t m hd n + 1 else kho_ L t m hd n) ≤ _; split <;> omega
theorem had_le {hp : Option Nat} {Hd : Nat → Int32} {a : Int32} : had_ hp Hd a ≤ 8 := by
  cases hp with
  | none => exact Nat.zero_le _
  | some p => have := ct_le (c := fun r => decide (Hd r = a)) (k := 8) (i := 0) (n := 0); show it_ (ctb_ (fun r => decide (Hd r = a))) 8 0 0 ≤ 8; omega
section CMY
variable {xs : Nat → Int32} {d : Nat} {h : AH} {Q : OU_ → AH → Prop} {na : Nat} {sa : Nat → Nat} {F G : Nat → Nat → Int32} {hp : Option Nat} {Hd : Nat → Int32} {c a : Nat} {day : Int32} {L : List Trm_} {cG cW cN cP cT : Nat}
/-- what is known of the class -/
def CB_ (na : Nat) (sa : Nat → Nat) (F G : Nat → Nat → Int32) (hp : Option Nat) (Hd : Nat → Int32) (c : Nat) (L : List Trm_) (h : AH) : Prop := CS_ h ∧ CA_ na sa F G h ∧ CH_ hp (Int64.ofNat c) h ∧ HC_ hp Hd c ∧ (∀ i, i < na → (F i 3 = 0 ∨ F i 3 = 1) ∧ (F i 4 = 0 ∨ F i 4 = 1)) ∧ CE_ L h ∧ TL_ L
theorem c_holds' {t : Nat} (hB : CB_ na sa F G hp Hd c L h) (ht : t < L.length) (ha : a < na) (hd : 5 ≤ d) : V_ xs d 102 0 [vA (some 25165831), vI (Int32.ofNat t), vI (Int32.ofNat a), vI day, vX 0, vX 0, vX 0, vX 0] [] h Q ↔ Q (some (some (vI (b2_ (hlv_ L t (env_ F G hp Hd a day)))))) h := by
  obtain ⟨b1, b2, b3, b4, b5, b6, b7⟩ := hB
  obtain ⟨cG, cW, cN, cP, cT, hX⟩ := b6.cx b1
  exact c_holds b1 b2 b3 b4 b5 hX ht (b7.1 t ht).2.2 b7.2 ha hd
theorem x_may {v : Int32} (hB : CB_ na sa F G hp Hd c L h) (hd : 6 ≤ d) : Do_ xs d 84 [vA (some 25165831), vI v, vI day, vX 0] h (some (some (vI (if 0 ≤ v.toInt ∧ v.toInt < na then (if an_ (mayb_ L (env_ F G hp Hd v.toNatClampNeg day)) L.length 0 = true then 0 else 1) else -1)))) h := by
  intro Q
  obtain ⟨b1, b2, b3, b4, b5, b6, b7⟩ := id hB
  obtain ⟨cG, cW, cN, cP, cT, hX⟩ := b6.cx b1
  obtain ⟨x12, x1, x2, x3, x4, ⟨u1, u2, u3, u4, u5, u6, u7, u8, u9⟩, g1, g2, g3, g4⟩ := id hX
  have hna := b2.2.1
  by_cases q : 0 ≤ v.toInt ∧ v.toInt < na
  · obtain ⟨a, rfl, e2, e3⟩ := w_of (x := v) q.1
    have ha : a < na := by omega
    have hat : aat_ na sa (Int32.ofNat a) = some (mk_ (sa a) 0 0) := by
      unfold aat_
      rw [if_pos q, w_cl (by omega)]
    have hcl : (Int32.ofNat a).toNatClampNeg = a := w_cl e3
    have k10 : ¬ ((1 : Int32) = 0) := by decide
    have hb : kd_ cW = 20 ∨ kd_ cW = 21 ∨ kd_ cW = 22 := Or.inr (Or.inr u2)
    have tm : tkb_ (some 262176) = true := by decide
    rw [if_pos q, hcl]
    have Lp := loopE_ (P := fun i => V_ xs d 84 12 [vA (some 25165831), vI (Int32.ofNat a), vI day, vI (Int32.ofNat i)] [] h Q) (R := Q (some (some (vI 0))) h) (c := mayb_ L (env_ F G hp Hd a day)) (n := L.length) (fun i hi => by
      obtain ⟨w1, w2, -⟩ := b7.1 i hi
      have ew := (g3 i hi).1
      have tb := (tok_f (cl_ (knd_ L i)) (cl_lt _ (by show knd_ L i < 25; omega))).2.2
      have ti := tok_is (σ := 10) (s := knd_ L i) (t := 262176) (by decide) (by decide) (by omega) (by decide)
      have hh := fun Q => c_holds' (xs := xs) (d := d - 1) (Q := Q) (day := day) hB hi ha (by omega)
      rw [s84_12]
      unfold mayb_
      by_cases q1 : knd_ L i = 10
      · have n1 := ti.mpr q1
        rw [decide_eq_true q1, Bool.true_and]
        cases hv : hlv_ L i (env_ F G hp Hd a day)
        · rw [hv] at hh
          have hh' : ∀ Q : OU_ → AH → Prop, V_ xs (d - 1) 102 0 [vA (some 25165831), vI (Int32.ofNat i), vI (Int32.ofNat a), vI day, vX 0, vX 0, vX 0, vX 0] [] h Q ↔ Q (some (some (vI 0))) h := hh
          rw [if_pos (show (!false) = true from rfl)]
          simp (disch := first | omega | assumption | decide | (apply bT_; decide)) only [s84_0, s84_1, s84_2, s84_5, s84_8, s84_9, s84_10, s84_11, s84_13, s84_14, s84_17, s84_20, s84_23, s84_24, s84_27, s84_30, s84_31, s84_32, s84_35, s84_38, s84_39, s84_40, s84_41, s84_42, s84_45, s84_48, s84_49, s84_53, s84_57, K_v, K_0, acI, acA, acJ, acX, List.map_cons, List.map_nil, List.sum_cons, List.sum_nil, true_and, and_true, posT, b2_0, b2_1, bft, true_or, or_true, Nat.zero_le, Nat.reduceAdd, Nat.reduceLeDiff, hI_uI, hL_uI, hR_uI, nx_uI, sl_uI, hI_uL, hL_uL, hR_uL, nx_uL, sl_uL, hI_uR, hL_uR, hR_uR, nx_uR, sl_uR, st_eq, if_true, if_false, eq_self, Nat.reduceEqDiff, Nat.reduceMul, reduceIte, kdT, ixT, w_cl, w_ti, w_s1, w_a, w_m12, w_m8, w_m3, w_m4, x12, x1, g1, hi, w_lt, ew, hb, tb, tm, if_pos n1, hh', u1, u2, u3, kd_X, ln_X]
        · rw [hv] at hh
          have hh' : ∀ Q : OU_ → AH → Prop, V_ xs (d - 1) 102 0 [vA (some 25165831), vI (Int32.ofNat i), vI (Int32.ofNat a), vI day, vX 0, vX 0, vX 0, vX 0] [] h Q ↔ Q (some (some (vI 1))) h := hh
          rw [if_neg (show ¬ ((!true) = true) by decide)]
          simp (disch := first | omega | assumption | decide | (apply bT_; decide)) only [s84_0, s84_1, s84_2, s84_5, s84_8, s84_9, s84_10, s84_11, s84_13, s84_14, s84_17, s84_20, s84_23, s84_24, s84_27, s84_30, s84_31, s84_32, s84_35, s84_38, s84_39, s84_40, s84_41, s84_42, s84_45, s84_49, s84_50, s84_53, s84_57, K_v, K_0, acI, acA, acJ, acX, List.map_cons, List.map_nil, List.sum_cons, List.sum_nil, true_and, and_true, posT, b2_0, b2_1, bft, true_or, or_true, Nat.zero_le, Nat.reduceAdd, Nat.reduceLeDiff, hI_uI, hL_uI, hR_uI, nx_uI, sl_uI, hI_uL, hL_uL, hR_uL, nx_uL, sl_uL, hI_uR, hL_uR, hR_uR, nx_uR, sl_uR, st_eq, if_true, if_false, eq_self, Nat.reduceEqDiff, Nat.reduceMul, reduceIte, kdT, ixT, w_cl, w_ti, w_s1, w_a, w_m12, w_m8, w_m3, w_m4, x12, x1, g1, hi, w_lt, ew, hb, tb, tm, if_pos n1, hh', k10, u1, u2, u3, kd_X, ln_X]
      · have n1 : ¬ _ := fun z => q1 (ti.mp z)
        rw [decide_eq_false q1, Bool.false_and, if_neg (show ¬ (false = true) by decide)]
        simp (disch := first | omega | assumption | decide | (apply bT_; decide)) only [s84_0, s84_1, s84_2, s84_5, s84_8, s84_9, s84_10, s84_11, s84_13, s84_14, s84_17, s84_20, s84_23, s84_24, s84_27, s84_30, s84_31, s84_32, s84_35, s84_39, s84_40, s84_41, s84_42, s84_45, s84_48, s84_49, s84_50, s84_53, s84_57, K_v, K_0, acI, acA, acJ, acX, List.map_cons, List.map_nil, List.sum_cons, List.sum_nil, true_and, and_true, posT, b2_0, b2_1, bft, true_or, or_true, Nat.zero_le, Nat.reduceAdd, Nat.reduceLeDiff, hI_uI, hL_uI, hR_uI, nx_uI, sl_uI, hI_uL, hL_uL, hR_uL, nx_uL, sl_uL, hI_uR, hL_uR, hR_uR, nx_uR, sl_uR, st_eq, if_true, if_false, eq_self, Nat.reduceEqDiff, Nat.reduceMul, reduceIte, kdT, ixT, w_cl, w_ti, w_s1, w_a, w_m12, w_m8, w_m3, w_m4, x12, x1, g1, hi, w_lt, ew, hb, tb, tm, if_neg n1, u1, u2, u3, kd_X, ln_X]) L.length 0 (by omega)
    simp (disch := first | omega | assumption | decide | (apply bT_; decide)) only [s84_0, s84_1, s84_2, s84_5, s84_9, s84_10, s84_11, s84_13, s84_14, s84_17, s84_20, s84_23, s84_24, s84_27, s84_30, s84_31, s84_32, s84_35, s84_38, s84_39, s84_40, s84_41, s84_42, s84_45, s84_48, s84_49, s84_50, s84_53, s84_56, s84_57, K_v, K_0, acI, acA, acJ, acX, List.map_cons, List.map_nil, List.sum_cons, List.sum_nil, true_and, and_true, posT, b2_0, b2_1, bft, true_or, or_true, Nat.zero_le, Nat.reduceAdd, Nat.reduceLeDiff, hI_uI, hL_uI, hR_uI, nx_uI, sl_uI, hI_uL, hL_uL, hR_uL, nx_uL, sl_uL, hI_uR, hL_uR, hR_uR, nx_uR, sl_uR, st_eq, if_true, if_false, eq_self, Nat.reduceEqDiff, Nat.reduceMul, reduceIte, kdT, ixT, w_cl, w_ti, w_s1, w_a, w_m12, w_m8, w_m3, w_m4, c_actorAt b1 b2, hat, reduceCtorEq]
    refine Iff.trans (show V_ xs d 84 12 _ _ _ _ ↔ _ from Lp) ?_
    by_cases q2 : an_ (mayb_ L (env_ F G hp Hd a day)) L.length 0 = true
    · rw [if_pos q2, if_pos q2]
    · rw [if_neg q2, if_neg q2]
      have nl : ¬ (L.length < L.length) := by omega
      rw [s84_12]
      simp (disch := first | omega | assumption | decide | (apply bT_; decide)) only [s84_0, s84_1, s84_2, s84_5, s84_8, s84_9, s84_10, s84_11, s84_13, s84_14, s84_17, s84_20, s84_24, s84_27, s84_30, s84_31, s84_32, s84_35, s84_38, s84_39, s84_40, s84_41, s84_42, s84_45, s84_48, s84_49, s84_50, s84_53, s84_56, s84_57, K_v, K_0, acI, acA, acJ, acX, List.map_cons, List.map_nil, List.sum_cons, List.sum_nil, true_and, and_true, posT, b2_0, b2_1, bft, true_or, or_true, Nat.zero_le, Nat.reduceAdd, Nat.reduceLeDiff, hI_uI, hL_uI, hR_uI, nx_uI, sl_uI, hI_uL, hL_uL, hR_uL, nx_uL, sl_uL, hI_uR, hL_uR, hR_uR, nx_uR, sl_uR, st_eq, if_true, if_false, eq_self, Nat.reduceEqDiff, Nat.reduceMul, reduceIte, kdT, ixT, w_cl, w_ti, w_s1, w_a, w_m12, w_m8, w_m3, w_m4, x12, g1, nl, w_lt, u1, kd_X, ln_X]
  · have hat : aat_ na sa v = none := by unfold aat_; rw [if_neg q]
    rw [if_neg q]
    simp (disch := first | omega | assumption | decide | (apply bT_; decide)) only [s84_0, s84_1, s84_2, s84_5, s84_8, s84_9, s84_11, s84_13, s84_14, s84_17, s84_20, s84_23, s84_24, s84_27, s84_30, s84_31, s84_32, s84_35, s84_38, s84_39, s84_40, s84_41, s84_42, s84_45, s84_48, s84_49, s84_50, s84_53, s84_56, s84_57, K_v, K_0, acI, acA, acJ, acX, List.map_cons, List.map_nil, List.sum_cons, List.sum_nil, true_and, and_true, posT, b2_0, b2_1, bft, true_or, or_true, Nat.zero_le, Nat.reduceAdd, Nat.reduceLeDiff, hI_uI, hL_uI, hR_uI, nx_uI, sl_uI, hI_uL, hL_uL, hR_uL, nx_uL, sl_uL, hI_uR, hL_uR, hR_uR, nx_uR, sl_uR, st_eq, if_true, if_false, eq_self, Nat.reduceEqDiff, Nat.reduceMul, reduceIte, kdT, ixT, w_cl, w_ti, w_s1, w_a, w_m12, w_m8, w_m3, w_m4, c_actorAt b1 b2, hat, reduceCtorEq]
theorem c_payOf (hB : CB_ na sa F G hp Hd c L h) (ha : a < na) (hd : 6 ≤ d) : V_ xs d 100 0 [vA (some 25165831), vI (Int32.ofNat a), vI day, vX 0, vX 0] [] h Q ↔ Q (some (some (vI (pys_ L (env_ F G hp Hd a day) L.length)))) h := by
  obtain ⟨b1, b2, b3, b4, b5, b6, b7⟩ := id hB
  obtain ⟨cG, cW, cN, cP, cT, hX⟩ := b6.cx b1
  obtain ⟨x12, x1, x2, x3, x4, ⟨u1, u2, u3, u4, u5, u6, u7, u8, u9⟩, g1, g2, g3, g4⟩ := id hX
  have k10 : ¬ ((1 : Int32) = 0) := by decide
  have hb : kd_ cW = 20 ∨ kd_ cW = 21 ∨ kd_ cW = 22 := Or.inr (Or.inr u2)
  have tm : tkb_ (some 1048608) = true := by decide
  have key : ∀ (k i : Nat), i + k = L.length → (V_ xs d 100 5 [vA (some 25165831), vI (Int32.ofNat a), vI day, vI (pys_ L (env_ F G hp Hd a day) i), vI (Int32.ofNat i)] [] h Q ↔ Q (some (some (vI (pys_ L (env_ F G hp Hd a day) L.length)))) h) := by
    intro k
    induction k with
    | zero =>
      intro i hi
      have e : i = L.length := by omega
      have nl : ¬ (L.length < L.length) := by omega
      rw [e, s100_5]
      simp (disch := first | omega | assumption | decide | (apply bT_; decide)) only [s100_0, s100_1, s100_2, s100_3, s100_7, s100_8, s100_11, s100_14, s100_18, s100_21, s100_24, s100_26, s100_27, s100_30, s100_33, s100_34, s100_36, s100_37, s100_38, s100_41, s100_44, s100_45, s100_46, s100_49, s100_52, s100_54, s100_55, s100_56, s100_57, s100_60, s100_63, s100_64, K_v, K_0, acI, acA, acJ, acX, List.map_cons, List.map_nil, List.sum_cons, List.sum_nil, true_and, and_true, posT, b2_0, b2_1, bft, true_or, or_true, Nat.zero_le, Nat.reduceAdd, Nat.reduceLeDiff, hI_uI, hL_uI, hR_uI, nx_uI, sl_uI, hI_uL, hL_uL, hR_uL, nx_uL, sl_uL, hI_uR, hL_uR, hR_uR, nx_uR, sl_uR, st_eq, if_true, if_false, eq_self, Nat.reduceEqDiff, Nat.reduceMul, reduceIte, kdT, ixT, w_cl, w_ti, w_s1, w_a, w_m12, w_m8, w_m3, w_m4, x12, g1, nl, w_lt, u1, kd_X, ln_X]
    | succ k ih =>
      intro i hk
      have hi : i < L.length := by omega
      obtain ⟨w1, w2, -⟩ := b7.1 i hi
      have ew := (g3 i hi).1
      have en := (g3 i hi).2.1
      have tb := (tok_f (cl_ (knd_ L i)) (cl_lt _ (by show knd_ L i < 25; omega))).2.2
      have ti := tok_is (σ := 13) (s := knd_ L i) (t := 1048608) (by decide) (by decide) (by omega) (by decide)
      have hh := fun Q => c_holds' (xs := xs) (d := d - 1) (Q := Q) (day := day) hB hi ha (by omega)
      have es : pys_ L (env_ F G hp Hd a day) (i + 1) = if knd_ L i = 13 ∧ hlv_ L i (env_ F G hp Hd a day) = true then pys_ L (env_ F G hp Hd a day) i + amt_ L i else pys_ L (env_ F G hp Hd a day) i := rfl
      rw [← ih (i + 1) (by omega), es, s100_5]
      by_cases q1 : knd_ L i = 13
      · have n1 := ti.mpr q1
        cases hv : hlv_ L i (env_ F G hp Hd a day)
        · rw [hv] at hh
          have hh' : ∀ Q : OU_ → AH → Prop, V_ xs (d - 1) 102 0 [vA (some 25165831), vI (Int32.ofNat i), vI (Int32.ofNat a), vI day, vX 0, vX 0, vX 0, vX 0] [] h Q ↔ Q (some (some (vI 0))) h := hh
          rw [if_neg (fun z => by cases z.2)]
          simp (disch := first | omega | assumption | decide | (apply bT_; decide)) only [s100_0, s100_1, s100_2, s100_3, s100_7, s100_8, s100_11, s100_14, s100_17, s100_18, s100_21, s100_24, s100_26, s100_27, s100_30, s100_33, s100_34, s100_36, s100_37, s100_38, s100_41, s100_45, s100_46, s100_49, s100_52, s100_54, s100_55, s100_56, s100_57, s100_60, s100_64, K_v, K_0, acI, acA, acJ, acX, List.map_cons, List.map_nil, List.sum_cons, List.sum_nil, true_and, and_true, posT, b2_0, b2_1, bft, true_or, or_true, Nat.zero_le, Nat.reduceAdd, Nat.reduceLeDiff, hI_uI, hL_uI, hR_uI, nx_uI, sl_uI, hI_uL, hL_uL, hR_uL, nx_uL, sl_uL, hI_uR, hL_uR, hR_uR, nx_uR, sl_uR, st_eq, if_true, if_false, eq_self, Nat.reduceEqDiff, Nat.reduceMul, reduceIte, kdT, ixT, w_cl, w_ti, w_s1, w_a, w_m12, w_m8, w_m3, w_m4, x12, x1, g1, hi, w_lt, ew, hb, tb, tm, if_pos n1, hh', u1, u2, u3, kd_X, ln_X]
        · rw [hv] at hh
          have hh' : ∀ Q : OU_ → AH → Prop, V_ xs (d - 1) 102 0 [vA (some 25165831), vI (Int32.ofNat i), vI (Int32.ofNat a), vI day, vX 0, vX 0, vX 0, vX 0] [] h Q ↔ Q (some (some (vI 1))) h := hh
          rw [if_pos ⟨q1, rfl⟩]
          simp (disch := first | omega | assumption | decide | (apply bT_; decide)) only [s100_0, s100_1, s100_2, s100_3, s100_7, s100_8, s100_11, s100_14, s100_17, s100_18, s100_21, s100_24, s100_26, s100_27, s100_30, s100_33, s100_34, s100_36, s100_37, s100_38, s100_41, s100_44, s100_45, s100_46, s100_49, s100_52, s100_54, s100_55, s100_56, s100_57, s100_60, s100_64, K_v, K_0, acI, acA, acJ, acX, List.map_cons, List.map_nil, List.sum_cons, List.sum_nil, true_and, and_true, posT, b2_0, b2_1, bft, true_or, or_true, Nat.zero_le, Nat.reduceAdd, Nat.reduceLeDiff, hI_uI, hL_uI, hR_uI, nx_uI, sl_uI, hI_uL, hL_uL, hR_uL, nx_uL, sl_uL, hI_uR, hL_uR, hR_uR, nx_uR, sl_uR, st_eq, if_true, if_false, eq_self, Nat.reduceEqDiff, Nat.reduceMul, reduceIte, kdT, ixT, w_cl, w_ti, w_s1, w_a, w_m12, w_m8, w_m3, w_m4, x12, x1, x2, g1, hi, w_lt, ew, en, hb, tb, tm, if_pos n1, hh', k10, u1, u2, u3, u4, u5, kd_X, ln_X]
      · have n1 : ¬ _ := fun z => q1 (ti.mp z)
        rw [if_neg (fun z => q1 z.1)]
        simp (disch := first | omega | assumption | decide | (apply bT_; decide)) only [s100_0, s100_1, s100_2, s100_3, s100_7, s100_8, s100_11, s100_14, s100_17, s100_18, s100_21, s100_24, s100_26, s100_27, s100_30, s100_34, s100_36, s100_37, s100_38, s100_41, s100_44, s100_45, s100_46, s100_49, s100_52, s100_54, s100_55, s100_56, s100_57, s100_60, s100_64, K_v, K_0, acI, acA, acJ, acX, List.map_cons, List.map_nil, List.sum_cons, List.sum_nil, true_and, and_true, posT, b2_0, b2_1, bft, true_or, or_true, Nat.zero_le, Nat.reduceAdd, Nat.reduceLeDiff, hI_uI, hL_uI, hR_uI, nx_uI, sl_uI, hI_uL, hL_uL, hR_uL, nx_uL, sl_uL, hI_uR, hL_uR, hR_uR, nx_uR, sl_uR, st_eq, if_true, if_false, eq_self, Nat.reduceEqDiff, Nat.reduceMul, reduceIte, kdT, ixT, w_cl, w_ti, w_s1, w_a, w_m12, w_m8, w_m3, w_m4, x12, x1, g1, hi, w_lt, ew, hb, tb, tm, if_neg n1, u1, u2, u3, kd_X, ln_X]
  simp (disch := first | omega | assumption | decide | (apply bT_; decide)) only [s100_0, s100_1, s100_2, s100_3, s100_7, s100_8, s100_11, s100_14, s100_17, s100_18, s100_21, s100_24, s100_26, s100_27, s100_30, s100_33, s100_34, s100_36, s100_37, s100_38, s100_41, s100_44, s100_45, s100_46, s100_49, s100_52, s100_54, s100_55, s100_56, s100_57, s100_60, s100_63, s100_64, K_v, K_0, acI, acA, acJ, acX, List.map_cons, List.map_nil, List.sum_cons, List.sum_nil, true_and, and_true, posT, b2_0, b2_1, bft, true_or, or_true, Nat.zero_le, Nat.reduceAdd, Nat.reduceLeDiff, hI_uI, hL_uI, hR_uI, nx_uI, sl_uI, hI_uL, hL_uL, hR_uL, nx_uL, sl_uL, hI_uR, hL_uR, hR_uR, nx_uR, sl_uR, st_eq, if_true, if_false, eq_self, Nat.reduceEqDiff, Nat.reduceMul, reduceIte, kdT, ixT, w_cl, w_ti, w_s1, w_a, w_m12, w_m8, w_m3, w_m4]
  exact key L.length 0 (by omega)
theorem c_keeps {t : Nat} (hB : CB_ na sa F G hp Hd c L h) (ht : t < L.length) (hd : 6 ≤ d) : V_ xs d 101 0 [vA (some 25165831), vI (Int32.ofNat t), vI day, vX 0, vX 0, vX 0, vX 0] [] h Q ↔ Q (some (some (vI (b2_ (kps_ L t (fun a => env_ F G hp Hd a day) (fun a => had_ hp Hd (Int32.ofNat a)) na))))) h := by
  obtain ⟨b1, b2, b3, b4, b5, b6, b7⟩ := id hB
  obtain ⟨cG, cW, cN, cP, cT, hX⟩ := b6.cx b1
  obtain ⟨x12, x1, x2, x3, x4, ⟨u1, u2, u3, u4, u5, u6, u7, u8, u9⟩, g1, g2, g3, g4⟩ := id hX
  have hna := b2.2.1
  have a1 := b2.1
  have k10 : ¬ ((1 : Int32) = 0) := by decide
  have hb : kd_ cW = 20 ∨ kd_ cW = 21 ∨ kd_ cW = 22 := Or.inr (Or.inr u2)
  have tp : tkb_ (some 1048608) = true := by decide
  have tm : tkb_ (some 262176) = true := by decide
  have to : tkb_ (some 524320) = true := by decide
  obtain ⟨w1, w2, -⟩ := b7.1 t ht
  have ew := (g3 t ht).1
  have en := (g3 t ht).2.1
  have tb := (tok_f (cl_ (knd_ L t)) (cl_lt _ (by show knd_ L t < 25; omega))).2.2
  have i13 := tok_is (σ := 13) (s := knd_ L t) (t := 1048608) (by decide) (by decide) (by omega) (by decide)
  have i10 := tok_is (σ := 10) (s := knd_ L t) (t := 262176) (by decide) (by decide) (by omega) (by decide)
  have i11 := tok_is (σ := 11) (s := knd_ L t) (t := 524320) (by decide) (by decide) (by omega) (by decide)
  have hal := kal_le (hd := fun a => had_ hp Hd (Int32.ofNat a)) (n := na)
  have hol := kho_le (L := L) (t := t) (m := fun a => env_ F G hp Hd a day) (hd := fun a => had_ hp Hd (Int32.ofNat a)) (n := na)
  unfold kps_
  by_cases q13 : knd_ L t = 13
  · have n1 := i13.mpr q13
    rw [if_pos q13]
    simp (disch := first | omega | assumption | decide | (apply bT_; decide)) only [s101_0, s101_1, s101_4, s101_7, s101_8, s101_9, s101_10, s101_11, s101_14, s101_17, s101_18, s101_20, s101_22, s101_23, s101_25, s101_26, s101_30, s101_31, s101_34, s101_37, s101_38, s101_40, s101_43, s101_46, s101_49, s101_50, s101_51, s101_53, s101_54, s101_57, s101_60, s101_63, s101_66, s101_69, s101_70, s101_73, s101_76, s101_78, s101_80, s101_83, s101_84, s101_87, s101_88, s101_89, s101_90, s101_93, s101_96, s101_97, s101_98, s101_100, s101_101, s101_104, s101_107, s101_109, s101_111, s101_114, s101_115, s101_118, s101_119, s101_122, s101_124, s101_126, s101_129, s101_130, s101_133, s101_134, K_v, K_0, acI, acA, acJ, acX, List.map_cons, List.map_nil, List.sum_cons, List.sum_nil, true_and, and_true, posT, b2_0, b2_1, bft, true_or, or_true, Nat.zero_le, Nat.reduceAdd, Nat.reduceLeDiff, hI_uI, hL_uI, hR_uI, nx_uI, sl_uI, hI_uL, hL_uL, hR_uL, nx_uL, sl_uL, hI_uR, hL_uR, hR_uR, nx_uR, sl_uR, st_eq, if_true, if_false, eq_self, Nat.reduceEqDiff, Nat.reduceMul, reduceIte, kdT, ixT, w_cl, w_ti, w_s1, w_a, w_m12, w_m8, w_m3, w_m4, x12, x1, ew, hb, tb, tp, if_pos n1, u1, u2, u3, kd_X, ln_X]
    exact Iff.rfl
  · have n1 : ¬ _ := fun z => q13 (i13.mp z)
    rw [if_neg q13]
    have key : ∀ (k i : Nat), i + k = na → (V_ xs d 101 28 [vA (some 25165831), vI (Int32.ofNat t), vI day, vA (some (tref_ (cl_ (knd_ L t)))), vI (Int32.ofNat (kal_ (fun a => had_ hp Hd (Int32.ofNat a)) i)), vI (Int32.ofNat (kho_ L t (fun a => env_ F G hp Hd a day) (fun a => had_ hp Hd (Int32.ofNat a)) i)), vI (Int32.ofNat i)] [] h Q ↔ V_ xs d 101 69 [vA (some 25165831), vI (Int32.ofNat t), vI day, vA (some (tref_ (cl_ (knd_ L t)))), vI (Int32.ofNat (kal_ (fun a => had_ hp Hd (Int32.ofNat a)) na)), vI (Int32.ofNat (kho_ L t (fun a => env_ F G hp Hd a day) (fun a => had_ hp Hd (Int32.ofNat a)) na)), vI (Int32.ofNat na)] [] h Q) := by
      intro k
      induction k with
      | zero =>
        intro i hi
        have e : i = na := by omega
        have nl : ¬ (na < na) := by omega
        rw [e, s101_28]
        simp (disch := first | omega | assumption | decide | (apply bT_; decide)) only [s101_0, s101_1, s101_4, s101_7, s101_8, s101_9, s101_10, s101_11, s101_14, s101_17, s101_18, s101_19, s101_20, s101_22, s101_23, s101_25, s101_26, s101_30, s101_31, s101_34, s101_38, s101_40, s101_43, s101_46, s101_49, s101_50, s101_51, s101_53, s101_54, s101_57, s101_60, s101_63, s101_66, s101_70, s101_73, s101_76, s101_78, s101_80, s101_83, s101_84, s101_87, s101_88, s101_89, s101_90, s101_93, s101_96, s101_97, s101_98, s101_100, s101_101, s101_104, s101_107, s101_109, s101_111, s101_114, s101_115, s101_118, s101_119, s101_122, s101_124, s101_126, s101_129, s101_130, s101_133, s101_134, K_v, K_0, acI, acA, acJ, acX, List.map_cons, List.map_nil, List.sum_cons, List.sum_nil, true_and, and_true, posT, b2_0, b2_1, bft, true_or, or_true, Nat.zero_le, Nat.reduceAdd, Nat.reduceLeDiff, hI_uI, hL_uI, hR_uI, nx_uI, sl_uI, hI_uL, hL_uL, hR_uL, nx_uL, sl_uL, hI_uR, hL_uR, hR_uR, nx_uR, sl_uR, st_eq, if_true, if_false, eq_self, Nat.reduceEqDiff, Nat.reduceMul, reduceIte, kdT, ixT, w_cl, w_ti, w_s1, w_a, w_m12, w_m8, w_m3, w_m4, a1, nl, w_lt, kd_X, ln_X]
      | succ k ih =>
        intro i hk
        have hi : i < na := by omega
        have hro := fun Q => c_rolesOf (xs := xs) (d := d - 1) (Q := Q) (a := i) b3 b4 (by omega) (by omega)
        have hh := fun Q => c_holds' (xs := xs) (d := d - 1) (Q := Q) (day := day) hB ht hi (by omega)
        have h8 := had_le (hp := hp) (Hd := Hd) (a := Int32.ofNat i)
        have e1 : kal_ (fun a => had_ hp Hd (Int32.ofNat a)) (i + 1) = if 0 < had_ hp Hd (Int32.ofNat i) then kal_ (fun a => had_ hp Hd (Int32.ofNat a)) i + 1 else kal_ (fun a => had_ hp Hd (Int32.ofNat a)) i := rfl
        have e2 : kho_ L t (fun a => env_ F G hp Hd a day) (fun a => had_ hp Hd (Int32.ofNat a)) (i + 1) = if 0 < had_ hp Hd (Int32.ofNat i) ∧ hlv_ L t (env_ F G hp Hd i day) = true then kho_ L t (fun a => env_ F G hp Hd a day) (fun a => had_ hp Hd (Int32.ofNat a)) i + 1 else kho_ L t (fun a => env_ F G hp Hd a day) (fun a => had_ hp Hd (Int32.ofNat a)) i := rfl
        rw [← ih (i + 1) (by omega), e1, e2, s101_28]
        by_cases q0 : 0 < had_ hp Hd (Int32.ofNat i)
        · have n0 : (0 : Int32) < Int32.ofNat (had_ hp Hd (Int32.ofNat i)) := (w_lt (a := 0) (by omega) (by omega)).mpr q0
          rw [if_pos q0]
          cases hv : hlv_ L t (env_ F G hp Hd i day)
          · rw [hv] at hh
            have hh' : ∀ Q : OU_ → AH → Prop, V_ xs (d - 1) 102 0 [vA (some 25165831), vI (Int32.ofNat t), vI (Int32.ofNat i), vI day, vX 0, vX 0, vX 0, vX 0] [] h Q ↔ Q (some (some (vI 0))) h := hh
            rw [if_neg (fun z => by cases z.2)]
            simp (disch := first | omega | assumption | decide | (apply bT_; decide)) only [s101_0, s101_1, s101_4, s101_7, s101_8, s101_9, s101_10, s101_11, s101_14, s101_17, s101_18, s101_19, s101_20, s101_22, s101_23, s101_25, s101_26, s101_30, s101_31, s101_34, s101_37, s101_38, s101_40, s101_43, s101_46, s101_49, s101_50, s101_51, s101_53, s101_54, s101_57, s101_63, s101_66, s101_70, s101_73, s101_76, s101_78, s101_80, s101_83, s101_84, s101_87, s101_88, s101_89, s101_90, s101_93, s101_96, s101_97, s101_98, s101_100, s101_101, s101_104, s101_107, s101_109, s101_111, s101_114, s101_115, s101_118, s101_119, s101_122, s101_124, s101_126, s101_129, s101_130, s101_133, s101_134, K_v, K_0, acI, acA, acJ, acX, List.map_cons, List.map_nil, List.sum_cons, List.sum_nil, true_and, and_true, posT, b2_0, b2_1, bft, true_or, or_true, Nat.zero_le, Nat.reduceAdd, Nat.reduceLeDiff, hI_uI, hL_uI, hR_uI, nx_uI, sl_uI, hI_uL, hL_uL, hR_uL, nx_uL, sl_uL, hI_uR, hL_uR, hR_uR, nx_uR, sl_uR, st_eq, if_true, if_false, eq_self, Nat.reduceEqDiff, Nat.reduceMul, reduceIte, kdT, ixT, w_cl, w_ti, w_s1, w_a, w_m12, w_m8, w_m3, w_m4, a1, hi, w_lt, hro, if_pos n0, hh', kd_X, ln_X]
          · rw [hv] at hh
            have hh' : ∀ Q : OU_ → AH → Prop, V_ xs (d - 1) 102 0 [vA (some 25165831), vI (Int32.ofNat t), vI (Int32.ofNat i), vI day, vX 0, vX 0, vX 0, vX 0] [] h Q ↔ Q (some (some (vI 1))) h := hh
            rw [if_pos ⟨q0, rfl⟩]
            simp (disch := first | omega | assumption | decide | (apply bT_; decide)) only [s101_0, s101_1, s101_4, s101_7, s101_8, s101_9, s101_10, s101_11, s101_14, s101_17, s101_18, s101_19, s101_20, s101_22, s101_23, s101_25, s101_26, s101_30, s101_31, s101_34, s101_37, s101_38, s101_40, s101_43, s101_46, s101_49, s101_50, s101_51, s101_53, s101_54, s101_57, s101_60, s101_63, s101_66, s101_70, s101_73, s101_76, s101_78, s101_80, s101_83, s101_84, s101_87, s101_88, s101_89, s101_90, s101_93, s101_96, s101_97, s101_98, s101_100, s101_101, s101_104, s101_107, s101_109, s101_111, s101_114, s101_115, s101_118, s101_119, s101_122, s101_124, s101_126, s101_129, s101_130, s101_133, s101_134, K_v, K_0, acI, acA, acJ, acX, List.map_cons, List.map_nil, List.sum_cons, List.sum_nil, true_and, and_true, posT, b2_0, b2_1, bft, true_or, or_true, Nat.zero_le, Nat.reduceAdd, Nat.reduceLeDiff, hI_uI, hL_uI, hR_uI, nx_uI, sl_uI, hI_uL, hL_uL, hR_uL, nx_uL, sl_uL, hI_uR, hL_uR, hR_uR, nx_uR, sl_uR, st_eq, if_true, if_false, eq_self, Nat.reduceEqDiff, Nat.reduceMul, reduceIte, kdT, ixT, w_cl, w_ti, w_s1, w_a, w_m12, w_m8, w_m3, w_m4, a1, hi, w_lt, hro, if_pos n0, hh', k10, kd_X, ln_X]
        · have n0 : ¬ ((0 : Int32) < Int32.ofNat (had_ hp Hd (Int32.ofNat i))) := fun z => q0 ((w_lt (a := 0) (by omega) (by omega)).mp z)
          rw [if_neg q0, if_neg (fun z => q0 z.1)]
          simp (disch := first | omega | assumption | decide | (apply bT_; decide)) only [s101_0, s101_1, s101_4, s101_7, s101_8, s101_9, s101_10, s101_11, s101_14, s101_17, s101_18, s101_19, s101_20, s101_22, s101_23, s101_25, s101_26, s101_30, s101_31, s101_34, s101_37, s101_38, s101_40, s101_43, s101_49, s101_50, s101_51, s101_53, s101_54, s101_57, s101_60, s101_63, s101_66, s101_70, s101_73, s101_76, s101_78, s101_80, s101_83, s101_84, s101_87, s101_88, s101_89, s101_90, s101_93, s101_96, s101_97, s101_98, s101_100, s101_101, s101_104, s101_107, s101_109, s101_111, s101_114, s101_115, s101_118, s101_119, s101_122, s101_124, s101_126, s101_129, s101_130, s101_133, s101_134, K_v, K_0, acI, acA, acJ, acX, List.map_cons, List.map_nil, List.sum_cons, List.sum_nil, true_and, and_true, posT, b2_0, b2_1, bft, true_or, or_true, Nat.zero_le, Nat.reduceAdd, Nat.reduceLeDiff, hI_uI, hL_uI, hR_uI, nx_uI, sl_uI, hI_uL, hL_uL, hR_uL, nx_uL, sl_uL, hI_uR, hL_uR, hR_uR, nx_uR, sl_uR, st_eq, if_true, if_false, eq_self, Nat.reduceEqDiff, Nat.reduceMul, reduceIte, kdT, ixT, w_cl, w_ti, w_s1, w_a, w_m12, w_m8, w_m3, w_m4, a1, hi, w_lt, hro, if_neg n0, kd_X, ln_X]
    simp (disch := first | omega | assumption | decide | (apply bT_; decide)) only [s101_0, s101_1, s101_4, s101_7, s101_8, s101_9, s101_10, s101_11, s101_14, s101_18, s101_19, s101_20, s101_22, s101_23, s101_25, s101_26, s101_30, s101_31, s101_34, s101_37, s101_38, s101_40, s101_43, s101_46, s101_49, s101_50, s101_51, s101_53, s101_54, s101_57, s101_60, s101_63, s101_66, s101_69, s101_70, s101_73, s101_76, s101_78, s101_80, s101_83, s101_84, s101_87, s101_88, s101_89, s101_90, s101_93, s101_96, s101_97, s101_98, s101_100, s101_101, s101_104, s101_107, s101_109, s101_111, s101_114, s101_115, s101_118, s101_119, s101_122, s101_124, s101_126, s101_129, s101_130, s101_133, s101_134, K_v, K_0, acI, acA, acJ, acX, List.map_cons, List.map_nil, List.sum_cons, List.sum_nil, true_and, and_true, posT, b2_0, b2_1, bft, true_or, or_true, Nat.zero_le, Nat.reduceAdd, Nat.reduceLeDiff, hI_uI, hL_uI, hR_uI, nx_uI, sl_uI, hI_uL, hL_uL, hR_uL, nx_uL, sl_uL, hI_uR, hL_uR, hR_uR, nx_uR, sl_uR, st_eq, if_true, if_false, eq_self, Nat.reduceEqDiff, Nat.reduceMul, reduceIte, kdT, ixT, w_cl, w_ti, w_s1, w_a, w_m12, w_m8, w_m3, w_m4, x12, x1, ew, hb, tb, tp, if_neg n1, u1, u2, u3, kd_X, ln_X]
    refine Iff.trans (show V_ xs d 101 28 _ _ _ _ ↔ _ from key na 0 (by omega)) ?_
    rw [s101_69]
    by_cases q10 : knd_ L t = 10
    · have n2 := i10.mpr q10
      rw [if_pos q10]
      by_cases qe : kho_ L t (fun a => env_ F G hp Hd a day) (fun a => had_ hp Hd (Int32.ofNat a)) na = kal_ (fun a => had_ hp Hd (Int32.ofNat a)) na
      · have ne : Int32.ofNat (kho_ L t (fun a => env_ F G hp Hd a day) (fun a => had_ hp Hd (Int32.ofNat a)) na) = Int32.ofNat (kal_ (fun a => had_ hp Hd (Int32.ofNat a)) na) := by rw [qe]
        rw [decide_eq_true qe]
        simp (disch := first | omega | assumption | decide | (apply bT_; decide)) only [s101_0, s101_1, s101_4, s101_7, s101_8, s101_9, s101_10, s101_11, s101_14, s101_17, s101_18, s101_19, s101_20, s101_22, s101_23, s101_25, s101_26, s101_28, s101_30, s101_31, s101_34, s101_37, s101_38, s101_40, s101_43, s101_46, s101_49, s101_50, s101_51, s101_53, s101_54, s101_57, s101_60, s101_63, s101_66, s101_70, s101_73, s101_76, s101_78, s101_80, s101_83, s101_84, s101_88, s101_90, s101_93, s101_96, s101_97, s101_98, s101_100, s101_101, s101_104, s101_107, s101_109, s101_111, s101_114, s101_115, s101_118, s101_119, s101_122, s101_124, s101_126, s101_129, s101_130, s101_133, s101_134, K_v, K_0, acI, acA, acJ, acX, List.map_cons, List.map_nil, List.sum_cons, List.sum_nil, true_and, and_true, posT, b2_0, b2_1, bft, true_or, or_true, Nat.zero_le, Nat.reduceAdd, Nat.reduceLeDiff, hI_uI, hL_uI, hR_uI, nx_uI, sl_uI, hI_uL, hL_uL, hR_uL, nx_uL, sl_uL, hI_uR, hL_uR, hR_uR, nx_uR, sl_uR, st_eq, if_true, if_false, eq_self, Nat.reduceEqDiff, Nat.reduceMul, reduceIte, kdT, ixT, w_cl, w_ti, w_s1, w_a, w_m12, w_m8, w_m3, w_m4, tb, tm, if_pos n2, if_pos ne]
        exact Iff.rfl
      · have ne : ¬ (Int32.ofNat (kho_ L t (fun a => env_ F G hp Hd a day) (fun a => had_ hp Hd (Int32.ofNat a)) na) = Int32.ofNat (kal_ (fun a => had_ hp Hd (Int32.ofNat a)) na)) := fun z => qe ((w_eq (by omega) (by omega)).mp z)
        rw [decide_eq_false qe]
        simp (disch := first | omega | assumption | decide | (apply bT_; decide)) only [s101_0, s101_1, s101_4, s101_7, s101_8, s101_9, s101_10, s101_11, s101_14, s101_17, s101_18, s101_19, s101_20, s101_22, s101_23, s101_25, s101_26, s101_28, s101_30, s101_31, s101_34, s101_37, s101_38, s101_40, s101_43, s101_46, s101_49, s101_50, s101_51, s101_53, s101_54, s101_57, s101_60, s101_63, s101_66, s101_70, s101_73, s101_76, s101_78, s101_80, s101_84, s101_87, s101_88, s101_90, s101_93, s101_96, s101_97, s101_98, s101_100, s101_101, s101_104, s101_107, s101_109, s101_111, s101_114, s101_115, s101_118, s101_119, s101_122, s101_124, s101_126, s101_129, s101_130, s101_133, s101_134, K_v, K_0, acI, acA, acJ, acX, List.map_cons, List.map_nil, List.sum_cons, List.sum_nil, true_and, and_true, posT, b2_0, b2_1, bft, true_or, or_true, Nat.zero_le, Nat.reduceAdd, Nat.reduceLeDiff, hI_uI, hL_uI, hR_uI, nx_uI, sl_uI, hI_uL, hL_uL, hR_uL, nx_uL, sl_uL, hI_uR, hL_uR, hR_uR, nx_uR, sl_uR, st_eq, if_true, if_false, eq_self, Nat.reduceEqDiff, Nat.reduceMul, reduceIte, kdT, ixT, w_cl, w_ti, w_s1, w_a, w_m12, w_m8, w_m3, w_m4, tb, tm, if_pos n2, if_neg ne]
        exact Iff.rfl
    · have n2 : ¬ _ := fun z => q10 (i10.mp z)
      rw [if_neg q10]
      by_cases q11 : knd_ L t = 11
      · have n3 := i11.mpr q11
        rw [if_pos q11]
        by_cases qe : amt_ L t < Int32.ofNat (kho_ L t (fun a => env_ F G hp Hd a day) (fun a => had_ hp Hd (Int32.ofNat a)) na)
        · rw [decide_eq_false (fun z => z qe)]
          simp (disch := first | omega | assumption | decide | (apply bT_; decide)) only [s101_0, s101_1, s101_4, s101_7, s101_8, s101_9, s101_10, s101_11, s101_14, s101_17, s101_18, s101_19, s101_20, s101_22, s101_23, s101_25, s101_26, s101_28, s101_30, s101_31, s101_34, s101_37, s101_38, s101_40, s101_43, s101_46, s101_49, s101_50, s101_51, s101_53, s101_54, s101_57, s101_60, s101_63, s101_66, s101_70, s101_73, s101_78, s101_80, s101_83, s101_84, s101_87, s101_88, s101_89, s101_90, s101_93, s101_96, s101_97, s101_98, s101_100, s101_101, s101_104, s101_107, s101_109, s101_111, s101_115, s101_118, s101_119, s101_124, s101_126, s101_129, s101_130, s101_133, s101_134, K_v, K_0, acI, acA, acJ, acX, List.map_cons, List.map_nil, List.sum_cons, List.sum_nil, true_and, and_true, posT, b2_0, b2_1, bft, true_or, or_true, Nat.zero_le, Nat.reduceAdd, Nat.reduceLeDiff, hI_uI, hL_uI, hR_uI, nx_uI, sl_uI, hI_uL, hL_uL, hR_uL, nx_uL, sl_uL, hI_uR, hL_uR, hR_uR, nx_uR, sl_uR, st_eq, if_true, if_false, eq_self, Nat.reduceEqDiff, Nat.reduceMul, reduceIte, kdT, ixT, w_cl, w_ti, w_s1, w_a, w_m12, w_m8, w_m3, w_m4, x12, x2, en, tb, tm, to, if_neg n2, if_pos n3, if_pos qe, u1, u4, u5, kd_X, ln_X]
          exact Iff.rfl
        · rw [decide_eq_true qe]
          simp (disch := first | omega | assumption | decide | (apply bT_; decide)) only [s101_0, s101_1, s101_4, s101_7, s101_8, s101_9, s101_10, s101_11, s101_14, s101_17, s101_18, s101_19, s101_20, s101_22, s101_23, s101_25, s101_26, s101_28, s101_30, s101_31, s101_34, s101_37, s101_38, s101_40, s101_43, s101_46, s101_49, s101_50, s101_51, s101_53, s101_54, s101_57, s101_60, s101_63, s101_66, s101_70, s101_73, s101_78, s101_80, s101_83, s101_84, s101_87, s101_88, s101_89, s101_90, s101_93, s101_96, s101_97, s101_98, s101_100, s101_101, s101_104, s101_107, s101_109, s101_111, s101_114, s101_115, s101_119, s101_124, s101_126, s101_129, s101_130, s101_133, s101_134, K_v, K_0, acI, acA, acJ, acX, List.map_cons, List.map_nil, List.sum_cons, List.sum_nil, true_and, and_true, posT, b2_0, b2_1, bft, true_or, or_true, Nat.zero_le, Nat.reduceAdd, Nat.reduceLeDiff, hI_uI, hL_uI, hR_uI, nx_uI, sl_uI, hI_uL, hL_uL, hR_uL, nx_uL, sl_uL, hI_uR, hL_uR, hR_uR, nx_uR, sl_uR, st_eq, if_true, if_false, eq_self, Nat.reduceEqDiff, Nat.reduceMul, reduceIte, kdT, ixT, w_cl, w_ti, w_s1, w_a, w_m12, w_m8, w_m3, w_m4, x12, x2, en, tb, tm, to, if_neg n2, if_pos n3, if_neg qe, u1, u4, u5, kd_X, ln_X]
          exact Iff.rfl
      · have n3 : ¬ _ := fun z => q11 (i11.mp z)
        rw [if_neg q11]
        by_cases qe : Int32.ofNat (kho_ L t (fun a => env_ F G hp Hd a day) (fun a => had_ hp Hd (Int32.ofNat a)) na) < amt_ L t
        · rw [decide_eq_false (fun z => z qe)]
          simp (disch := first | omega | assumption | decide | (apply bT_; decide)) only [s101_0, s101_1, s101_4, s101_7, s101_8, s101_9, s101_10, s101_11, s101_14, s101_17, s101_18, s101_19, s101_20, s101_22, s101_23, s101_25, s101_26, s101_28, s101_30, s101_31, s101_34, s101_37, s101_38, s101_40, s101_43, s101_46, s101_49, s101_50, s101_51, s101_53, s101_54, s101_57, s101_60, s101_63, s101_66, s101_70, s101_73, s101_78, s101_80, s101_83, s101_84, s101_87, s101_88, s101_89, s101_90, s101_93, s101_96, s101_97, s101_98, s101_100, s101_101, s101_104, s101_109, s101_111, s101_114, s101_115, s101_118, s101_119, s101_122, s101_124, s101_126, s101_130, s101_133, s101_134, K_v, K_0, acI, acA, acJ, acX, List.map_cons, List.map_nil, List.sum_cons, List.sum_nil, true_and, and_true, posT, b2_0, b2_1, bft, true_or, or_true, Nat.zero_le, Nat.reduceAdd, Nat.reduceLeDiff, hI_uI, hL_uI, hR_uI, nx_uI, sl_uI, hI_uL, hL_uL, hR_uL, nx_uL, sl_uL, hI_uR, hL_uR, hR_uR, nx_uR, sl_uR, st_eq, if_true, if_false, eq_self, Nat.reduceEqDiff, Nat.reduceMul, reduceIte, kdT, ixT, w_cl, w_ti, w_s1, w_a, w_m12, w_m8, w_m3, w_m4, x12, x2, en, tb, tm, to, if_neg n2, if_neg n3, if_pos qe, u1, u4, u5, kd_X, ln_X]
          exact Iff.rfl
        · rw [decide_eq_true qe]
          simp (disch := first | omega | assumption | decide | (apply bT_; decide)) only [s101_0, s101_1, s101_4, s101_7, s101_8, s101_9, s101_10, s101_11, s101_14, s101_17, s101_18, s101_19, s101_20, s101_22, s101_23, s101_25, s101_26, s101_28, s101_30, s101_31, s101_34, s101_37, s101_38, s101_40, s101_43, s101_46, s101_49, s101_50, s101_51, s101_53, s101_54, s101_57, s101_60, s101_63, s101_66, s101_70, s101_73, s101_78, s101_80, s101_83, s101_84, s101_87, s101_88, s101_89, s101_90, s101_93, s101_96, s101_97, s101_98, s101_100, s101_101, s101_104, s101_109, s101_111, s101_114, s101_115, s101_118, s101_119, s101_122, s101_124, s101_126, s101_129, s101_130, s101_134, K_v, K_0, acI, acA, acJ, acX, List.map_cons, List.map_nil, List.sum_cons, List.sum_nil, true_and, and_true, posT, b2_0, b2_1, bft, true_or, or_true, Nat.zero_le, Nat.reduceAdd, Nat.reduceLeDiff, hI_uI, hL_uI, hR_uI, nx_uI, sl_uI, hI_uL, hL_uL, hR_uL, nx_uL, sl_uL, hI_uR, hL_uR, hR_uR, nx_uR, sl_uR, st_eq, if_true, if_false, eq_self, Nat.reduceEqDiff, Nat.reduceMul, reduceIte, kdT, ixT, w_cl, w_ti, w_s1, w_a, w_m12, w_m8, w_m3, w_m4, x12, x2, en, tb, tm, to, if_neg n2, if_neg n3, if_neg qe, u1, u4, u5, kd_X, ln_X]
          exact Iff.rfl
end CMY
