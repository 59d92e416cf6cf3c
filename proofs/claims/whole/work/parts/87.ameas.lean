/-! the years between two days -/
theorem l_bm {x : Int} (h1 : -9223372036854775808 ≤ x) (h2 : x < 9223372036854775808) : x.bmod (2 ^ 64) = x := by
  rw [Int.bmod_def]
  split <;> omega
theorem td_le {D : Int} (h1 : -4294967296 ≤ D) (h2 : D ≤ 4294967296) : -4294967296 ≤ D.tdiv 365 ∧ D.tdiv 365 ≤ 4294967296 ∧ D.tdiv 365 * 365 ≤ 4294967296 ∧ -4294967296 ≤ D.tdiv 365 * 365 := by
  by_cases q : 0 ≤ D
  · rw [Int.tdiv_eq_ediv_of_nonneg q]
    omega
  · have : D.tdiv 365 = -((-D).tdiv 365) := by rw [Int.neg_tdiv]; omega
    rw [this, Int.tdiv_eq_ediv_of_nonneg (show 0 ≤ -D by omega)]
    omega
theorem l_div {x : Int64} {D : Int} (hx : x.toInt = D) (h1 : -4294967296 ≤ D) (h2 : D ≤ 4294967296) : (x / 365).toInt = D.tdiv 365 := by
  have := td_le h1 h2
  rw [Int64.toInt_div, hx, show (365 : Int64).toInt = 365 from rfl, l_bm (by omega) (by omega)]
theorem l_xor {x : Int64} : (x ^^^ 365).toInt < 0 ↔ x.toInt < 0 := by
  have e : (x ^^^ 365).toBitVec.msb = x.toBitVec.msb := by
    show (x.toBitVec ^^^ (365 : Int64).toBitVec).msb = _
    rw [BitVec.msb_xor, show (365 : Int64).toBitVec.msb = false from by decide, Bool.xor_false]
  have h1 := BitVec.msb_eq_toInt (x := (x ^^^ 365).toBitVec)
  have h2 := BitVec.msb_eq_toInt (x := x.toBitVec)
  rw [e, h2] at h1
  have := decide_eq_decide.mp h1
  exact this.symm
section YRS
variable {xs : Nat → Int32} {d : Nat} {h : AH} {Q : OU_ → AH → Prop}
theorem c_floorDiv {x : Int64} {D : Int} (hx : x.toInt = D) (h1 : -4294967296 ≤ D) (h2 : D ≤ 4294967296) : ∃ y : Int64, y.toInt = D / 365 ∧ ∀ Q, V_ xs d 182 0 [vJ x, vX 0, vJ 365, vX 0, vX 0, vX 0] [] h Q ↔ Q (some (some (vJ y))) h := by
  have hq := l_div hx h1 h2
  have hb := td_le h1 h2
  have n365 : ¬ ((365 : Int64) = 0) := by decide
  have hmul : (x / 365 * 365).toInt = D.tdiv 365 * 365 := by
    rw [Int64.toInt_mul, hq, show (365 : Int64).toInt = 365 from rfl, l_bm (by omega) (by omega)]
  have hx0 : lg_cmp (x ^^^ 365) 0 < 0 ↔ D < 0 := by rw [lc_lt, show (0 : Int64).toInt = 0 from rfl, l_xor, hx]
  have hm0 : lg_cmp (x / 365 * 365) x = 0 ↔ D.tdiv 365 * 365 = D := by rw [lgd_0, ← Int64.toInt_inj, hmul, hx]
  by_cases q1 : D < 0
  · have c1 := hx0.mpr q1
    have htd : D.tdiv 365 = -((-D) / 365) := by
      have : D.tdiv 365 = -((-D).tdiv 365) := by rw [Int.neg_tdiv]; omega
      rw [this, Int.tdiv_eq_ediv_of_nonneg (show 0 ≤ -D by omega)]
    by_cases q2 : D.tdiv 365 * 365 = D
    · have c2 := hm0.mpr q2
      refine ⟨x / 365, by rw [hq]; omega, fun Q => ?_⟩
      simp (disch := first | omega | assumption | decide | (apply bT_; decide)) only [s182_0, s182_1, s182_2, s182_3, s182_5, s182_6, s182_7, s182_8, s182_9, s182_10, s182_13, s182_15, s182_16, s182_17, s182_18, s182_19, s182_24, s182_25, s182_26, s182_27, s182_29, K_v, K_0, acI, acA, acJ, acX, List.map_cons, List.map_nil, List.sum_cons, List.sum_nil, true_and, and_true, posT, b2_0, b2_1, bft, true_or, or_true, Nat.zero_le, Nat.reduceAdd, Nat.reduceLeDiff, hI_uI, hL_uI, hR_uI, nx_uI, sl_uI, hI_uL, hL_uL, hR_uL, nx_uL, sl_uL, hI_uR, hL_uR, hR_uR, nx_uR, sl_uR, st_eq, if_true, if_false, eq_self, Nat.reduceEqDiff, Nat.reduceMul, reduceIte, kdT, ixT, w_cl, w_ti, w_s1, w_a, w_m12, w_m8, w_m3, w_m4, n365, c1, c2]
    · have c2 : ¬ _ := fun z => q2 (hm0.mp z)
      refine ⟨x / 365 - 1, ?_, fun Q => ?_⟩
      · rw [Int64.toInt_sub, hq, show (1 : Int64).toInt = 1 from rfl, l_bm (by omega) (by omega)]
        omega
      · simp (disch := first | omega | assumption | decide | (apply bT_; decide)) only [s182_0, s182_1, s182_2, s182_3, s182_5, s182_6, s182_7, s182_8, s182_9, s182_10, s182_13, s182_15, s182_16, s182_17, s182_18, s182_19, s182_22, s182_24, s182_25, s182_26, s182_29, K_v, K_0, acI, acA, acJ, acX, List.map_cons, List.map_nil, List.sum_cons, List.sum_nil, true_and, and_true, posT, b2_0, b2_1, bft, true_or, or_true, Nat.zero_le, Nat.reduceAdd, Nat.reduceLeDiff, hI_uI, hL_uI, hR_uI, nx_uI, sl_uI, hI_uL, hL_uL, hR_uL, nx_uL, sl_uL, hI_uR, hL_uR, hR_uR, nx_uR, sl_uR, st_eq, if_true, if_false, eq_self, Nat.reduceEqDiff, Nat.reduceMul, reduceIte, kdT, ixT, w_cl, w_ti, w_s1, w_a, w_m12, w_m8, w_m3, w_m4, n365, c1, c2]
  · have c1 : ¬ _ := fun z => q1 (hx0.mp z)
    refine ⟨x / 365, by rw [hq, Int.tdiv_eq_ediv_of_nonneg (by omega)], fun Q => ?_⟩
    simp (disch := first | omega | assumption | decide | (apply bT_; decide)) only [s182_0, s182_1, s182_2, s182_3, s182_5, s182_6, s182_7, s182_8, s182_9, s182_10, s182_15, s182_16, s182_17, s182_18, s182_19, s182_22, s182_24, s182_25, s182_26, s182_27, s182_29, K_v, K_0, acI, acA, acJ, acX, List.map_cons, List.map_nil, List.sum_cons, List.sum_nil, true_and, and_true, posT, b2_0, b2_1, bft, true_or, or_true, Nat.zero_le, Nat.reduceAdd, Nat.reduceLeDiff, hI_uI, hL_uI, hR_uI, nx_uI, sl_uI, hI_uL, hL_uL, hR_uL, nx_uL, sl_uL, hI_uR, hL_uR, hR_uR, nx_uR, sl_uR, st_eq, if_true, if_false, eq_self, Nat.reduceEqDiff, Nat.reduceMul, reduceIte, kdT, ixT, w_cl, w_ti, w_s1, w_a, w_m12, w_m8, w_m3, w_m4, n365, c1]
theorem c_downwards {x : Int64} {D : Int} (hx : x.toInt = D) (h1 : -4294967296 ≤ D) (h2 : D ≤ 4294967296) : ∃ y : Int64, y.toInt = D / 365 ∧ ∀ Q, V_ xs d 161 0 [vJ x, vX 0] [] h Q ↔ Q (some (some (vJ y))) h := by
  have n365 : ¬ ((365 : Int64) = 0) := by decide
  have hx0 : lg_cmp x 0 < 0 ↔ D < 0 := by rw [lc_lt, show (0 : Int64).toInt = 0 from rfl, hx]
  by_cases q1 : D < 0
  · have c1 := hx0.mpr q1
    have hs : (364 - x).toInt = 364 - D := by rw [Int64.toInt_sub, hx, show (364 : Int64).toInt = 364 from rfl, l_bm (by omega) (by omega)]
    have hq : ((364 - x) / 365).toInt = (364 - D) / 365 := by
      rw [Int64.toInt_div, hs, show (365 : Int64).toInt = 365 from rfl, Int.tdiv_eq_ediv_of_nonneg (by omega), l_bm (by omega) (by omega)]
    refine ⟨-((364 - x) / 365), ?_, fun Q => ?_⟩
    · rw [Int64.toInt_neg, hq, l_bm (by omega) (by omega)]
      omega
    · simp (disch := first | omega | assumption | decide | (apply bT_; decide)) only [s161_0, s161_1, s161_2, s161_3, s161_7, s161_10, s161_11, s161_14, s161_17, s161_18, s161_19, s161_22, s161_23, s161_24, K_v, K_0, acI, acA, acJ, acX, List.map_cons, List.map_nil, List.sum_cons, List.sum_nil, true_and, and_true, posT, b2_0, b2_1, bft, true_or, or_true, Nat.zero_le, Nat.reduceAdd, Nat.reduceLeDiff, hI_uI, hL_uI, hR_uI, nx_uI, sl_uI, hI_uL, hL_uL, hR_uL, nx_uL, sl_uL, hI_uR, hL_uR, hR_uR, nx_uR, sl_uR, st_eq, if_true, if_false, eq_self, Nat.reduceEqDiff, Nat.reduceMul, reduceIte, kdT, ixT, w_cl, w_ti, w_s1, w_a, w_m12, w_m8, w_m3, w_m4, n365, c1]
  · have c1 : ¬ _ := fun z => q1 (hx0.mp z)
    refine ⟨x / 365, by rw [l_div hx h1 h2, Int.tdiv_eq_ediv_of_nonneg (by omega)], fun Q => ?_⟩
    simp (disch := first | omega | assumption | decide | (apply bT_; decide)) only [s161_0, s161_1, s161_2, s161_3, s161_6, s161_7, s161_10, s161_11, s161_17, s161_18, s161_19, s161_22, s161_23, s161_24, K_v, K_0, acI, acA, acJ, acX, List.map_cons, List.map_nil, List.sum_cons, List.sum_nil, true_and, and_true, posT, b2_0, b2_1, bft, true_or, or_true, Nat.zero_le, Nat.reduceAdd, Nat.reduceLeDiff, hI_uI, hL_uI, hR_uI, nx_uI, sl_uI, hI_uL, hL_uL, hR_uL, nx_uL, sl_uL, hI_uR, hL_uR, hR_uR, nx_uR, sl_uR, st_eq, if_true, if_false, eq_self, Nat.reduceEqDiff, Nat.reduceMul, reduceIte, kdT, ixT, w_cl, w_ti, w_s1, w_a, w_m12, w_m8, w_m3, w_m4, n365, c1]
end YRS
def yb_ (from' day : Int32) : Int := (day.toInt - from'.toInt) / 365
section YR2
variable {xs : Nat → Int32} {d : Nat} {h : AH} {Q : OU_ → AH → Prop} {a b : Int32}
theorem l_df : (b.toInt64 - a.toInt64).toInt = b.toInt - a.toInt ∧ -4294967296 ≤ b.toInt - a.toInt ∧ b.toInt - a.toInt ≤ 4294967296 := by
  have h1 := a.toInt_lt
  have h2 := b.toInt_lt
  have h3 := a.le_toInt
  have h4 := b.le_toInt
  refine ⟨?_, by omega, by omega⟩
  rw [Int64.toInt_sub, Int32.toInt_toInt64, Int32.toInt_toInt64, l_bm (by omega) (by omega)]
theorem yb_ti : (Int32.ofInt (yb_ a b)).toInt = yb_ a b := by
  have := l_df (a := a) (b := b)
  unfold yb_
  rw [Int32.toInt_ofInt, show Int32.size = 4294967296 from rfl, Int.bmod_def]
  split <;> omega
theorem c_years (hd : 1 ≤ d) : V_ xs d 105 0 [vI a, vI b] [] h Q ↔ Q (some (some (vI (Int32.ofInt (yb_ a b))))) h := by
  obtain ⟨h1, h2, h3⟩ := l_df (a := a) (b := b)
  obtain ⟨y, hy, hV⟩ := c_floorDiv (xs := xs) (d := d - 1) (h := h) h1 h2 h3
  have e : y.toInt32 = Int32.ofInt (yb_ a b) := by
    show _ = Int32.ofInt ((b.toInt - a.toInt) / 365)
    rw [← hy, Int32.ofInt_int64ToInt]
  simp (disch := first | omega | assumption | decide | (apply bT_; decide)) only [s105_0, s105_1, s105_2, s105_3, s105_4, s105_5, s105_8, s105_11, s105_12, K_v, K_0, acI, acA, acJ, acX, List.map_cons, List.map_nil, List.sum_cons, List.sum_nil, true_and, and_true, posT, b2_0, b2_1, bft, true_or, or_true, Nat.zero_le, Nat.reduceAdd, Nat.reduceLeDiff, hI_uI, hL_uI, hR_uI, nx_uI, sl_uI, hI_uL, hL_uL, hR_uL, nx_uL, sl_uL, hI_uR, hL_uR, hR_uR, nx_uR, sl_uR, st_eq, if_true, if_false, eq_self, Nat.reduceEqDiff, Nat.reduceMul, reduceIte, kdT, ixT, w_cl, w_ti, w_s1, w_a, w_m12, w_m8, w_m3, w_m4, hV, e]
end YR2
/-! what is measured of an actor -/
def mea_ (F G : Nat → Nat → Int32) (hp : Option Nat) (Hd : Nat → Int32) (a : Nat) (day : Int32) (w : Nat) : Int32 := if w = 0 then Int32.ofInt (yb_ (F a 1) day) else if w = 1 then Int32.ofInt (yb_ (F a 2) day) else if w = 2 then F a 0 else if w = 3 then gre_ G a else if w = 4 then F a 3 else if w = 5 then F a 4 else if w = 6 then Int32.ofNat (had_ hp Hd (Int32.ofNat a)) else 0
theorem mea_0 {F G : Nat → Nat → Int32} {hp : Option Nat} {Hd : Nat → Int32} {a : Nat} {day : Int32} : mea_ F G hp Hd a day 0 = Int32.ofInt (yb_ (F a 1) day) := by
  unfold mea_
  simp
theorem mea_1 {F G : Nat → Nat → Int32} {hp : Option Nat} {Hd : Nat → Int32} {a : Nat} {day : Int32} : mea_ F G hp Hd a day 1 = Int32.ofInt (yb_ (F a 2) day) := by
  unfold mea_
  simp
theorem mea_2 {F G : Nat → Nat → Int32} {hp : Option Nat} {Hd : Nat → Int32} {a : Nat} {day : Int32} : mea_ F G hp Hd a day 2 = F a 0 := by
  unfold mea_
  simp
theorem mea_3 {F G : Nat → Nat → Int32} {hp : Option Nat} {Hd : Nat → Int32} {a : Nat} {day : Int32} : mea_ F G hp Hd a day 3 = gre_ G a := by
  unfold mea_
  simp
theorem mea_4 {F G : Nat → Nat → Int32} {hp : Option Nat} {Hd : Nat → Int32} {a : Nat} {day : Int32} : mea_ F G hp Hd a day 4 = F a 3 := by
  unfold mea_
  simp
theorem mea_5 {F G : Nat → Nat → Int32} {hp : Option Nat} {Hd : Nat → Int32} {a : Nat} {day : Int32} : mea_ F G hp Hd a day 5 = F a 4 := by
  unfold mea_
  simp
theorem mea_6 {F G : Nat → Nat → Int32} {hp : Option Nat} {Hd : Nat → Int32} {a : Nat} {day : Int32} : mea_ F G hp Hd a day 6 = Int32.ofNat (had_ hp Hd (Int32.ofNat a)) := by
  unfold mea_
  simp
/-- the same cast at hand -/
def HC_ (hp : Option Nat) (Hd : Nat → Int32) (c : Nat) : Prop := c < 9223372036854775808 ∧ OC_ c (if hp = none then 0 else 8) Hd
section CME
variable {xs : Nat → Int32} {d : Nat} {h : AH} {Q : OU_ → AH → Prop} {na : Nat} {sa : Nat → Nat} {F G : Nat → Nat → Int32} {hp : Option Nat} {Hd : Nat → Int32} {c a : Nat}
theorem hd_none (hO : HC_ none Hd c) : ∀ r, r < 8 → Hd r = -1 := fun r hr => by
  have := hO.2.2 r
  rw [if_pos rfl] at this
  exact this (Nat.zero_le _) hr
theorem c_rolesOf (hCH : CH_ hp (Int64.ofNat c) h) (hO : HC_ hp Hd c) (ha : a < 12) (hd : 2 ≤ d) : V_ xs d 99 0 [vA (some 25165831), vI (Int32.ofNat a), vX 0, vX 0] [] h Q ↔ Q (some (some (vI (Int32.ofNat (had_ hp Hd (Int32.ofNat a)))))) h := by
  have h6 := hCH.2
  have hct : ∀ n, n ≤ 8 → it_ (ctb_ (fun r => decide (Hd r = Int32.ofNat a))) n 0 0 ≤ n := by
    intro n
    induction n with
    | zero => intro _; exact Nat.le_refl _
    | succ n ih =>
      intro hn
      rw [it_sn]
      have := ih (by omega)
      unfold ctb_ at this ⊢
      split <;> omega
  have hh : had_ hp Hd (Int32.ofNat a) = it_ (ctb_ (fun r => decide (Hd r = Int32.ofNat a))) 8 0 0 := by
    cases hp with
    | some p => rfl
    | none =>
      have hno := hd_none hO
      show 0 = _
      have : ∀ n, n ≤ 8 → it_ (ctb_ (fun r => decide (Hd r = Int32.ofNat a))) n 0 0 = 0 := by
        intro n
        induction n with
        | zero => intro _; rfl
        | succ n ih =>
          intro hn
          rw [it_sn, ih (by omega), Nat.zero_add]
          have hne : ∀ a, a < 12 → ¬ ((-1 : Int32) = Int32.ofNat a) := by decide +kernel
          exact if_neg (fun z => hne a ha (by rw [← hno n (by omega)]; exact of_decide_eq_true z))
      exact (this 8 (Nat.le_refl _)).symm
  have key : ∀ (k i : Nat), i + k = 8 → (V_ xs d 99 4 [vA (some 25165831), vI (Int32.ofNat a), vI (Int32.ofNat (it_ (ctb_ (fun r => decide (Hd r = Int32.ofNat a))) i 0 0)), vI (Int32.ofNat i)] [] h Q ↔ Q (some (some (vI (Int32.ofNat (it_ (ctb_ (fun r => decide (Hd r = Int32.ofNat a))) 8 0 0))))) h) := by
    intro k
    induction k with
    | zero =>
      intro i hi
      have e : i = 8 := by omega
      have nl : ¬ (Int32.ofNat 8 < 8) := by decide
      rw [e, s99_4]
      simp (disch := first | omega | assumption | decide | (apply bT_; decide)) only [s99_0, s99_1, s99_2, s99_3, s99_5, s99_7, s99_11, s99_14, s99_15, s99_18, s99_19, s99_22, s99_25, s99_28, s99_31, s99_32, K_v, K_0, acI, acA, acJ, acX, List.map_cons, List.map_nil, List.sum_cons, List.sum_nil, true_and, and_true, posT, b2_0, b2_1, bft, true_or, or_true, Nat.zero_le, Nat.reduceAdd, Nat.reduceLeDiff, hI_uI, hL_uI, hR_uI, nx_uI, sl_uI, hI_uL, hL_uL, hR_uL, nx_uL, sl_uL, hI_uR, hL_uR, hR_uR, nx_uR, sl_uR, st_eq, if_true, if_false, eq_self, Nat.reduceEqDiff, Nat.reduceMul, reduceIte, kdT, ixT, w_cl, w_ti, w_s1, w_a, w_m12, w_m8, w_m3, w_m4, nl]
    | succ k ih =>
      intro i hi
      have l8 : Int32.ofNat i < 8 := (w_lt (b := 8) (by omega) (by omega)).mpr (by omega)
      have hai := ain_oc hO.1 hO.2 (r := i) (by omega)
      have hac := fun Q => c_actorIn (xs := xs) (d := d - 1) (h := h) (Q := Q) (a := Int64.ofNat c) (r := Int32.ofNat i) (by omega)
      rw [hai] at hac
      have es := it_sn (ctb_ (fun r => decide (Hd r = Int32.ofNat a))) i 0 0
      rw [Nat.zero_add] at es
      rw [← ih (i + 1) (by omega), es, s99_4]
      by_cases q : Hd i = Int32.ofNat a
      · have e1 : ctb_ (fun r => decide (Hd r = Int32.ofNat a)) i (it_ (ctb_ (fun r => decide (Hd r = Int32.ofNat a))) i 0 0) = it_ (ctb_ (fun r => decide (Hd r = Int32.ofNat a))) i 0 0 + 1 := if_pos (decide_eq_true q)
        rw [e1]
        simp (disch := first | omega | assumption | decide | (apply bT_; decide)) only [s99_0, s99_1, s99_2, s99_3, s99_5, s99_7, s99_10, s99_11, s99_14, s99_15, s99_18, s99_19, s99_22, s99_25, s99_28, s99_32, K_v, K_0, acI, acA, acJ, acX, List.map_cons, List.map_nil, List.sum_cons, List.sum_nil, true_and, and_true, posT, b2_0, b2_1, bft, true_or, or_true, Nat.zero_le, Nat.reduceAdd, Nat.reduceLeDiff, hI_uI, hL_uI, hR_uI, nx_uI, sl_uI, hI_uL, hL_uL, hR_uL, nx_uL, sl_uL, hI_uR, hL_uR, hR_uR, nx_uR, sl_uR, st_eq, if_true, if_false, eq_self, Nat.reduceEqDiff, Nat.reduceMul, reduceIte, kdT, ixT, w_cl, w_ti, w_s1, w_a, w_m12, w_m8, w_m3, w_m4, l8, h6, hac, if_pos q, kd_X, ln_X]
      · have e1 : ctb_ (fun r => decide (Hd r = Int32.ofNat a)) i (it_ (ctb_ (fun r => decide (Hd r = Int32.ofNat a))) i 0 0) = it_ (ctb_ (fun r => decide (Hd r = Int32.ofNat a))) i 0 0 := if_neg (fun z => q (of_decide_eq_true z))
        rw [e1]
        simp (disch := first | omega | assumption | decide | (apply bT_; decide)) only [s99_0, s99_1, s99_2, s99_3, s99_5, s99_7, s99_10, s99_11, s99_14, s99_15, s99_18, s99_19, s99_25, s99_28, s99_32, K_v, K_0, acI, acA, acJ, acX, List.map_cons, List.map_nil, List.sum_cons, List.sum_nil, true_and, and_true, posT, b2_0, b2_1, bft, true_or, or_true, Nat.zero_le, Nat.reduceAdd, Nat.reduceLeDiff, hI_uI, hL_uI, hR_uI, nx_uI, sl_uI, hI_uL, hL_uL, hR_uL, nx_uL, sl_uL, hI_uR, hL_uR, hR_uR, nx_uR, sl_uR, st_eq, if_true, if_false, eq_self, Nat.reduceEqDiff, Nat.reduceMul, reduceIte, kdT, ixT, w_cl, w_ti, w_s1, w_a, w_m12, w_m8, w_m3, w_m4, l8, h6, hac, if_neg q, kd_X, ln_X]
  rw [hh]
  simp (disch := first | omega | assumption | decide | (apply bT_; decide)) only [s99_0, s99_1, s99_2, s99_3, s99_5, s99_7, s99_10, s99_11, s99_14, s99_15, s99_18, s99_19, s99_22, s99_25, s99_28, s99_31, s99_32, K_v, K_0, acI, acA, acJ, acX, List.map_cons, List.map_nil, List.sum_cons, List.sum_nil, true_and, and_true, posT, b2_0, b2_1, bft, true_or, or_true, Nat.zero_le, Nat.reduceAdd, Nat.reduceLeDiff, hI_uI, hL_uI, hR_uI, nx_uI, sl_uI, hI_uL, hL_uL, hR_uL, nx_uL, sl_uL, hI_uR, hL_uR, hR_uR, nx_uR, sl_uR, st_eq, if_true, if_false, eq_self, Nat.reduceEqDiff, Nat.reduceMul, reduceIte, kdT, ixT, w_cl, w_ti, w_s1, w_a, w_m12, w_m8, w_m3, w_m4]
  exact key 8 0 (by omega)
theorem c_measure {day : Int32} {w : Nat} (hC : CS_ h) (hA : CA_ na sa F G h) (hCH : CH_ hp (Int64.ofNat c) h) (hO : HC_ hp Hd c) (hg : ∀ i, i < na → (F i 3 = 0 ∨ F i 3 = 1) ∧ (F i 4 = 0 ∨ F i 4 = 1)) (ha : a < na) (hw : w < 7) (hd : 3 ≤ d) : V_ xs d 104 0 [vA (some 25165831), vI (Int32.ofNat a), vI day, vI (Int32.ofNat w), vX 0] [] h Q ↔ Q (some (some (vI (mea_ F G hp Hd a day w)))) h := by
  obtain ⟨g1, g2, g3, g4, g5, g6, g7⟩ := id hA
  have hat : aat_ na sa (Int32.ofNat a) = some (mk_ (sa a) 0 0) := by
    unfold aat_
    rw [w_ti (by omega), w_cl (by omega), if_pos (by omega)]
  have hk0 : kd_ (mk_ (sa a) 0 0) = 0 := kd_mk (by omega)
  have f0 := g5 a 0 ha (by omega)
  have f1 := g5 a 1 ha (by omega)
  have f2 := g5 a 2 ha (by omega)
  have f3 := g5 a 3 ha (by omega)
  have f4 := g5 a 4 ha (by omega)
  have k10 : ¬ ((1 : Int32) = 0) := by decide
  have hro := fun Q => c_rolesOf (xs := xs) (d := d - 1) (Q := Q) (a := a) hCH hO (by omega) (by omega)
  have hgr := fun Q => c_greatest (xs := xs) (d := d - 1) (Q := Q) hA ha (by omega)
  rcases (show w = 0 ∨ w = 1 ∨ w = 2 ∨ w = 3 ∨ w = 4 ∨ w = 5 ∨ w = 6 by omega) with z | z | z | z | z | z | z
  all_goals subst z
  · have e0 : Int32.ofNat 0 = 0 := rfl
    rw [mea_0]
    simp (disch := first | omega | assumption | decide | (apply bT_; decide)) only [s104_0, s104_1, s104_2, s104_5, s104_7, s104_9, s104_12, s104_13, s104_14, s104_15_0, s104_15_1, s104_15_2, s104_15_3, s104_15_4, s104_15_5, s104_15_6, s104_15_d, s104_56, s104_58, s104_61, s104_62, s104_65, s104_66, s104_68, s104_71, s104_72, s104_75, s104_76, s104_78, s104_81, s104_82, s104_84, s104_87, s104_88, s104_90, s104_93, s104_96, s104_97, s104_100, s104_101, s104_102, s104_104, s104_107, s104_110, s104_111, s104_114, s104_115, s104_116, s104_117, s104_118, s104_121, s104_122, s104_123, K_v, K_0, acI, acA, acJ, acX, List.map_cons, List.map_nil, List.sum_cons, List.sum_nil, true_and, and_true, posT, b2_0, b2_1, bft, true_or, or_true, Nat.zero_le, Nat.reduceAdd, Nat.reduceLeDiff, hI_uI, hL_uI, hR_uI, nx_uI, sl_uI, hI_uL, hL_uL, hR_uL, nx_uL, sl_uL, hI_uR, hL_uR, hR_uR, nx_uR, sl_uR, st_eq, if_true, if_false, eq_self, Nat.reduceEqDiff, Nat.reduceMul, reduceIte, kdT, ixT, w_cl, w_ti, w_s1, w_a, w_m12, w_m8, w_m3, w_m4, c_actorAt hC hA, hat, hk0, f1, c_years, e0, reduceCtorEq]
  · have e0 : Int32.ofNat 1 = 1 := rfl
    rw [mea_1]
    simp (disch := first | omega | assumption | decide | (apply bT_; decide)) only [s104_0, s104_1, s104_2, s104_5, s104_7, s104_9, s104_12, s104_13, s104_14, s104_15_0, s104_15_1, s104_15_2, s104_15_3, s104_15_4, s104_15_5, s104_15_6, s104_15_d, s104_56, s104_58, s104_61, s104_62, s104_65, s104_66, s104_68, s104_71, s104_72, s104_75, s104_76, s104_78, s104_81, s104_82, s104_84, s104_87, s104_88, s104_90, s104_93, s104_96, s104_97, s104_100, s104_101, s104_102, s104_104, s104_107, s104_110, s104_111, s104_114, s104_115, s104_116, s104_117, s104_118, s104_121, s104_122, s104_123, K_v, K_0, acI, acA, acJ, acX, List.map_cons, List.map_nil, List.sum_cons, List.sum_nil, true_and, and_true, posT, b2_0, b2_1, bft, true_or, or_true, Nat.zero_le, Nat.reduceAdd, Nat.reduceLeDiff, hI_uI, hL_uI, hR_uI, nx_uI, sl_uI, hI_uL, hL_uL, hR_uL, nx_uL, sl_uL, hI_uR, hL_uR, hR_uR, nx_uR, sl_uR, st_eq, if_true, if_false, eq_self, Nat.reduceEqDiff, Nat.reduceMul, reduceIte, kdT, ixT, w_cl, w_ti, w_s1, w_a, w_m12, w_m8, w_m3, w_m4, c_actorAt hC hA, hat, hk0, f2, c_years, e0, reduceCtorEq]
  · have e0 : Int32.ofNat 2 = 2 := rfl
    rw [mea_2]
    simp (disch := first | omega | assumption | decide | (apply bT_; decide)) only [s104_0, s104_1, s104_2, s104_5, s104_7, s104_9, s104_12, s104_13, s104_14, s104_15_0, s104_15_1, s104_15_2, s104_15_3, s104_15_4, s104_15_5, s104_15_6, s104_15_d, s104_56, s104_58, s104_61, s104_62, s104_65, s104_66, s104_68, s104_71, s104_72, s104_75, s104_76, s104_78, s104_81, s104_82, s104_84, s104_87, s104_88, s104_90, s104_93, s104_96, s104_97, s104_100, s104_101, s104_102, s104_104, s104_107, s104_110, s104_111, s104_114, s104_115, s104_116, s104_117, s104_118, s104_121, s104_122, s104_123, K_v, K_0, acI, acA, acJ, acX, List.map_cons, List.map_nil, List.sum_cons, List.sum_nil, true_and, and_true, posT, b2_0, b2_1, bft, true_or, or_true, Nat.zero_le, Nat.reduceAdd, Nat.reduceLeDiff, hI_uI, hL_uI, hR_uI, nx_uI, sl_uI, hI_uL, hL_uL, hR_uL, nx_uL, sl_uL, hI_uR, hL_uR, hR_uR, nx_uR, sl_uR, st_eq, if_true, if_false, eq_self, Nat.reduceEqDiff, Nat.reduceMul, reduceIte, kdT, ixT, w_cl, w_ti, w_s1, w_a, w_m12, w_m8, w_m3, w_m4, c_actorAt hC hA, hat, hk0, f0, e0, reduceCtorEq]
  · have e0 : Int32.ofNat 3 = 3 := rfl
    rw [mea_3]
    simp (disch := first | omega | assumption | decide | (apply bT_; decide)) only [s104_0, s104_1, s104_2, s104_5, s104_7, s104_9, s104_12, s104_13, s104_14, s104_15_0, s104_15_1, s104_15_2, s104_15_3, s104_15_4, s104_15_5, s104_15_6, s104_15_d, s104_56, s104_58, s104_61, s104_62, s104_65, s104_66, s104_68, s104_71, s104_72, s104_75, s104_76, s104_78, s104_81, s104_82, s104_84, s104_87, s104_88, s104_90, s104_93, s104_96, s104_97, s104_100, s104_101, s104_102, s104_104, s104_107, s104_110, s104_111, s104_114, s104_115, s104_116, s104_117, s104_118, s104_121, s104_122, s104_123, K_v, K_0, acI, acA, acJ, acX, List.map_cons, List.map_nil, List.sum_cons, List.sum_nil, true_and, and_true, posT, b2_0, b2_1, bft, true_or, or_true, Nat.zero_le, Nat.reduceAdd, Nat.reduceLeDiff, hI_uI, hL_uI, hR_uI, nx_uI, sl_uI, hI_uL, hL_uL, hR_uL, nx_uL, sl_uL, hI_uR, hL_uR, hR_uR, nx_uR, sl_uR, st_eq, if_true, if_false, eq_self, Nat.reduceEqDiff, Nat.reduceMul, reduceIte, kdT, ixT, w_cl, w_ti, w_s1, w_a, w_m12, w_m8, w_m3, w_m4, c_actorAt hC hA, hat, hk0, hgr, e0, reduceCtorEq]
  · have e0 : Int32.ofNat 4 = 4 := rfl
    rw [mea_4]
    rcases (hg a ha).1 with y | y
    · rw [y] at f3 ⊢
      simp (disch := first | omega | assumption | decide | (apply bT_; decide)) only [s104_0, s104_1, s104_2, s104_5, s104_7, s104_9, s104_12, s104_13, s104_14, s104_15_0, s104_15_1, s104_15_2, s104_15_3, s104_15_4, s104_15_5, s104_15_6, s104_15_d, s104_56, s104_58, s104_61, s104_62, s104_65, s104_66, s104_68, s104_71, s104_72, s104_75, s104_76, s104_78, s104_81, s104_82, s104_84, s104_87, s104_88, s104_90, s104_93, s104_96, s104_97, s104_100, s104_101, s104_102, s104_104, s104_107, s104_110, s104_111, s104_114, s104_115, s104_116, s104_117, s104_118, s104_121, s104_122, s104_123, K_v, K_0, acI, acA, acJ, acX, List.map_cons, List.map_nil, List.sum_cons, List.sum_nil, true_and, and_true, posT, b2_0, b2_1, bft, true_or, or_true, Nat.zero_le, Nat.reduceAdd, Nat.reduceLeDiff, hI_uI, hL_uI, hR_uI, nx_uI, sl_uI, hI_uL, hL_uL, hR_uL, nx_uL, sl_uL, hI_uR, hL_uR, hR_uR, nx_uR, sl_uR, st_eq, if_true, if_false, eq_self, Nat.reduceEqDiff, Nat.reduceMul, reduceIte, kdT, ixT, w_cl, w_ti, w_s1, w_a, w_m12, w_m8, w_m3, w_m4, c_actorAt hC hA, hat, hk0, f3, e0, reduceCtorEq]
    · rw [y] at f3 ⊢
      simp (disch := first | omega | assumption | decide | (apply bT_; decide)) only [s104_0, s104_1, s104_2, s104_5, s104_7, s104_9, s104_12, s104_13, s104_14, s104_15_0, s104_15_1, s104_15_2, s104_15_3, s104_15_4, s104_15_5, s104_15_6, s104_15_d, s104_56, s104_58, s104_61, s104_62, s104_65, s104_66, s104_68, s104_71, s104_72, s104_75, s104_76, s104_78, s104_81, s104_82, s104_84, s104_87, s104_88, s104_90, s104_93, s104_96, s104_97, s104_100, s104_101, s104_102, s104_104, s104_107, s104_110, s104_111, s104_114, s104_115, s104_116, s104_117, s104_118, s104_121, s104_122, s104_123, K_v, K_0, acI, acA, acJ, acX, List.map_cons, List.map_nil, List.sum_cons, List.sum_nil, true_and, and_true, posT, b2_0, b2_1, bft, true_or, or_true, Nat.zero_le, Nat.reduceAdd, Nat.reduceLeDiff, hI_uI, hL_uI, hR_uI, nx_uI, sl_uI, hI_uL, hL_uL, hR_uL, nx_uL, sl_uL, hI_uR, hL_uR, hR_uR, nx_uR, sl_uR, st_eq, if_true, if_false, eq_self, Nat.reduceEqDiff, Nat.reduceMul, reduceIte, kdT, ixT, w_cl, w_ti, w_s1, w_a, w_m12, w_m8, w_m3, w_m4, c_actorAt hC hA, hat, hk0, f3, k10, e0, reduceCtorEq]
  · have e0 : Int32.ofNat 5 = 5 := rfl
    rw [mea_5]
    rcases (hg a ha).2 with y | y
    · rw [y] at f4 ⊢
      simp (disch := first | omega | assumption | decide | (apply bT_; decide)) only [s104_0, s104_1, s104_2, s104_5, s104_7, s104_9, s104_12, s104_13, s104_14, s104_15_0, s104_15_1, s104_15_2, s104_15_3, s104_15_4, s104_15_5, s104_15_6, s104_15_d, s104_56, s104_58, s104_61, s104_62, s104_65, s104_66, s104_68, s104_71, s104_72, s104_75, s104_76, s104_78, s104_81, s104_82, s104_84, s104_87, s104_88, s104_90, s104_93, s104_96, s104_97, s104_100, s104_101, s104_102, s104_104, s104_107, s104_110, s104_111, s104_114, s104_115, s104_116, s104_117, s104_118, s104_121, s104_122, s104_123, K_v, K_0, acI, acA, acJ, acX, List.map_cons, List.map_nil, List.sum_cons, List.sum_nil, true_and, and_true, posT, b2_0, b2_1, bft, true_or, or_true, Nat.zero_le, Nat.reduceAdd, Nat.reduceLeDiff, hI_uI, hL_uI, hR_uI, nx_uI, sl_uI, hI_uL, hL_uL, hR_uL, nx_uL, sl_uL, hI_uR, hL_uR, hR_uR, nx_uR, sl_uR, st_eq, if_true, if_false, eq_self, Nat.reduceEqDiff, Nat.reduceMul, reduceIte, kdT, ixT, w_cl, w_ti, w_s1, w_a, w_m12, w_m8, w_m3, w_m4, c_actorAt hC hA, hat, hk0, f4, e0, reduceCtorEq]
    · rw [y] at f4 ⊢
      simp (disch := first | omega | assumption | decide | (apply bT_; decide)) only [s104_0, s104_1, s104_2, s104_5, s104_7, s104_9, s104_12, s104_13, s104_14, s104_15_0, s104_15_1, s104_15_2, s104_15_3, s104_15_4, s104_15_5, s104_15_6, s104_15_d, s104_56, s104_58, s104_61, s104_62, s104_65, s104_66, s104_68, s104_71, s104_72, s104_75, s104_76, s104_78, s104_81, s104_82, s104_84, s104_87, s104_88, s104_90, s104_93, s104_96, s104_97, s104_100, s104_101, s104_102, s104_104, s104_107, s104_110, s104_111, s104_114, s104_115, s104_116, s104_117, s104_118, s104_121, s104_122, s104_123, K_v, K_0, acI, acA, acJ, acX, List.map_cons, List.map_nil, List.sum_cons, List.sum_nil, true_and, and_true, posT, b2_0, b2_1, bft, true_or, or_true, Nat.zero_le, Nat.reduceAdd, Nat.reduceLeDiff, hI_uI, hL_uI, hR_uI, nx_uI, sl_uI, hI_uL, hL_uL, hR_uL, nx_uL, sl_uL, hI_uR, hL_uR, hR_uR, nx_uR, sl_uR, st_eq, if_true, if_false, eq_self, Nat.reduceEqDiff, Nat.reduceMul, reduceIte, kdT, ixT, w_cl, w_ti, w_s1, w_a, w_m12, w_m8, w_m3, w_m4, c_actorAt hC hA, hat, hk0, f4, k10, e0, reduceCtorEq]
  · have e0 : Int32.ofNat 6 = 6 := rfl
    rw [mea_6]
    simp (disch := first | omega | assumption | decide | (apply bT_; decide)) only [s104_0, s104_1, s104_2, s104_5, s104_7, s104_9, s104_12, s104_13, s104_14, s104_15_0, s104_15_1, s104_15_2, s104_15_3, s104_15_4, s104_15_5, s104_15_6, s104_15_d, s104_56, s104_58, s104_61, s104_62, s104_65, s104_66, s104_68, s104_71, s104_72, s104_75, s104_76, s104_78, s104_81, s104_82, s104_84, s104_87, s104_88, s104_90, s104_93, s104_96, s104_97, s104_100, s104_101, s104_102, s104_104, s104_107, s104_110, s104_111, s104_114, s104_115, s104_116, s104_117, s104_118, s104_121, s104_122, s104_123, K_v, K_0, acI, acA, acJ, acX, List.map_cons, List.map_nil, List.sum_cons, List.sum_nil, true_and, and_true, posT, b2_0, b2_1, bft, true_or, or_true, Nat.zero_le, Nat.reduceAdd, Nat.reduceLeDiff, hI_uI, hL_uI, hR_uI, nx_uI, sl_uI, hI_uL, hL_uL, hR_uL, nx_uL, sl_uL, hI_uR, hL_uR, hR_uR, nx_uR, sl_uR, st_eq, if_true, if_false, eq_self, Nat.reduceEqDiff, Nat.reduceMul, reduceIte, kdT, ixT, w_cl, w_ti, w_s1, w_a, w_m12, w_m8, w_m3, w_m4, c_actorAt hC hA, hat, hk0, hro, e0, reduceCtorEq]
end CME
