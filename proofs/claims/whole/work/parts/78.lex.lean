/-! the tokens of a text -/
def rn_ (c : Nat → Bool) : Nat → Nat → Nat
  | 0, i => i
  | k + 1, i => if c i = true then rn_ c k (i + 1) else i
def bkc_ (c : Int32) : Bool := decide (c = 32 ∨ c = 10)
def bk_ (B : Nat → Int32) (N i : Nat) : Bool := decide (i < N) && bkc_ (B i)
def lc_ (B : Nat → Int32) (N i : Nat) : Bool := decide (i < N) && wi_ (B i) 97 122
def dc_ (B : Nat → Int32) (N i : Nat) : Bool := decide (i < N) && wi_ (B i) 48 57
def tp_ (B : Nat → Int32) (N i : Nat) : Nat := rn_ (bk_ B N) (N - i) i
def ge_ (B : Nat → Int32) (N p : Nat) : Bool := decide (B p = 62) && (decide (p + 1 < N) && decide (B (p + 1) = 61))
def en_ (B : Nat → Int32) (N p : Nat) : Nat := if lc_ B N p = true then rn_ (lc_ B N) (N - (p + 1)) (p + 1) else if dc_ B N p = true then rn_ (dc_ B N) (N - (p + 1)) (p + 1) else if ge_ B N p = true then p + 2 else p + 1
def lk_ (B : Nat → Int32) (p e j : Nat) : Bool := decide (e - p = sln_ j) && !(an_ (fun k => !decide (B (p + k) = sch_ j k)) (sln_ j) 0)
def fx_ (c : Nat → Bool) (z : Nat) : Nat → Nat → Nat
  | 0, _ => z
  | k + 1, i => if c i = true then i else fx_ c z k (i + 1)
def wcd_ (i : Nat) : Nat := [10, 11, 12, 13, 14, 15, 16, 17, 18, 20, 21, 22, 23, 24].getD i 3
def sgn_ (c : Int32) : Nat := if c = 40 then 4 else if c = 41 then 5 else if c = 59 then 6 else if c = 60 then 7 else 1
def sot_ (B : Nat → Int32) (N p : Nat) : Nat := if p < N then (if lc_ B N p = true then wcd_ (fx_ (lk_ B p (en_ B N p)) 14 14 0) else if dc_ B N p = true then (if 6 < en_ B N p - p then 1 else 2) else if ge_ B N p = true then 8 else sgn_ (B p)) else 0
def cl_ (s : Nat) : Nat := [20, 21, 19, 21, 14, 15, 16, 17, 18, 21, 0, 1, 2, 3, 4, 5, 6, 7, 8, 21, 9, 10, 11, 12, 13].getD s 21
def vv_ (B : Nat → Int32) (p : Nat) : Nat → Int32
  | 0 => 0
  | k + 1 => 10 * vv_ B p k + B (p + k) - 48
section LEX
variable {B : Nat → Int32} {N p e i : Nat} {c : Nat → Bool}
theorem rn_ge : ∀ {k i : Nat}, i ≤ rn_ c k i ∧ rn_ c k i ≤ i + k := by
  intro k
  induction k with
  | zero => intro i; exact ⟨Nat.le_refl _, Nat.le_refl _⟩
  | succ k ih =>
    intro i
    show i ≤ (if c i = true then rn_ c k (i + 1) else i) ∧ (if c i = true then rn_ c k (i + 1) else i) ≤ _
    have := ih (i := i + 1)
    split <;> omega
theorem rn_stop : ∀ {k i : Nat}, rn_ c k i < i + k → c (rn_ c k i) = false := by
  intro k
  induction k with
  | zero => intro i h; exact absurd h (Nat.lt_irrefl _)
  | succ k ih =>
    intro i h
    have e : rn_ c (k + 1) i = if c i = true then rn_ c k (i + 1) else i := rfl
    rw [e] at h ⊢
    by_cases q : c i = true
    · rw [if_pos q] at h ⊢; exact ih (by omega)
    · rw [if_neg q]; exact Bool.eq_false_iff.mpr q
theorem rn_all : ∀ {k i j : Nat}, i ≤ j → j < rn_ c k i → c j = true := by
  intro k
  induction k with
  | zero => intro i j h1 h2; exact absurd (show j < i from h2) (by omega)
  | succ k ih =>
    intro i j h1 h2
    have e : rn_ c (k + 1) i = if c i = true then rn_ c k (i + 1) else i := rfl
    rw [e] at h2
    by_cases q : c i = true
    · rw [if_pos q] at h2
      by_cases z : i = j
      · rw [← z]; exact q
      · exact ih (by omega) h2
    · rw [if_neg q] at h2; omega
theorem tp_ge (h : i ≤ N) : i ≤ tp_ B N i ∧ tp_ B N i ≤ N := by
  have := rn_ge (c := bk_ B N) (k := N - i) (i := i)
  unfold tp_
  omega
theorem tp_s (h : i < N) (hb : bkc_ (B i) = true) : tp_ B N i = tp_ B N (i + 1) := by
  unfold tp_
  obtain ⟨k, hk⟩ : ∃ k, N - i = k + 1 := ⟨N - i - 1, by omega⟩
  rw [hk]
  show (if bk_ B N i = true then rn_ (bk_ B N) k (i + 1) else i) = _
  have : bk_ B N i = true := by unfold bk_; rw [decide_eq_true h, hb]; rfl
  rw [if_pos this, show N - (i + 1) = k by omega]
theorem tp_n (h : i < N) (hb : bkc_ (B i) = false) : tp_ B N i = i := by
  unfold tp_
  obtain ⟨k, hk⟩ : ∃ k, N - i = k + 1 := ⟨N - i - 1, by omega⟩
  rw [hk]
  show (if bk_ B N i = true then rn_ (bk_ B N) k (i + 1) else i) = _
  have : ¬ (bk_ B N i = true) := by unfold bk_; rw [hb, Bool.and_false]; decide
  rw [if_neg this]
theorem tp_N : tp_ B N N = N := by
  unfold tp_
  rw [Nat.sub_self]
  rfl
theorem en_ge (h : p < N) : p < en_ B N p ∧ en_ B N p ≤ N := by
  have h1 := rn_ge (c := lc_ B N) (k := N - (p + 1)) (i := p + 1)
  have h2 := rn_ge (c := dc_ B N) (k := N - (p + 1)) (i := p + 1)
  unfold en_
  split
  · omega
  · split
    · omega
    · split
      · rename_i q
        unfold ge_ at q
        rw [Bool.and_eq_true, Bool.and_eq_true, decide_eq_true_eq, decide_eq_true_eq] at q
        have := q.2.1
        omega
      · omega
/-- a number's value -/
theorem vv_nat : ∀ {k : Nat}, k ≤ 6 → (∀ j, j < k → wi_ (B (p + j)) 48 57 = true) → ∃ n, vv_ B p k = Int32.ofNat n ∧ n < 10 ^ k := by
  intro k
  induction k with
  | zero => intro _ _; exact ⟨0, rfl, by decide⟩
  | succ k ih =>
    intro hk hd
    obtain ⟨n, e1, e2⟩ := ih (by omega) (fun j hj => hd j (by omega))
    obtain ⟨d1, d2⟩ := wi_t.mp (hd k (by omega))
    have d1' : (48 : Int) ≤ (B (p + k)).toInt := d1
    have d2' : (B (p + k)).toInt ≤ 57 := d2
    obtain ⟨b, hb, hb2, hb3⟩ := w_of (x := B (p + k)) (by omega)
    have hp : 10 ^ k ≤ 10 ^ 5 := Nat.pow_le_pow_right (by omega) (by omega)
    refine ⟨10 * n + (b - 48), ?_, by rw [Nat.pow_succ]; omega⟩
    show 10 * vv_ B p k + B (p + k) - 48 = _
    rw [e1, hb, show (10 : Int32) = Int32.ofNat 10 from rfl, show (48 : Int32) = Int32.ofNat 48 from rfl, ← Int32.ofNat_mul, ← Int32.ofNat_add, ← Int32.ofNat_sub _ _ (by omega)]
    congr 1
    omega
end LEX
def TX_ (B : Nat → Int32) (N c : Nat) (h : AH) : Prop := N ≤ 800 ∧ ∀ i, i < N → hI_ h c i = B i
section CLX
variable {xs : Nat → Int32} {d : Nat} {h : AH} {Q : OU_ → AH → Prop} {B : Nat → Int32} {N p e i : Nat}
theorem c_stopOf (hT : TX_ B N 29673489 h) (hp : p < N) (hd : 2 ≤ d) : V_ xs d 43 0 [vA (some 29673489), vI (Int32.ofNat p), vI (Int32.ofNat N), vX 0] [] h Q ↔ Q (some (some (vI (Int32.ofNat (en_ B N p))))) h := by
  obtain ⟨hN, hB⟩ := hT
  have hbp := hB p hp
  have hk : kd_ 29673489 = 17 ∨ kd_ 29673489 = 18 := Or.inl rfl
  have k10 : ¬ ((1 : Int32) = 0) := by decide
  have kl : ∀ (k i : Nat), i + k = N → (V_ xs d 43 13 [vA (some 29673489), vI (Int32.ofNat p), vI (Int32.ofNat N), vI (Int32.ofNat i)] [] h Q ↔ Q (some (some (vI (Int32.ofNat (rn_ (lc_ B N) k i))))) h) := by
    intro k
    induction k with
    | zero =>
      intro i hi
      have nl : ¬ (i < N) := by omega
      rw [s43_13]
      simp (disch := first | omega | assumption | decide | (apply bT_; decide)) only [s43_0, s43_1, s43_2, s43_3, s43_4, s43_5, s43_6, s43_7, s43_10, s43_14, s43_15, s43_19, s43_20, s43_21, s43_24, s43_27, s43_30, s43_33, s43_34, s43_35, s43_36, s43_39, s43_43, s43_44, s43_47, s43_48, s43_49, s43_50, s43_53, s43_56, s43_59, s43_62, s43_63, s43_64, s43_65, s43_67, s43_70, s43_71, s43_72, s43_75, s43_76, s43_77, s43_78, s43_80, s43_83, s43_86, s43_87, K_v, K_0, acI, acA, acJ, acX, List.map_cons, List.map_nil, List.sum_cons, List.sum_nil, true_and, and_true, posT, b2_0, b2_1, bft, true_or, or_true, Nat.zero_le, Nat.reduceAdd, Nat.reduceLeDiff, hI_uI, hL_uI, hR_uI, nx_uI, sl_uI, hI_uL, hL_uL, hR_uL, nx_uL, sl_uL, hI_uR, hL_uR, hR_uR, nx_uR, sl_uR, st_eq, if_true, if_false, eq_self, Nat.reduceEqDiff, Nat.reduceMul, reduceIte, kdT, ixT, w_cl, w_ti, w_s1, w_a, w_m12, w_m8, w_m3, w_m4, nl, w_lt]
      exact Iff.rfl
    | succ k ih =>
      intro i hi
      have hl : i < N := by omega
      have hbi := hB i hl
      have hil := fun Q => c_isLetter (xs := xs) (d := d - 1) (h := h) (Q := Q) (x := B i) (by omega)
      have e : rn_ (lc_ B N) (k + 1) i = if lc_ B N i = true then rn_ (lc_ B N) k (i + 1) else i := rfl
      have e2 : lc_ B N i = wi_ (B i) 97 122 := by unfold lc_; rw [decide_eq_true hl, Bool.true_and]
      rw [s43_13, e, e2]
      cases hw : wi_ (B i) 97 122
      · have hil' : ∀ Q : OU_ → AH → Prop, V_ xs (d - 1) 41 0 [vI (B i)] [] h Q ↔ Q (some (some (vI 0))) h := by intro Q; rw [hil, hw]; exact Iff.rfl
        simp (disch := first | omega | assumption | decide | (apply bT_; decide)) only [s43_0, s43_1, s43_2, s43_3, s43_4, s43_5, s43_6, s43_7, s43_10, s43_14, s43_15, s43_18, s43_19, s43_20, s43_21, s43_24, s43_30, s43_33, s43_34, s43_35, s43_36, s43_39, s43_43, s43_44, s43_47, s43_48, s43_49, s43_50, s43_53, s43_56, s43_59, s43_62, s43_63, s43_64, s43_65, s43_67, s43_70, s43_71, s43_72, s43_75, s43_76, s43_77, s43_78, s43_80, s43_83, s43_86, s43_87, K_v, K_0, acI, acA, acJ, acX, List.map_cons, List.map_nil, List.sum_cons, List.sum_nil, true_and, and_true, posT, b2_0, b2_1, bft, true_or, or_true, Nat.zero_le, Nat.reduceAdd, Nat.reduceLeDiff, hI_uI, hL_uI, hR_uI, nx_uI, sl_uI, hI_uL, hL_uL, hR_uL, nx_uL, sl_uL, hI_uR, hL_uR, hR_uR, nx_uR, sl_uR, st_eq, if_true, if_false, eq_self, Nat.reduceEqDiff, Nat.reduceMul, reduceIte, kdT, ixT, w_cl, w_ti, w_s1, w_a, w_m12, w_m8, w_m3, w_m4, hl, w_lt, hbi, hil', hk, kd_TP, ln_TP, Bool.false_eq_true]
      · have hil' : ∀ Q : OU_ → AH → Prop, V_ xs (d - 1) 41 0 [vI (B i)] [] h Q ↔ Q (some (some (vI 1))) h := by intro Q; rw [hil, hw]; exact Iff.rfl
        simp (disch := first | omega | assumption | decide | (apply bT_; decide)) only [s43_0, s43_1, s43_2, s43_3, s43_4, s43_5, s43_6, s43_7, s43_10, s43_14, s43_15, s43_18, s43_19, s43_20, s43_21, s43_24, s43_27, s43_30, s43_33, s43_34, s43_35, s43_36, s43_39, s43_43, s43_44, s43_47, s43_48, s43_49, s43_50, s43_53, s43_56, s43_59, s43_62, s43_63, s43_64, s43_65, s43_67, s43_70, s43_71, s43_72, s43_75, s43_76, s43_77, s43_78, s43_80, s43_83, s43_87, K_v, K_0, acI, acA, acJ, acX, List.map_cons, List.map_nil, List.sum_cons, List.sum_nil, true_and, and_true, posT, b2_0, b2_1, bft, true_or, or_true, Nat.zero_le, Nat.reduceAdd, Nat.reduceLeDiff, hI_uI, hL_uI, hR_uI, nx_uI, sl_uI, hI_uL, hL_uL, hR_uL, nx_uL, sl_uL, hI_uR, hL_uR, hR_uR, nx_uR, sl_uR, st_eq, if_true, if_false, eq_self, Nat.reduceEqDiff, Nat.reduceMul, reduceIte, kdT, ixT, w_cl, w_ti, w_s1, w_a, w_m12, w_m8, w_m3, w_m4, hl, w_lt, hbi, hil', hk, k10, kd_TP, ln_TP]
        exact ih (i + 1) (by omega)
  have kd : ∀ (k i : Nat), i + k = N → (V_ xs d 43 42 [vA (some 29673489), vI (Int32.ofNat p), vI (Int32.ofNat N), vI (Int32.ofNat i)] [] h Q ↔ Q (some (some (vI (Int32.ofNat (rn_ (dc_ B N) k i))))) h) := by
    intro k
    induction k with
    | zero =>
      intro i hi
      have nl : ¬ (i < N) := by omega
      rw [s43_42]
      simp (disch := first | omega | assumption | decide | (apply bT_; decide)) only [s43_0, s43_1, s43_2, s43_3, s43_4, s43_5, s43_6, s43_7, s43_10, s43_14, s43_15, s43_18, s43_19, s43_20, s43_21, s43_24, s43_27, s43_30, s43_33, s43_34, s43_35, s43_36, s43_39, s43_43, s43_44, s43_48, s43_49, s43_50, s43_53, s43_56, s43_59, s43_62, s43_63, s43_64, s43_65, s43_67, s43_70, s43_71, s43_72, s43_75, s43_76, s43_77, s43_78, s43_80, s43_83, s43_86, s43_87, K_v, K_0, acI, acA, acJ, acX, List.map_cons, List.map_nil, List.sum_cons, List.sum_nil, true_and, and_true, posT, b2_0, b2_1, bft, true_or, or_true, Nat.zero_le, Nat.reduceAdd, Nat.reduceLeDiff, hI_uI, hL_uI, hR_uI, nx_uI, sl_uI, hI_uL, hL_uL, hR_uL, nx_uL, sl_uL, hI_uR, hL_uR, hR_uR, nx_uR, sl_uR, st_eq, if_true, if_false, eq_self, Nat.reduceEqDiff, Nat.reduceMul, reduceIte, kdT, ixT, w_cl, w_ti, w_s1, w_a, w_m12, w_m8, w_m3, w_m4, nl, w_lt]
      exact Iff.rfl
    | succ k ih =>
      intro i hi
      have hl : i < N := by omega
      have hbi := hB i hl
      have hil := fun Q => c_isDigit (xs := xs) (d := d - 1) (h := h) (Q := Q) (x := B i) (by omega)
      have e : rn_ (dc_ B N) (k + 1) i = if dc_ B N i = true then rn_ (dc_ B N) k (i + 1) else i := rfl
      have e2 : dc_ B N i = wi_ (B i) 48 57 := by unfold dc_; rw [decide_eq_true hl, Bool.true_and]
      rw [s43_42, e, e2]
      cases hw : wi_ (B i) 48 57
      · have hil' : ∀ Q : OU_ → AH → Prop, V_ xs (d - 1) 42 0 [vI (B i)] [] h Q ↔ Q (some (some (vI 0))) h := by intro Q; rw [hil, hw]; exact Iff.rfl
        simp (disch := first | omega | assumption | decide | (apply bT_; decide)) only [s43_0, s43_1, s43_2, s43_3, s43_4, s43_5, s43_6, s43_7, s43_10, s43_14, s43_15, s43_18, s43_19, s43_20, s43_21, s43_24, s43_27, s43_30, s43_33, s43_34, s43_35, s43_36, s43_39, s43_43, s43_44, s43_47, s43_48, s43_49, s43_50, s43_53, s43_59, s43_62, s43_63, s43_64, s43_65, s43_67, s43_70, s43_71, s43_72, s43_75, s43_76, s43_77, s43_78, s43_80, s43_83, s43_86, s43_87, K_v, K_0, acI, acA, acJ, acX, List.map_cons, List.map_nil, List.sum_cons, List.sum_nil, true_and, and_true, posT, b2_0, b2_1, bft, true_or, or_true, Nat.zero_le, Nat.reduceAdd, Nat.reduceLeDiff, hI_uI, hL_uI, hR_uI, nx_uI, sl_uI, hI_uL, hL_uL, hR_uL, nx_uL, sl_uL, hI_uR, hL_uR, hR_uR, nx_uR, sl_uR, st_eq, if_true, if_false, eq_self, Nat.reduceEqDiff, Nat.reduceMul, reduceIte, kdT, ixT, w_cl, w_ti, w_s1, w_a, w_m12, w_m8, w_m3, w_m4, hl, w_lt, hbi, hil', hk, kd_TP, ln_TP, Bool.false_eq_true]
      · have hil' : ∀ Q : OU_ → AH → Prop, V_ xs (d - 1) 42 0 [vI (B i)] [] h Q ↔ Q (some (some (vI 1))) h := by intro Q; rw [hil, hw]; exact Iff.rfl
        simp (disch := first | omega | assumption | decide | (apply bT_; decide)) only [s43_0, s43_1, s43_2, s43_3, s43_4, s43_5, s43_6, s43_7, s43_10, s43_14, s43_15, s43_18, s43_19, s43_20, s43_21, s43_24, s43_27, s43_30, s43_33, s43_34, s43_35, s43_36, s43_39, s43_43, s43_44, s43_47, s43_48, s43_49, s43_50, s43_53, s43_56, s43_59, s43_62, s43_63, s43_64, s43_65, s43_67, s43_70, s43_71, s43_72, s43_75, s43_76, s43_77, s43_78, s43_80, s43_83, s43_87, K_v, K_0, acI, acA, acJ, acX, List.map_cons, List.map_nil, List.sum_cons, List.sum_nil, true_and, and_true, posT, b2_0, b2_1, bft, true_or, or_true, Nat.zero_le, Nat.reduceAdd, Nat.reduceLeDiff, hI_uI, hL_uI, hR_uI, nx_uI, sl_uI, hI_uL, hL_uL, hR_uL, nx_uL, sl_uL, hI_uR, hL_uR, hR_uR, nx_uR, sl_uR, st_eq, if_true, if_false, eq_self, Nat.reduceEqDiff, Nat.reduceMul, reduceIte, kdT, ixT, w_cl, w_ti, w_s1, w_a, w_m12, w_m8, w_m3, w_m4, hl, w_lt, hbi, hil', hk, k10, kd_TP, ln_TP]
        exact ih (i + 1) (by omega)
  have hil := fun Q => c_isLetter (xs := xs) (d := d - 1) (h := h) (Q := Q) (x := B p) (by omega)
  have hid := fun Q => c_isDigit (xs := xs) (d := d - 1) (h := h) (Q := Q) (x := B p) (by omega)
  have e1 : lc_ B N p = wi_ (B p) 97 122 := by unfold lc_; rw [decide_eq_true hp, Bool.true_and]
  have e2 : dc_ B N p = wi_ (B p) 48 57 := by unfold dc_; rw [decide_eq_true hp, Bool.true_and]
  unfold en_
  rw [e1, e2]
  cases hw : wi_ (B p) 97 122
  · have hil' : ∀ Q : OU_ → AH → Prop, V_ xs (d - 1) 41 0 [vI (B p)] [] h Q ↔ Q (some (some (vI 0))) h := by intro Q; rw [hil, hw]; exact Iff.rfl
    cases hv : wi_ (B p) 48 57
    · have hid' : ∀ Q : OU_ → AH → Prop, V_ xs (d - 1) 42 0 [vI (B p)] [] h Q ↔ Q (some (some (vI 0))) h := by intro Q; rw [hid, hv]; exact Iff.rfl
      unfold ge_
      by_cases q1 : B p = 62
      · rw [decide_eq_true q1]
        by_cases q2 : p + 1 < N
        · have hb2 := hB (p + 1) q2
          rw [decide_eq_true q2]
          by_cases q3 : B (p + 1) = 61
          · rw [decide_eq_true q3]
            simp (disch := first | omega | assumption | decide | (apply bT_; decide)) only [s43_0, s43_1, s43_2, s43_3, s43_4, s43_5, s43_6, s43_7, s43_10, s43_14, s43_15, s43_18, s43_19, s43_20, s43_21, s43_24, s43_27, s43_30, s43_33, s43_34, s43_35, s43_36, s43_39, s43_43, s43_44, s43_47, s43_48, s43_49, s43_50, s43_53, s43_56, s43_59, s43_62, s43_63, s43_64, s43_65, s43_67, s43_70, s43_71, s43_72, s43_75, s43_76, s43_77, s43_78, s43_80, s43_83, s43_86, s43_87, K_v, K_0, acI, acA, acJ, acX, List.map_cons, List.map_nil, List.sum_cons, List.sum_nil, true_and, and_true, posT, b2_0, b2_1, bft, true_or, or_true, Nat.zero_le, Nat.reduceAdd, Nat.reduceLeDiff, hI_uI, hL_uI, hR_uI, nx_uI, sl_uI, hI_uL, hL_uL, hR_uL, nx_uL, sl_uL, hI_uR, hL_uR, hR_uR, nx_uR, sl_uR, st_eq, if_true, if_false, eq_self, Nat.reduceEqDiff, Nat.reduceMul, reduceIte, kdT, ixT, w_cl, w_ti, w_s1, w_a, w_m12, w_m8, w_m3, w_m4, q2, w_lt, hbp, hb2, hil', hid', hk, if_pos q1, if_pos q3, kd_TP, ln_TP, Bool.false_eq_true, Bool.and_true]
          · rw [decide_eq_false q3]
            simp (disch := first | omega | assumption | decide | (apply bT_; decide)) only [s43_0, s43_1, s43_2, s43_3, s43_4, s43_5, s43_6, s43_7, s43_10, s43_14, s43_15, s43_18, s43_19, s43_20, s43_21, s43_24, s43_27, s43_30, s43_33, s43_34, s43_35, s43_36, s43_39, s43_43, s43_44, s43_47, s43_48, s43_49, s43_50, s43_53, s43_56, s43_59, s43_62, s43_63, s43_64, s43_65, s43_67, s43_70, s43_71, s43_72, s43_75, s43_76, s43_77, s43_78, s43_80, s43_86, s43_87, K_v, K_0, acI, acA, acJ, acX, List.map_cons, List.map_nil, List.sum_cons, List.sum_nil, true_and, and_true, posT, b2_0, b2_1, bft, true_or, or_true, Nat.zero_le, Nat.reduceAdd, Nat.reduceLeDiff, hI_uI, hL_uI, hR_uI, nx_uI, sl_uI, hI_uL, hL_uL, hR_uL, nx_uL, sl_uL, hI_uR, hL_uR, hR_uR, nx_uR, sl_uR, st_eq, if_true, if_false, eq_self, Nat.reduceEqDiff, Nat.reduceMul, reduceIte, kdT, ixT, w_cl, w_ti, w_s1, w_a, w_m12, w_m8, w_m3, w_m4, q2, w_lt, hbp, hb2, hil', hid', hk, if_pos q1, if_neg q3, kd_TP, ln_TP, Bool.false_eq_true, Bool.and_false]
        · rw [decide_eq_false q2]
          simp (disch := first | omega | assumption | decide | (apply bT_; decide)) only [s43_0, s43_1, s43_2, s43_3, s43_4, s43_5, s43_6, s43_7, s43_10, s43_14, s43_15, s43_18, s43_19, s43_20, s43_21, s43_24, s43_27, s43_30, s43_33, s43_34, s43_35, s43_36, s43_39, s43_43, s43_44, s43_47, s43_48, s43_49, s43_50, s43_53, s43_56, s43_59, s43_62, s43_63, s43_64, s43_65, s43_67, s43_70, s43_71, s43_72, s43_76, s43_77, s43_78, s43_80, s43_83, s43_86, s43_87, K_v, K_0, acI, acA, acJ, acX, List.map_cons, List.map_nil, List.sum_cons, List.sum_nil, true_and, and_true, posT, b2_0, b2_1, bft, true_or, or_true, Nat.zero_le, Nat.reduceAdd, Nat.reduceLeDiff, hI_uI, hL_uI, hR_uI, nx_uI, sl_uI, hI_uL, hL_uL, hR_uL, nx_uL, sl_uL, hI_uR, hL_uR, hR_uR, nx_uR, sl_uR, st_eq, if_true, if_false, eq_self, Nat.reduceEqDiff, Nat.reduceMul, reduceIte, kdT, ixT, w_cl, w_ti, w_s1, w_a, w_m12, w_m8, w_m3, w_m4, q2, w_lt, hbp, hil', hid', hk, if_pos q1, kd_TP, ln_TP, Bool.false_eq_true, Bool.and_false, Bool.false_and]
      · rw [decide_eq_false q1]
        simp (disch := first | omega | assumption | decide | (apply bT_; decide)) only [s43_0, s43_1, s43_2, s43_3, s43_4, s43_5, s43_6, s43_7, s43_10, s43_14, s43_15, s43_18, s43_19, s43_20, s43_21, s43_24, s43_27, s43_30, s43_33, s43_34, s43_35, s43_36, s43_39, s43_43, s43_44, s43_47, s43_48, s43_49, s43_50, s43_53, s43_56, s43_59, s43_62, s43_63, s43_64, s43_65, s43_67, s43_71, s43_72, s43_75, s43_76, s43_77, s43_78, s43_80, s43_83, s43_86, s43_87, K_v, K_0, acI, acA, acJ, acX, List.map_cons, List.map_nil, List.sum_cons, List.sum_nil, true_and, and_true, posT, b2_0, b2_1, bft, true_or, or_true, Nat.zero_le, Nat.reduceAdd, Nat.reduceLeDiff, hI_uI, hL_uI, hR_uI, nx_uI, sl_uI, hI_uL, hL_uL, hR_uL, nx_uL, sl_uL, hI_uR, hL_uR, hR_uR, nx_uR, sl_uR, st_eq, if_true, if_false, eq_self, Nat.reduceEqDiff, Nat.reduceMul, reduceIte, kdT, ixT, w_cl, w_ti, w_s1, w_a, w_m12, w_m8, w_m3, w_m4, hbp, hil', hid', hk, if_neg q1, kd_TP, ln_TP, Bool.false_eq_true, Bool.false_and]
    · have hid' : ∀ Q : OU_ → AH → Prop, V_ xs (d - 1) 42 0 [vI (B p)] [] h Q ↔ Q (some (some (vI 1))) h := by intro Q; rw [hid, hv]; exact Iff.rfl
      simp (disch := first | omega | assumption | decide | (apply bT_; decide)) only [s43_0, s43_1, s43_2, s43_3, s43_4, s43_5, s43_6, s43_7, s43_10, s43_14, s43_15, s43_18, s43_19, s43_20, s43_21, s43_24, s43_27, s43_30, s43_33, s43_34, s43_35, s43_36, s43_39, s43_43, s43_44, s43_47, s43_48, s43_49, s43_50, s43_53, s43_56, s43_59, s43_63, s43_64, s43_65, s43_67, s43_70, s43_71, s43_72, s43_75, s43_76, s43_77, s43_78, s43_80, s43_83, s43_86, s43_87, K_v, K_0, acI, acA, acJ, acX, List.map_cons, List.map_nil, List.sum_cons, List.sum_nil, true_and, and_true, posT, b2_0, b2_1, bft, true_or, or_true, Nat.zero_le, Nat.reduceAdd, Nat.reduceLeDiff, hI_uI, hL_uI, hR_uI, nx_uI, sl_uI, hI_uL, hL_uL, hR_uL, nx_uL, sl_uL, hI_uR, hL_uR, hR_uR, nx_uR, sl_uR, st_eq, if_true, if_false, eq_self, Nat.reduceEqDiff, Nat.reduceMul, reduceIte, kdT, ixT, w_cl, w_ti, w_s1, w_a, w_m12, w_m8, w_m3, w_m4, hbp, hil', hid', hk, k10, kd_TP, ln_TP, Bool.false_eq_true]
      exact kd (N - (p + 1)) (p + 1) (by omega)
  · have hil' : ∀ Q : OU_ → AH → Prop, V_ xs (d - 1) 41 0 [vI (B p)] [] h Q ↔ Q (some (some (vI 1))) h := by intro Q; rw [hil, hw]; exact Iff.rfl
    simp (disch := first | omega | assumption | decide | (apply bT_; decide)) only [s43_0, s43_1, s43_2, s43_3, s43_4, s43_5, s43_6, s43_7, s43_10, s43_14, s43_15, s43_18, s43_19, s43_20, s43_21, s43_24, s43_27, s43_30, s43_34, s43_35, s43_36, s43_39, s43_42, s43_43, s43_44, s43_47, s43_48, s43_49, s43_50, s43_53, s43_56, s43_59, s43_62, s43_63, s43_64, s43_65, s43_67, s43_70, s43_71, s43_72, s43_75, s43_76, s43_77, s43_78, s43_80, s43_83, s43_86, s43_87, K_v, K_0, acI, acA, acJ, acX, List.map_cons, List.map_nil, List.sum_cons, List.sum_nil, true_and, and_true, posT, b2_0, b2_1, bft, true_or, or_true, Nat.zero_le, Nat.reduceAdd, Nat.reduceLeDiff, hI_uI, hL_uI, hR_uI, nx_uI, sl_uI, hI_uL, hL_uL, hR_uL, nx_uL, sl_uL, hI_uR, hL_uR, hR_uR, nx_uR, sl_uR, st_eq, if_true, if_false, eq_self, Nat.reduceEqDiff, Nat.reduceMul, reduceIte, kdT, ixT, w_cl, w_ti, w_s1, w_a, w_m12, w_m8, w_m3, w_m4, hbp, hil', hk, k10, kd_TP, ln_TP]
    exact kl (N - (p + 1)) (p + 1) (by omega)
theorem c_valueOf (hT : TX_ B N 29673489 h) (he : e ≤ N) (hp : p ≤ e) : V_ xs d 45 0 [vA (some 29673489), vI (Int32.ofNat p), vI (Int32.ofNat e), vX 0, vX 0] [] h Q ↔ Q (some (some (vI (vv_ B p (e - p))))) h := by
  obtain ⟨hN, hB⟩ := hT
  have hk : kd_ 29673489 = 17 ∨ kd_ 29673489 = 18 := Or.inl rfl
  have key : ∀ (k i : Nat), p ≤ i → i + k = e → (V_ xs d 45 5 [vA (some 29673489), vI (Int32.ofNat p), vI (Int32.ofNat e), vI (vv_ B p (i - p)), vI (Int32.ofNat i)] [] h Q ↔ Q (some (some (vI (vv_ B p (e - p))))) h) := by
    intro k
    induction k with
    | zero =>
      intro i h1 hi
      have nl : ¬ (i < e) := by omega
      rw [s45_5]
      simp (disch := first | omega | assumption | decide | (apply bT_; decide)) only [s45_0, s45_1, s45_2, s45_3, s45_7, s45_8, s45_13, s45_14, s45_15, s45_16, s45_18, s45_19, s45_20, s45_22, s45_23, s45_24, s45_27, s45_30, s45_31, K_v, K_0, acI, acA, acJ, acX, List.map_cons, List.map_nil, List.sum_cons, List.sum_nil, true_and, and_true, posT, b2_0, b2_1, bft, true_or, or_true, Nat.zero_le, Nat.reduceAdd, Nat.reduceLeDiff, hI_uI, hL_uI, hR_uI, nx_uI, sl_uI, hI_uL, hL_uL, hR_uL, nx_uL, sl_uL, hI_uR, hL_uR, hR_uR, nx_uR, sl_uR, st_eq, if_true, if_false, eq_self, Nat.reduceEqDiff, Nat.reduceMul, reduceIte, kdT, ixT, w_cl, w_ti, w_s1, w_a, w_m12, w_m8, w_m3, w_m4, nl, w_lt]
      rw [show i = e by omega]
    | succ k ih =>
      intro i h1 hi
      have hl : i < e := by omega
      have hbi := hB i (by omega)
      have e1 : vv_ B p (i + 1 - p) = 10 * vv_ B p (i - p) + B i - 48 := by
        rw [show i + 1 - p = (i - p) + 1 by omega]
        show 10 * vv_ B p (i - p) + B (p + (i - p)) - 48 = _
        rw [show p + (i - p) = i by omega]
      rw [s45_5]
      simp (disch := first | omega | assumption | decide | (apply bT_; decide)) only [s45_0, s45_1, s45_2, s45_3, s45_7, s45_8, s45_11, s45_13, s45_14, s45_15, s45_16, s45_18, s45_19, s45_20, s45_22, s45_23, s45_24, s45_27, s45_31, K_v, K_0, acI, acA, acJ, acX, List.map_cons, List.map_nil, List.sum_cons, List.sum_nil, true_and, and_true, posT, b2_0, b2_1, bft, true_or, or_true, Nat.zero_le, Nat.reduceAdd, Nat.reduceLeDiff, hI_uI, hL_uI, hR_uI, nx_uI, sl_uI, hI_uL, hL_uL, hR_uL, nx_uL, sl_uL, hI_uR, hL_uR, hR_uR, nx_uR, sl_uR, st_eq, if_true, if_false, eq_self, Nat.reduceEqDiff, Nat.reduceMul, reduceIte, kdT, ixT, w_cl, w_ti, w_s1, w_a, w_m12, w_m8, w_m3, w_m4, hl, w_lt, hbi, hk, kd_TP, ln_TP]
      rw [← e1]
      exact ih (i + 1) (by omega) (by omega)
  have := key (e - p) p (Nat.le_refl _) (by omega)
  rw [Nat.sub_self] at this
  simp (disch := first | omega | assumption | decide | (apply bT_; decide)) only [s45_0, s45_1, s45_2, s45_3, s45_7, s45_8, s45_11, s45_13, s45_14, s45_15, s45_16, s45_18, s45_19, s45_20, s45_22, s45_23, s45_24, s45_27, s45_30, s45_31, K_v, K_0, acI, acA, acJ, acX, List.map_cons, List.map_nil, List.sum_cons, List.sum_nil, true_and, and_true, posT, b2_0, b2_1, bft, true_or, or_true, Nat.zero_le, Nat.reduceAdd, Nat.reduceLeDiff, hI_uI, hL_uI, hR_uI, nx_uI, sl_uI, hI_uL, hL_uL, hR_uL, nx_uL, sl_uL, hI_uR, hL_uR, hR_uR, nx_uR, sl_uR, st_eq, if_true, if_false, eq_self, Nat.reduceEqDiff, Nat.reduceMul, reduceIte, kdT, ixT, w_cl, w_ti, w_s1, w_a, w_m12, w_m8, w_m3, w_m4]
  exact this
theorem c_isSpelled {j : Nat} (hT : TX_ B N 29673489 h) (he : e ≤ N) (hp : p ≤ e) (hj : j < 22) (hd : 5 ≤ d) : V_ xs d 175 0 [vA (some (tref_ j)), vA (some 29673489), vI (Int32.ofNat p), vI (Int32.ofNat e), vX 0] [] h Q ↔ Q (some (some (vI (b2_ (lk_ B p e j))))) h := by
  obtain ⟨hN, hB⟩ := hT
  have hk : kd_ 29673489 = 17 ∨ kd_ 29673489 = 18 := Or.inl rfl
  obtain ⟨t1, t2, -⟩ := tok_f j hj
  obtain ⟨f1, -, -, -, -, f6⟩ := str_f j (by omega)
  have hlen := fun Q => c_strlen (xs := xs) (d := d - 1) (h := h) (Q := Q) (j := j) (by omega) (by omega)
  have hsub := w_sub (a := e) (b := p) hp
  unfold lk_
  by_cases q : e - p = sln_ j
  · have q1 : Int32.ofNat (e - p) = Int32.ofNat (sln_ j) := by rw [q]
    rw [decide_eq_true q, Bool.true_and]
    have L := loopE_ (P := fun k => V_ xs d 175 18 [vA (some (tref_ j)), vA (some 29673489), vI (Int32.ofNat p), vI (Int32.ofNat e), vI (Int32.ofNat (p + k))] [] h Q) (R := Q (some (some (vI 0))) h) (c := fun k => !decide (B (p + k) = sch_ j k)) (n := sln_ j) (fun k hk' => by
      have hl : p + k < e := by omega
      have hbi := hB (p + k) (by omega)
      have hs2 := w_sub (a := p + k) (b := p) (by omega)
      rw [show p + k - p = k by omega] at hs2
      have hch := fun Q => c_charAt (xs := xs) (d := d - 1) (h := h) (Q := Q) (j := j) (i := k) (by omega) hk' (by omega)
      rw [s175_18]
      by_cases q2 : B (p + k) = sch_ j k
      · rw [decide_eq_true q2, if_neg (by decide)]
        simp (disch := first | omega | assumption | decide | (apply bT_; decide)) only [s175_0, s175_1, s175_2, s175_3, s175_4, s175_7, s175_10, s175_13, s175_14, s175_15, s175_16, s175_20, s175_21, s175_24, s175_25, s175_27, s175_28, s175_29, s175_32, s175_34, s175_35, s175_36, s175_39, s175_43, s175_44, s175_47, s175_51, K_v, K_0, acI, acA, acJ, acX, List.map_cons, List.map_nil, List.sum_cons, List.sum_nil, true_and, and_true, posT, b2_0, b2_1, bft, true_or, or_true, Nat.zero_le, Nat.reduceAdd, Nat.reduceLeDiff, hI_uI, hL_uI, hR_uI, nx_uI, sl_uI, hI_uL, hL_uL, hR_uL, nx_uL, sl_uL, hI_uR, hL_uR, hR_uR, nx_uR, sl_uR, st_eq, if_true, if_false, eq_self, Nat.reduceEqDiff, Nat.reduceMul, reduceIte, kdT, ixT, w_cl, w_ti, w_s1, w_a, w_m12, w_m8, w_m3, w_m4, hl, w_lt, hbi, hs2, hch, t1, t2, f1, hk, if_pos q2, kd_TP, ln_TP]
        exact Iff.rfl
      · rw [decide_eq_false q2, if_pos (show (!false) = true from rfl)]
        simp (disch := first | omega | assumption | decide | (apply bT_; decide)) only [s175_0, s175_1, s175_2, s175_3, s175_4, s175_7, s175_10, s175_13, s175_14, s175_15, s175_16, s175_20, s175_21, s175_24, s175_25, s175_27, s175_28, s175_29, s175_32, s175_34, s175_35, s175_36, s175_39, s175_42, s175_43, s175_47, s175_51, K_v, K_0, acI, acA, acJ, acX, List.map_cons, List.map_nil, List.sum_cons, List.sum_nil, true_and, and_true, posT, b2_0, b2_1, bft, true_or, or_true, Nat.zero_le, Nat.reduceAdd, Nat.reduceLeDiff, hI_uI, hL_uI, hR_uI, nx_uI, sl_uI, hI_uL, hL_uL, hR_uL, nx_uL, sl_uL, hI_uR, hL_uR, hR_uR, nx_uR, sl_uR, st_eq, if_true, if_false, eq_self, Nat.reduceEqDiff, Nat.reduceMul, reduceIte, kdT, ixT, w_cl, w_ti, w_s1, w_a, w_m12, w_m8, w_m3, w_m4, hl, w_lt, hbi, hs2, hch, t1, t2, f1, hk, if_neg q2, kd_TP, ln_TP]) (sln_ j) 0 (by omega)
    simp (disch := first | omega | assumption | decide | (apply bT_; decide)) only [s175_0, s175_1, s175_2, s175_3, s175_4, s175_7, s175_10, s175_14, s175_15, s175_16, s175_20, s175_21, s175_24, s175_25, s175_27, s175_28, s175_29, s175_32, s175_34, s175_35, s175_36, s175_39, s175_42, s175_43, s175_44, s175_47, s175_50, s175_51, K_v, K_0, acI, acA, acJ, acX, List.map_cons, List.map_nil, List.sum_cons, List.sum_nil, true_and, and_true, posT, b2_0, b2_1, bft, true_or, or_true, Nat.zero_le, Nat.reduceAdd, Nat.reduceLeDiff, hI_uI, hL_uI, hR_uI, nx_uI, sl_uI, hI_uL, hL_uL, hR_uL, nx_uL, sl_uL, hI_uR, hL_uR, hR_uR, nx_uR, sl_uR, st_eq, if_true, if_false, eq_self, Nat.reduceEqDiff, Nat.reduceMul, reduceIte, kdT, ixT, w_cl, w_ti, w_s1, w_a, w_m12, w_m8, w_m3, w_m4, t1, t2, f1, hlen, hsub, if_pos q1]
    refine Iff.trans (show V_ xs d 175 18 _ _ _ _ ↔ _ from L) ?_
    cases han : an_ (fun k => !decide (B (p + k) = sch_ j k)) (sln_ j) 0
    · rw [if_neg (by decide)]
      have nl : ¬ (p + sln_ j < e) := by omega
      rw [s175_18]
      simp (disch := first | omega | assumption | decide | (apply bT_; decide)) only [s175_0, s175_1, s175_2, s175_3, s175_4, s175_7, s175_10, s175_13, s175_14, s175_15, s175_16, s175_20, s175_21, s175_25, s175_27, s175_28, s175_29, s175_32, s175_34, s175_35, s175_36, s175_39, s175_42, s175_43, s175_44, s175_47, s175_50, s175_51, K_v, K_0, acI, acA, acJ, acX, List.map_cons, List.map_nil, List.sum_cons, List.sum_nil, true_and, and_true, posT, b2_0, b2_1, bft, true_or, or_true, Nat.zero_le, Nat.reduceAdd, Nat.reduceLeDiff, hI_uI, hL_uI, hR_uI, nx_uI, sl_uI, hI_uL, hL_uL, hR_uL, nx_uL, sl_uL, hI_uR, hL_uR, hR_uR, nx_uR, sl_uR, st_eq, if_true, if_false, eq_self, Nat.reduceEqDiff, Nat.reduceMul, reduceIte, kdT, ixT, w_cl, w_ti, w_s1, w_a, w_m12, w_m8, w_m3, w_m4, nl, w_lt]
      exact Iff.rfl
    · rw [if_pos rfl]
      exact Iff.rfl
  · have q1 : ¬ (Int32.ofNat (e - p) = Int32.ofNat (sln_ j)) := fun z => q ((w_eq (by omega) (by omega)).mp z)
    rw [decide_eq_false q, Bool.false_and]
    simp (disch := first | omega | assumption | decide | (apply bT_; decide)) only [s175_0, s175_1, s175_2, s175_3, s175_4, s175_7, s175_10, s175_13, s175_14, s175_16, s175_18, s175_20, s175_21, s175_24, s175_25, s175_27, s175_28, s175_29, s175_32, s175_34, s175_35, s175_36, s175_39, s175_42, s175_43, s175_44, s175_47, s175_50, s175_51, K_v, K_0, acI, acA, acJ, acX, List.map_cons, List.map_nil, List.sum_cons, List.sum_nil, true_and, and_true, posT, b2_0, b2_1, bft, true_or, or_true, Nat.zero_le, Nat.reduceAdd, Nat.reduceLeDiff, hI_uI, hL_uI, hR_uI, nx_uI, sl_uI, hI_uL, hL_uL, hR_uL, nx_uL, sl_uL, hI_uR, hL_uR, hR_uR, nx_uR, sl_uR, st_eq, if_true, if_false, eq_self, Nat.reduceEqDiff, Nat.reduceMul, reduceIte, kdT, ixT, w_cl, w_ti, w_s1, w_a, w_m12, w_m8, w_m3, w_m4, t1, t2, f1, hlen, hsub, if_neg q1]
    exact Iff.rfl
theorem c_spelledToken (hT : TX_ B N 29673489 h) (he : e ≤ N) (hp : p ≤ e) (hd : 6 ≤ d) : V_ xs d 46 0 [vA (some 29673489), vI (Int32.ofNat p), vI (Int32.ofNat e), vX 0] [] h Q ↔ Q (some (some (vA (some (tref_ (fx_ (lk_ B p e) 21 22 0)))))) h := by
  have hak : 16 ≤ kd_ 6030755 ∧ kd_ 6030755 ≤ 22 ∨ 34 ≤ kd_ 6030755 ∧ kd_ 6030755 ≤ 36 := by decide
  have h35 : kd_ 6030755 = 35 := by decide
  have h22 : ln_ 6030755 = 22 := by decide
  have hN := hT.1
  have key : ∀ (k i : Nat), i + k = 22 → (V_ xs d 46 2 [vA (some 29673489), vI (Int32.ofNat p), vI (Int32.ofNat e), vI (Int32.ofNat i)] [] h Q ↔ Q (some (some (vA (some (tref_ (fx_ (lk_ B p e) 21 k i)))))) h) := by
    intro k
    induction k with
    | zero =>
      intro i hi
      have nl : ¬ (i < 22) := by omega
      have e21 : tref_ 21 = 5767200 := by decide
      have efx : fx_ (lk_ B p e) 21 0 i = 21 := rfl
      rw [s46_2, efx, e21]
      simp (disch := first | omega | assumption | decide | (apply bT_; decide)) only [s46_0, s46_1, s46_3, s46_6, s46_7, s46_13, s46_14, s46_14c, s46_15, s46_16, s46_17, s46_18, s46_21, s46_24, s46_27, s46_28, s46_28c, s46_29, s46_30, s46_33, s46_36, s46_39, K_v, K_0, acI, acA, acJ, acX, List.map_cons, List.map_nil, List.sum_cons, List.sum_nil, true_and, and_true, posT, b2_0, b2_1, bft, true_or, or_true, Nat.zero_le, Nat.reduceAdd, Nat.reduceLeDiff, hI_uI, hL_uI, hR_uI, nx_uI, sl_uI, hI_uL, hL_uL, hR_uL, nx_uL, sl_uL, hI_uR, hL_uR, hR_uR, nx_uR, sl_uR, st_eq, if_true, if_false, eq_self, Nat.reduceEqDiff, Nat.reduceMul, reduceIte, kdT, ixT, w_cl, w_ti, w_s1, w_a, w_m12, w_m8, w_m3, w_m4, hak, h22, nl, w_lt]
    | succ k ih =>
      intro i hi
      have hl : i < 22 := by omega
      have e1 := toks_f i hl
      obtain ⟨t1, -, -⟩ := tok_f i hl
      have his := fun Q => c_isSpelled (xs := xs) (d := d - 1) (Q := Q) hT he hp hl (by omega)
      have ef : fx_ (lk_ B p e) 21 (k + 1) i = if lk_ B p e i = true then i else fx_ (lk_ B p e) 21 k (i + 1) := rfl
      have k10 : ¬ ((1 : Int32) = 0) := by decide
      rw [s46_2, ef]
      cases hw : lk_ B p e i
      · have his' : ∀ Q : OU_ → AH → Prop, V_ xs (d - 1) 175 0 [vA (some (tref_ i)), vA (some 29673489), vI (Int32.ofNat p), vI (Int32.ofNat e), vX 0] [] h Q ↔ Q (some (some (vI 0))) h := by intro Q; rw [his, hw]; exact Iff.rfl
        simp (disch := first | omega | assumption | decide | (apply bT_; decide)) only [s46_0, s46_1, s46_3, s46_6, s46_7, s46_10, s46_13, s46_14, s46_14c, s46_15, s46_16, s46_17, s46_18, s46_21, s46_27, s46_28, s46_28c, s46_29, s46_30, s46_33, s46_39, K_v, K_0, acI, acA, acJ, acX, List.map_cons, List.map_nil, List.sum_cons, List.sum_nil, true_and, and_true, posT, b2_0, b2_1, bft, true_or, or_true, Nat.zero_le, Nat.reduceAdd, Nat.reduceLeDiff, hI_uI, hL_uI, hR_uI, nx_uI, sl_uI, hI_uL, hL_uL, hR_uL, nx_uL, sl_uL, hI_uR, hL_uR, hR_uR, nx_uR, sl_uR, st_eq, if_true, if_false, eq_self, Nat.reduceEqDiff, Nat.reduceMul, reduceIte, kdT, ixT, w_cl, w_ti, w_s1, w_a, w_m12, w_m8, w_m3, w_m4, hak, h22, h35, hl, w_lt, e1, t1, his', Bool.false_eq_true]
        exact ih (i + 1) (by omega)
      · have his' : ∀ Q : OU_ → AH → Prop, V_ xs (d - 1) 175 0 [vA (some (tref_ i)), vA (some 29673489), vI (Int32.ofNat p), vI (Int32.ofNat e), vX 0] [] h Q ↔ Q (some (some (vI 1))) h := by intro Q; rw [his, hw]; exact Iff.rfl
        simp (disch := first | omega | assumption | decide | (apply bT_; decide)) only [s46_0, s46_1, s46_3, s46_6, s46_7, s46_10, s46_13, s46_14, s46_14c, s46_15, s46_16, s46_17, s46_18, s46_21, s46_24, s46_27, s46_28, s46_28c, s46_29, s46_33, s46_39, K_v, K_0, acI, acA, acJ, acX, List.map_cons, List.map_nil, List.sum_cons, List.sum_nil, true_and, and_true, posT, b2_0, b2_1, bft, true_or, or_true, Nat.zero_le, Nat.reduceAdd, Nat.reduceLeDiff, hI_uI, hL_uI, hR_uI, nx_uI, sl_uI, hI_uL, hL_uL, hR_uL, nx_uL, sl_uL, hI_uR, hL_uR, hR_uR, nx_uR, sl_uR, st_eq, if_true, if_false, eq_self, Nat.reduceEqDiff, Nat.reduceMul, reduceIte, kdT, ixT, w_cl, w_ti, w_s1, w_a, w_m12, w_m8, w_m3, w_m4, hak, h22, h35, hl, w_lt, e1, t1, his', k10]
  simp (disch := first | omega | assumption | decide | (apply bT_; decide)) only [s46_0, s46_1, s46_3, s46_6, s46_7, s46_10, s46_13, s46_14, s46_14c, s46_15, s46_16, s46_17, s46_18, s46_21, s46_24, s46_27, s46_28, s46_28c, s46_29, s46_30, s46_33, s46_36, s46_39, K_v, K_0, acI, acA, acJ, acX, List.map_cons, List.map_nil, List.sum_cons, List.sum_nil, true_and, and_true, posT, b2_0, b2_1, bft, true_or, or_true, Nat.zero_le, Nat.reduceAdd, Nat.reduceLeDiff, hI_uI, hL_uI, hR_uI, nx_uI, sl_uI, hI_uL, hL_uL, hR_uL, nx_uL, sl_uL, hI_uR, hL_uR, hR_uR, nx_uR, sl_uR, st_eq, if_true, if_false, eq_self, Nat.reduceEqDiff, Nat.reduceMul, reduceIte, kdT, ixT, w_cl, w_ti, w_s1, w_a, w_m12, w_m8, w_m3, w_m4]
  exact key 22 0 (by omega)
end CLX
