/-! the fill: sets in their order -/
def key_ (s : Nat) : Nat → Nat → Nat
  | 0, _ => 0
  | k + 1, i => if s >>> i = 0 then 0 else if s.testBit i = true then 1 + key_ s k (i + 1) else 2 ^ k + key_ s k (i + 1)
def key12_ (s : Nat) : Nat := key_ s 12 0
section KEY
variable {a b s : Nat}
theorem sh_tb {i : Nat} (h : s.testBit i = true) : s >>> i ≠ 0 := by
  intro z
  have : (s >>> i).testBit 0 = true := by rw [Nat.testBit_shiftRight]; exact h
  rw [z, Nat.zero_testBit] at this
  cases this
theorem sh_dn {i j : Nat} (h : s >>> i ≠ 0) (hj : j ≤ i) : s >>> j ≠ 0 := by
  intro z
  apply h
  rw [show i = j + (i - j) by omega, Nat.shiftRight_add, z, Nat.zero_shiftRight]
theorem sh_up {i : Nat} (h : s >>> i ≠ 0) (hb : s.testBit i = false) : s >>> (i + 1) ≠ 0 := by
  intro z
  apply h
  apply Nat.eq_of_testBit_eq
  intro j
  rw [Nat.testBit_shiftRight, Nat.zero_testBit]
  cases j with
  | zero => exact hb
  | succ j =>
    have : (s >>> (i + 1)).testBit j = false := by rw [z, Nat.zero_testBit]
    rw [Nat.testBit_shiftRight] at this
    rw [show i + (j + 1) = i + 1 + j by omega]
    exact this
theorem key_lt : ∀ {k i : Nat}, key_ s k i < 2 ^ k := by
  intro k
  induction k with
  | zero => intro i; exact Nat.one_pos
  | succ k ih =>
    intro i
    have := ih (i := i + 1)
    have h2 : 2 ^ (k + 1) = 2 ^ k + 2 ^ k := by rw [Nat.pow_succ]; omega
    show (if s >>> i = 0 then 0 else if s.testBit i = true then 1 + key_ s k (i + 1) else 2 ^ k + key_ s k (i + 1)) < _
    have := Nat.two_pow_pos k
    split
    · omega
    · split <;> omega
theorem key_pos {k i : Nat} (h : s >>> i ≠ 0) : 0 < key_ s (k + 1) i := by
  show 0 < (if s >>> i = 0 then 0 else if s.testBit i = true then 1 + key_ s k (i + 1) else 2 ^ k + key_ s k (i + 1))
  have := Nat.two_pow_pos k
  rw [if_neg h]
  split <;> omega
/-- the first place where two sets differ says which is before -/
theorem key_cmp {i : Nat} (ha : a.testBit i = true) (hb : b.testBit i = false) : ∀ {e k j : Nat}, j + e = i → (∀ x, j ≤ x → x < i → a.testBit x = b.testBit x) → b < 2 ^ (i + 1 + k) → (b >>> i = 0 → key_ b (k + 1 + e) j < key_ a (k + 1 + e) j) ∧ (b >>> i ≠ 0 → key_ a (k + 1 + e) j < key_ b (k + 1 + e) j) := by
  intro e
  induction e with
  | zero =>
    intro k j hj hs hlt
    have hj' : j = i := by omega
    subst hj'
    have ea : key_ a (k + 1) j = 1 + key_ a k (j + 1) := by
      show (if a >>> j = 0 then 0 else if a.testBit j = true then 1 + key_ a k (j + 1) else 2 ^ k + key_ a k (j + 1)) = _
      rw [if_neg (sh_tb ha), if_pos ha]
    constructor
    · intro z
      have eb : key_ b (k + 1) j = 0 := by
        show (if b >>> j = 0 then 0 else if b.testBit j = true then 1 + key_ b k (j + 1) else 2 ^ k + key_ b k (j + 1)) = _
        rw [if_pos z]
      rw [Nat.add_zero, ea, eb]; omega
    · intro z
      have eb : key_ b (k + 1) j = 2 ^ k + key_ b k (j + 1) := by
        show (if b >>> j = 0 then 0 else if b.testBit j = true then 1 + key_ b k (j + 1) else 2 ^ k + key_ b k (j + 1)) = _
        rw [if_neg z, if_neg (by rw [hb]; decide)]
      have h1 := key_lt (s := a) (k := k) (i := j + 1)
      have h2 : 0 < key_ b k (j + 1) := by
        cases k with
        | zero =>
          exfalso
          apply sh_up z hb
          rw [Nat.shiftRight_eq_div_pow, Nat.div_eq_of_lt (by simpa using hlt)]
        | succ k => exact key_pos (sh_up z hb)
      rw [Nat.add_zero, ea, eb]; omega
  | succ e ih =>
    intro k j hj hs hlt
    obtain ⟨i1, i2⟩ := ih (k := k) (j := j + 1) (by omega) (fun x q1 q2 => hs x (by omega) q2) hlt
    have hna : a >>> j ≠ 0 := sh_dn (sh_tb ha) (by omega)
    have hsb := hs j (by omega) (by omega)
    have ea : key_ a (k + 1 + (e + 1)) j = if a.testBit j = true then 1 + key_ a (k + 1 + e) (j + 1) else 2 ^ (k + 1 + e) + key_ a (k + 1 + e) (j + 1) := by
      show (if a >>> j = 0 then 0 else if a.testBit j = true then 1 + key_ a (k + 1 + e) (j + 1) else 2 ^ (k + 1 + e) + key_ a (k + 1 + e) (j + 1)) = _
      rw [if_neg hna]
    have eb : key_ b (k + 1 + (e + 1)) j = if b >>> j = 0 then 0 else if b.testBit j = true then 1 + key_ b (k + 1 + e) (j + 1) else 2 ^ (k + 1 + e) + key_ b (k + 1 + e) (j + 1) := rfl
    have hpos := Nat.two_pow_pos (k + 1 + e)
    rw [ea, eb, hsb]
    constructor
    · intro z
      have := i1 z
      by_cases q : b >>> j = 0
      · rw [if_pos q]; split <;> omega
      · rw [if_neg q]; split <;> omega
    · intro z
      have := i2 z
      rw [if_neg (sh_dn z (by omega))]
      split <;> omega
theorem key_c12 {i : Nat} (hi : i < 12) (ha : a.testBit i = true) (hb : b.testBit i = false) (hs : ∀ x, x < i → a.testBit x = b.testBit x) (hlt : b < 4096) : (b >>> i = 0 → key12_ b < key12_ a) ∧ (b >>> i ≠ 0 → key12_ a < key12_ b) := by
  have := key_cmp ha hb (e := i) (k := 11 - i) (j := 0) (by omega) (fun x _ h => hs x h) (by rw [show i + 1 + (11 - i) = 12 by omega]; exact hlt)
  rw [show 11 - i + 1 + i = 12 by omega] at this
  exact this
/-- the first place where two sets differ -/
theorem fst_df : ∀ {n : Nat}, (∃ x, x < n ∧ a.testBit x ≠ b.testBit x) → ∃ i, i < n ∧ a.testBit i ≠ b.testBit i ∧ ∀ x, x < i → a.testBit x = b.testBit x := by
  intro n
  induction n with
  | zero => rintro ⟨x, hx, -⟩; exact absurd hx (Nat.not_lt_zero _)
  | succ n ih =>
    rintro ⟨x, hx, hd⟩
    by_cases q : ∃ x, x < n ∧ a.testBit x ≠ b.testBit x
    · obtain ⟨i, h1, h2, h3⟩ := ih q
      exact ⟨i, by omega, h2, h3⟩
    · have hall : ∀ y, y < n → a.testBit y = b.testBit y := fun y hy => Decidable.byContradiction (fun z => q ⟨y, hy, z⟩)
      have : x = n := by
        rcases Nat.lt_or_ge x n with z | z
        · exact absurd (hall x z) hd
        · omega
      exact ⟨n, by omega, by rw [← this]; exact hd, hall⟩
theorem ne_df (h : a ≠ b) (ha : a < 4096) (hb : b < 4096) : ∃ i, i < 12 ∧ a.testBit i ≠ b.testBit i ∧ ∀ x, x < i → a.testBit x = b.testBit x := by
  apply fst_df
  apply Classical.byContradiction
  intro z
  apply h
  apply Nat.eq_of_testBit_eq
  intro j
  rcases Nat.lt_or_ge j 12 with q | q
  · exact Decidable.byContradiction (fun y => z ⟨j, q, y⟩)
  · have e : 2 ^ 12 ≤ 2 ^ j := Nat.pow_le_pow_right (by omega) q
    rw [Nat.testBit_lt_two_pow (Nat.lt_of_lt_of_le ha e), Nat.testBit_lt_two_pow (Nat.lt_of_lt_of_le hb e)]
theorem key_inj (ha : a < 4096) (hb : b < 4096) (h : key12_ a = key12_ b) : a = b := by
  apply Decidable.byContradiction
  intro q
  obtain ⟨i, h1, h2, h3⟩ := ne_df q ha hb
  cases ta : a.testBit i
  · have tb : b.testBit i = true := by cases tb : b.testBit i; rw [ta, tb] at h2; exact absurd rfl h2; rfl
    have := key_c12 h1 tb ta (fun x hx => (h3 x hx).symm) ha
    by_cases z : a >>> i = 0
    · have := this.1 z; omega
    · have := this.2 z; omega
  · have tb : b.testBit i = false := by cases tb : b.testBit i; rfl; rw [ta, tb] at h2; exact absurd rfl h2
    have := key_c12 h1 ta tb h3 hb
    by_cases z : b >>> i = 0
    · have := this.1 z; omega
    · have := this.2 z; omega
end KEY
/-! isBefore -/
def lob_ (x : Nat) : Nat → Nat → Nat
  | 0, i => i
  | k + 1, i => if x.testBit i = true then i else lob_ x k (i + 1)
theorem lob_64 : ∀ a, a < 64 → ∀ b, b < 64 → 64 * a + b = 0 ∨ Int32.ofNat (64 * a + b) &&& -Int32.ofNat (64 * a + b) = Int32.ofNat (2 ^ lob_ (64 * a + b) 12 0) := by decide +kernel
theorem neg_bit : ∀ i, i < 12 → ∀ j, j < 32 → (-(BitVec.ofNat 32 (2 ^ i))).getLsbD j = decide (i ≤ j) := by decide +kernel
section BEF
variable {xs : Nat → Int32} {d : Nat} {h : AH} {Q : OU_ → AH → Prop} {a b : Nat}
theorem lob_sp {x : Nat} {i : Nat} (hx : x.testBit i = true) : ∀ {k j : Nat}, j ≤ i → i < j + k → (∀ y, j ≤ y → y < i → x.testBit y = false) → lob_ x k j = i := by
  intro k
  induction k with
  | zero => intro j h1 h2 _; omega
  | succ k ih =>
    intro j h1 h2 h3
    show (if x.testBit j = true then j else lob_ x k (j + 1)) = i
    by_cases q : j = i
    · rw [q, if_pos hx]
    · rw [h3 j (by omega) (by omega), if_neg (by decide)]
      exact ih (by omega) (by omega) (fun y q1 q2 => h3 y (by omega) q2)
theorem and_low {i : Nat} (hi : i < 12) : Int32.ofNat a &&& Int32.ofNat (2 ^ i) = 0 ↔ a.testBit i = false := by
  rw [w_and]
  have e : a &&& 2 ^ i = if a.testBit i = true then 2 ^ i else 0 := by
    apply Nat.eq_of_testBit_eq
    intro j
    rw [Nat.testBit_and, Nat.testBit_two_pow]
    by_cases q : i = j
    · rw [← q, decide_eq_true rfl, Bool.and_true]
      cases a.testBit i
      · rw [if_neg (by decide), Nat.zero_testBit]
      · rw [if_pos rfl, Nat.testBit_two_pow, decide_eq_true rfl]
    · rw [decide_eq_false q, Bool.and_false]
      split
      · rw [Nat.testBit_two_pow, decide_eq_false q]
      · rw [Nat.zero_testBit]
  rw [e]
  cases ht : a.testBit i
  · rw [if_neg (by decide)]
    exact ⟨fun _ => rfl, fun _ => rfl⟩
  · rw [if_pos rfl]
    have : ∀ i, i < 12 → ¬ (Int32.ofNat (2 ^ i) = 0) := by decide +kernel
    exact ⟨fun z => absurd z (this i hi), fun z => by cases z⟩
theorem and_high {i : Nat} (hi : i < 12) (ha : a < 4096) : Int32.ofNat a &&& -Int32.ofNat (2 ^ i) = 0 ↔ a >>> i = 0 := by
  have bits : ∀ j, j < 32 → ((BitVec.ofNat 32 a) &&& (-(BitVec.ofNat 32 (2 ^ i)))).getLsbD j = (a.testBit j && decide (i ≤ j)) := by
    intro j hj
    rw [BitVec.getLsbD_and, neg_bit i hi j hj, BitVec.getLsbD_ofNat, decide_eq_true hj, Bool.true_and]
  constructor
  · intro z
    have z2 : (BitVec.ofNat 32 a) &&& (-(BitVec.ofNat 32 (2 ^ i))) = 0 := congrArg Int32.toBitVec z
    apply Nat.eq_of_testBit_eq
    intro j
    rw [Nat.testBit_shiftRight, Nat.zero_testBit]
    rcases Nat.lt_or_ge (i + j) 32 with q | q
    · have := bits (i + j) q
      rw [z2, decide_eq_true (by omega), Bool.and_true] at this
      rw [← this]
      exact BitVec.getLsbD_zero
    · exact Nat.testBit_lt_two_pow (Nat.lt_of_lt_of_le (show a < 2 ^ 12 from ha) (Nat.pow_le_pow_right (by omega) (by omega)))
  · intro z
    apply Int32.toBitVec_inj.mp
    apply BitVec.eq_of_getLsbD_eq
    intro j hj
    show ((BitVec.ofNat 32 a) &&& (-(BitVec.ofNat 32 (2 ^ i)))).getLsbD j = (0 : BitVec 32).getLsbD j
    have e0 : (0 : BitVec 32).getLsbD j = false := BitVec.getLsbD_zero
    rw [bits j hj, e0]
    by_cases q : i ≤ j
    · have : (a >>> i).testBit (j - i) = false := by rw [z, Nat.zero_testBit]
      rw [Nat.testBit_shiftRight, show i + (j - i) = j by omega] at this
      rw [this, Bool.false_and]
    · rw [decide_eq_false q, Bool.and_false]
theorem c_isBefore (hab : a ≠ b) (ha : a < 4096) (hb : b < 4096) : V_ xs d 97 0 [vI (Int32.ofNat a), vI (Int32.ofNat b), vX 0, vX 0] [] h Q ↔ Q (some (some (vI (b2_ (decide (key12_ a < key12_ b)))))) h := by
  obtain ⟨i, h1, h2, h3⟩ := ne_df hab ha hb
  have hx : (a ^^^ b).testBit i = true := by
    rw [Nat.testBit_xor]
    cases ta : a.testBit i <;> cases tb : b.testBit i <;> rw [ta, tb] at h2 <;> first | rfl | exact absurd rfl h2
  have hlo : lob_ (a ^^^ b) 12 0 = i := lob_sp hx (by omega) (by omega) (fun y _ q => by rw [Nat.testBit_xor, h3 y q, Bool.xor_self])
  have hxl : a ^^^ b < 4096 := Nat.xor_lt_two_pow (n := 12) ha hb
  have hl := lob_64 ((a ^^^ b) / 64) (by omega) ((a ^^^ b) % 64) (by omega)
  rw [Nat.div_add_mod, hlo] at hl
  have hl : Int32.ofNat (a ^^^ b) &&& -Int32.ofNat (a ^^^ b) = Int32.ofNat (2 ^ i) := by
    rcases hl with z | z
    · rw [z, Nat.zero_testBit] at hx; cases hx
    · exact z
  have hxo := w_xor (a := a) (b := b)
  have al := and_low (a := a) h1
  have ah := and_high h1 ha
  have bh := and_high h1 hb
  cases ta : a.testBit i
  · have tb : b.testBit i = true := by cases tb : b.testBit i; rw [ta, tb] at h2; exact absurd rfl h2; rfl
    have kc := key_c12 h1 tb ta (fun x hx => (h3 x hx).symm) ha
    have z1 := al.mpr ta
    by_cases z : a >>> i = 0
    · have z2 := ah.mpr z
      rw [decide_eq_true (kc.1 z)]
      simp (disch := first | omega | assumption | decide | (apply bT_; decide)) only [s97_0, s97_1, s97_2, s97_3, s97_4, s97_5, s97_6, s97_7, s97_8, s97_9, s97_10, s97_11, s97_12, s97_16, s97_17, s97_18, s97_19, s97_22, s97_23, s97_26, s97_27, s97_30, s97_31, s97_32, s97_33, s97_34, s97_37, s97_38, s97_42, K_v, K_0, acI, acA, acJ, acX, List.map_cons, List.map_nil, List.sum_cons, List.sum_nil, true_and, and_true, posT, b2_0, b2_1, bft, true_or, or_true, Nat.zero_le, Nat.reduceAdd, Nat.reduceLeDiff, hxo, hl, z1, z2]
      exact Iff.rfl
    · have z2 : ¬ _ := fun y => z (ah.mp y)
      have := kc.2 z
      rw [decide_eq_false (by omega)]
      simp (disch := first | omega | assumption | decide | (apply bT_; decide)) only [s97_0, s97_1, s97_2, s97_3, s97_4, s97_5, s97_6, s97_7, s97_8, s97_9, s97_10, s97_11, s97_12, s97_16, s97_17, s97_18, s97_19, s97_22, s97_23, s97_26, s97_27, s97_30, s97_31, s97_32, s97_33, s97_34, s97_38, s97_41, s97_42, K_v, K_0, acI, acA, acJ, acX, List.map_cons, List.map_nil, List.sum_cons, List.sum_nil, true_and, and_true, posT, b2_0, b2_1, bft, true_or, or_true, Nat.zero_le, Nat.reduceAdd, Nat.reduceLeDiff, hxo, hl, z1, z2]
      exact Iff.rfl
  · have tb : b.testBit i = false := by cases tb : b.testBit i; rfl; rw [ta, tb] at h2; exact absurd rfl h2
    have kc := key_c12 h1 ta tb h3 hb
    have z1 : ¬ _ := fun y => by rw [al.mp y] at ta; cases ta
    by_cases z : b >>> i = 0
    · have z2 := bh.mpr z
      have := kc.1 z
      rw [decide_eq_false (by omega)]
      simp (disch := first | omega | assumption | decide | (apply bT_; decide)) only [s97_0, s97_1, s97_2, s97_3, s97_4, s97_5, s97_6, s97_7, s97_8, s97_9, s97_10, s97_11, s97_12, s97_15, s97_16, s97_17, s97_18, s97_19, s97_23, s97_26, s97_27, s97_31, s97_32, s97_33, s97_34, s97_37, s97_38, s97_41, s97_42, K_v, K_0, acI, acA, acJ, acX, List.map_cons, List.map_nil, List.sum_cons, List.sum_nil, true_and, and_true, posT, b2_0, b2_1, bft, true_or, or_true, Nat.zero_le, Nat.reduceAdd, Nat.reduceLeDiff, hxo, hl, z1, z2]
      exact Iff.rfl
    · have z2 : ¬ _ := fun y => z (bh.mp y)
      rw [decide_eq_true (kc.2 z)]
      simp (disch := first | omega | assumption | decide | (apply bT_; decide)) only [s97_0, s97_1, s97_2, s97_3, s97_4, s97_5, s97_6, s97_7, s97_8, s97_9, s97_10, s97_11, s97_12, s97_15, s97_16, s97_17, s97_18, s97_19, s97_22, s97_23, s97_27, s97_31, s97_32, s97_33, s97_34, s97_37, s97_38, s97_41, s97_42, K_v, K_0, acI, acA, acJ, acX, List.map_cons, List.map_nil, List.sum_cons, List.sum_nil, true_and, and_true, posT, b2_0, b2_1, bft, true_or, or_true, Nat.zero_le, Nat.reduceAdd, Nat.reduceLeDiff, hxo, hl, z1, z2]
      exact Iff.rfl
end BEF
