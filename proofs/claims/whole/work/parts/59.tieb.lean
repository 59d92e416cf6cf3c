/-! casts: what a number is made of -/
def kp_ (c : Nat) (f : Nat → Nat) : Nat → Nat := sm_ (fun r => if f r ≠ 0 ∧ dg_ c r = 12 - (f r - 1) then 1 else 0)
def fl_ (f : Nat → Nat) : Nat → Nat := sm_ (fun r => if f r ≠ 0 then 1 else 0)
def dd_ (k : Nat) : Nat := if k = 0 then 0 else 12 - (k - 1)
def dig_ (f : Nat → Nat) : Nat → Nat := sm_ (fun r => dd_ (f r) * 16 ^ (7 - r))
/-- the model's old cast and the class's former number are the same -/
def OC_ (c n : Nat) (O : Nat → Int32) : Prop := (∀ r, r < 8 → (O r = -1 ∧ dg_ c r = 0) ∨ ∃ b, b < 12 ∧ O r = Int32.ofNat b ∧ dg_ c r = 12 - b) ∧ ∀ r, n ≤ r → r < 8 → O r = -1
def co_ (O : Nat → Int32) : Nat := sm_ (fun r => if O r ≠ -1 then 1 else 0) 8
section TIB
variable {P : PS} {na : Nat} {F G : Nat → Nat → Int32} {σ p c : Nat} {Hs O : Nat → Int32} {f g : Nat → Nat}
theorem cw_split : ∀ {n : Nat}, cw_ n (gw_ c) f = 68719476736 * kp_ c f n + 4294967296 * fl_ f n + dig_ f n := by
  intro n
  induction n with
  | zero => rfl
  | succ n ih =>
    have e1 : cw_ (n + 1) (gw_ c) f = cw_ n (gw_ c) f + gw_ c n (f n) := rfl
    have e2 : kp_ c f (n + 1) = kp_ c f n + (if f n ≠ 0 ∧ dg_ c n = 12 - (f n - 1) then 1 else 0) := rfl
    have e3 : fl_ f (n + 1) = fl_ f n + (if f n ≠ 0 then 1 else 0) := rfl
    have e4 : dig_ f (n + 1) = dig_ f n + dd_ (f n) * 16 ^ (7 - n) := rfl
    rw [e1, e2, e3, e4, ih]
    unfold dd_
    cases hf : f n with
    | zero => simp [gw_]
    | succ b =>
      have e5 : gw_ c n (b + 1) = 4294967296 + (12 - b) * 16 ^ (7 - n) + (if dg_ c n = 12 - b then 68719476736 else 0) := rfl
      have e6 : b + 1 - 1 = b := by omega
      rw [e5, e6, if_pos (show b + 1 ≠ 0 by omega), if_neg (show ¬ (b + 1 = 0) by omega)]
      by_cases q : dg_ c n = 12 - b
      · rw [if_pos q, if_pos ⟨by omega, q⟩]; omega
      · rw [if_neg q, if_neg (fun z => q z.2)]; omega
theorem dd_le {k : Nat} : dd_ k ≤ 12 := by unfold dd_; split <;> omega
theorem dig8 : dig_ f 8 = dd_ (f 0) * 268435456 + dd_ (f 1) * 16777216 + dd_ (f 2) * 1048576 + dd_ (f 3) * 65536 + dd_ (f 4) * 4096 + dd_ (f 5) * 256 + dd_ (f 6) * 16 + dd_ (f 7) := by
  unfold dig_
  simp only [sm_, Nat.reduceSub, Nat.reducePow, Nat.zero_add, Nat.mul_one]
theorem dig_lt8 : dig_ f 8 < 4294967296 := by
  rw [dig8]
  have h0 := dd_le (k := f 0); have h1 := dd_le (k := f 1); have h2 := dd_le (k := f 2); have h3 := dd_le (k := f 3); have h4 := dd_le (k := f 4); have h5 := dd_le (k := f 5); have h6 := dd_le (k := f 6); have h7 := dd_le (k := f 7)
  omega
theorem dig_cmp {r : Nat} (hr : r < 8) (he : ∀ j, j < r → f j = g j) (hl : dd_ (g r) < dd_ (f r)) : dig_ g 8 < dig_ f 8 := by
  rw [dig8, dig8]
  have h0 := dd_le (k := g 0); have h1 := dd_le (k := g 1); have h2 := dd_le (k := g 2); have h3 := dd_le (k := g 3); have h4 := dd_le (k := g 4); have h5 := dd_le (k := g 5); have h6 := dd_le (k := g 6); have h7 := dd_le (k := g 7)
  have hc : r = 0 ∨ r = 1 ∨ r = 2 ∨ r = 3 ∨ r = 4 ∨ r = 5 ∨ r = 6 ∨ r = 7 := by omega
  rcases hc with rfl | rfl | rfl | rfl | rfl | rfl | rfl | rfl
  · omega
  · rw [he 0 (by omega)]; omega
  · rw [he 0 (by omega), he 1 (by omega)]; omega
  · rw [he 0 (by omega), he 1 (by omega), he 2 (by omega)]; omega
  · rw [he 0 (by omega), he 1 (by omega), he 2 (by omega), he 3 (by omega)]; omega
  · rw [he 0 (by omega), he 1 (by omega), he 2 (by omega), he 3 (by omega), he 4 (by omega)]; omega
  · rw [he 0 (by omega), he 1 (by omega), he 2 (by omega), he 3 (by omega), he 4 (by omega), he 5 (by omega)]; omega
  · rw [he 0 (by omega), he 1 (by omega), he 2 (by omega), he 3 (by omega), he 4 (by omega), he 5 (by omega), he 6 (by omega)]; omega
theorem fl_le : ∀ {n : Nat}, fl_ f n ≤ n := by
  intro n
  have : fl_ f n ≤ n * 1 := sm_bd (fun i => by split <;> omega)
  omega
theorem kp_le : ∀ {n : Nat}, kp_ c f n ≤ n := by
  intro n
  have : kp_ c f n ≤ n * 1 := sm_bd (fun i => by split <;> omega)
  omega
theorem pc_ms : pc_ (ms_ 8 f) = fl_ f 8 := by
  unfold pc_ fl_
  apply sm_congr
  intro r hr
  rw [ms_bit, decide_eq_true hr, Bool.true_and]
  by_cases q : f r = 0
  · rw [q]; rfl
  · rw [bne_iff_ne.mpr q, if_pos rfl, if_pos q]
theorem sm_ext {g : Nat → Nat} {n : Nat} : ∀ {k : Nat}, (∀ i, n ≤ i → i < n + k → g i = 0) → sm_ g (n + k) = sm_ g n := by
  intro k
  induction k with
  | zero => intro _; rfl
  | succ k ih =>
    intro h
    show sm_ g (n + k) + g (n + k) = _
    rw [ih (fun i h1 h2 => h i h1 (by omega)), h (n + k) (by omega) (by omega)]; rfl
theorem hands_eq (h8 : qr_ P p ≤ 8) (hO : OC_ c (qr_ P p) O) (hf : ∀ r, f r ≤ 12) : cw_ 8 (gm_ O) f + hc_ P p O (ms_ 8 f) (qr_ P p) + kp_ c f 8 = co_ O := by
  obtain ⟨o1, o2⟩ := hO
  have e : hc_ P p O (ms_ 8 f) (qr_ P p) = hc_ P p O (ms_ 8 f) 8 := by
    unfold hc_
    have := sm_ext (g := fun r => if (ms_ 8 f).testBit r = false ∧ O r ≠ -1 then 1 else 0) (n := qr_ P p) (k := 8 - qr_ P p) (fun i h1 h2 => if_neg (fun z => z.2 (o2 i h1 (by omega))))
    rw [← this, show qr_ P p + (8 - qr_ P p) = 8 by omega]
  rw [e]
  unfold cw_ hc_ kp_ co_
  rw [← sm_add, ← sm_add]
  apply sm_congr
  intro r hr
  have hb : (ms_ 8 f).testBit r = (f r != 0) := by rw [ms_bit, decide_eq_true hr, Bool.true_and]
  rw [hb]
  have hfr := hf r
  cases hfe : f r with
  | zero =>
    show 0 + (if (0 != 0) = false ∧ O r ≠ -1 then 1 else 0) + (if 0 ≠ 0 ∧ dg_ c r = 12 - (0 - 1) then 1 else 0) = _
    by_cases q : O r = -1
    · simp [q]
    · simp [q]
  | succ b =>
    have hbn : (b + 1 != 0) = true := bne_iff_ne.mpr (by omega)
    rw [hbn]
    show (if O r = -1 ∨ O r = Int32.ofNat b then 0 else 1) + (if true = false ∧ O r ≠ -1 then 1 else 0) + (if b + 1 ≠ 0 ∧ dg_ c r = 12 - (b + 1 - 1) then 1 else 0) = _
    rw [show b + 1 - 1 = b by omega]
    rcases o1 r hr with ⟨q1, q2⟩ | ⟨b0, q0, q1, q2⟩
    · rw [if_pos (Or.inl q1), if_neg (fun z => by cases z.1), if_neg (fun z => by have := z.2; omega), if_neg (fun z => z q1)]
    · have n1 : ¬ (O r = -1) := by rw [q1]; exact w_nm1 (by omega)
      rw [if_neg (show ¬ (true = false ∧ O r ≠ -1) from fun z => by cases z.1), if_pos (show O r ≠ -1 from n1)]
      by_cases q : b0 = b
      · rw [if_pos (Or.inr (by rw [q1, q])), if_pos ⟨by omega, by rw [q2, q]⟩]
      · rw [if_neg, if_neg (fun z => by have := z.2; omega)]
        rintro (z | z)
        · exact n1 z
        · rw [q1] at z; exact q ((w_eq (by omega) (by omega)).mp z)
end TIB
