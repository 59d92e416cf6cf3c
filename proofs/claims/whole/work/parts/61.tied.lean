/-! casts: reading a number -/
section TID
variable {P : PS} {na : Nat} {F G : Nat → Nat → Int32} {σ p c : Nat} {Hs O : Nat → Int32} {f g : Nat → Nat} {o : Option (Nat × Nat)} {y : Int64}
theorem dg_cw {r : Nat} (hr : r < 8) : dg_ (cw_ 8 (gw_ c) f) r = dd_ (f r) := by
  rw [cw_split, dig8]
  have h0 := dd_le (k := f 0); have h1 := dd_le (k := f 1); have h2 := dd_le (k := f 2); have h3 := dd_le (k := f 3); have h4 := dd_le (k := f 4); have h5 := dd_le (k := f 5); have h6 := dd_le (k := f 6); have h7 := dd_le (k := f 7)
  have hc : r = 0 ∨ r = 1 ∨ r = 2 ∨ r = 3 ∨ r = 4 ∨ r = 5 ∨ r = 6 ∨ r = 7 := by omega
  unfold dg_
  rcases hc with rfl | rfl | rfl | rfl | rfl | rfl | rfl | rfl <;> simp only [Nat.reduceSub, Nat.reducePow, Nat.div_one] <;> omega
theorem cw_fl : cw_ 8 (gw_ c) f / 2 ^ 32 % 16 = fl_ f 8 := by
  rw [cw_split]
  have d1 := dig_lt8 (f := f)
  have l1 := fl_le (f := f) (n := 8)
  simp only [Nat.reducePow]
  omega
theorem cw_kp : cw_ 8 (gw_ c) f / 2 ^ 36 % 16 = kp_ c f 8 := by
  rw [cw_split]
  have d1 := dig_lt8 (f := f)
  have l1 := fl_le (f := f) (n := 8)
  have l2 := kp_le (c := c) (f := f) (n := 8)
  simp only [Nat.reducePow]
  omega
theorem w_15 {a : Nat} : Int32.ofNat a &&& 15 = Int32.ofNat (a % 16) := by
  rw [show (15 : Int32) = Int32.ofNat 15 from rfl, w_and, show 15 = 2 ^ 4 - 1 from rfl, Nat.and_two_pow_sub_one_eq_mod]
theorem us_fl : (us_ (Int64.ofNat (cw_ 8 (gw_ c) f)) 32).toInt32 &&& 15 = Int32.ofNat (fl_ f 8) := by
  have := cw_bd (c := c) (f := f)
  rw [show (32 : Int32) = Int32.ofNat 32 from rfl, l_us (by omega) (by omega), l_i32, w_15, cw_fl]
theorem us_kp : (us_ (Int64.ofNat (cw_ 8 (gw_ c) f)) 36).toInt32 &&& 15 = Int32.ofNat (kp_ c f 8) := by
  have := cw_bd (c := c) (f := f)
  rw [show (36 : Int32) = Int32.ofNat 36 from rfl, l_us (by omega) (by omega), l_i32, w_15, cw_kp]
theorem ain_dg {v r : Nat} (hv : v < 9223372036854775808) (hr : r < 8) : ain_ (Int64.ofNat v) (Int32.ofNat r) = (if dg_ v r = 0 then -1 else Int32.ofNat (12 - dg_ v r)) ∨ 12 < dg_ v r := by
  by_cases q : 12 < dg_ v r
  · exact Or.inr q
  · left
    unfold ain_
    rw [w_plc r hr, l_us hv (by omega), l_i32, w_15, p16 r hr]
    show (if Int32.ofNat (dg_ v r) = 0 then -1 else 12 - Int32.ofNat (dg_ v r)) = _
    have hdl : dg_ v r < 16 := Nat.mod_lt _ (by omega)
    by_cases q0 : dg_ v r = 0
    · rw [if_pos q0, q0]; rfl
    · have q1 : ¬ (Int32.ofNat (dg_ v r) = 0) := fun z => q0 ((w_eq (b := 0) (by omega) (by omega)).mp z)
      rw [if_neg q0, if_neg q1]
      exact w_sub (a := 12) (by omega)
/-- the cast at hand: the class's number and the model's row -/
theorem hand_cw (hna : na ≤ 12) (hf : CC_ F G P p na f) (h8 : qr_ P p ≤ 8) (hA : ∀ r, r < qr_ P p → agr_ (Hs r) (f r)) : OC_ (cw_ 8 (gw_ c) f) (qr_ P p) (fun r => if r < qr_ P p then Hs r else -1) := by
  refine ⟨fun r hr => ?_, fun r h1 h2 => if_neg (by omega)⟩
  dsimp only
  rw [dg_cw hr]
  have hb := hf.1.2.1 r
  by_cases q : r < qr_ P p
  · rw [if_pos q]
    rcases hA r q with ⟨e1, e2⟩ | ⟨b, e1, e2⟩
    · left; rw [e1]; exact ⟨e2, rfl⟩
    · right
      refine ⟨b, by omega, e2, ?_⟩
      rw [e1]; unfold dd_; rw [if_neg (by omega)]; omega
  · left
    rw [if_neg q]
    refine ⟨rfl, ?_⟩
    have : f r = 0 := by
      cases hfe : f r with
      | zero => rfl
      | succ a =>
        obtain ⟨-, -, o3⟩ := Val_own hf.1 (show f r ≠ 0 by omega)
        unfold cm_ at o3
        exact absurd (of_decide_eq_true (Bool.and_eq_true_iff.mp o3).1) q
    rw [this]; rfl
theorem ain_oc {n r : Nat} (hc : c < 9223372036854775808) (hO : OC_ c n O) (hr : r < 8) : ain_ (Int64.ofNat c) (Int32.ofNat r) = O r := by
  rcases hO.1 r hr with ⟨e1, e2⟩ | ⟨b, e0, e1, e2⟩
  · rcases ain_dg hc hr with z | z
    · rw [z, if_pos e2, e1]
    · omega
  · rcases ain_dg hc hr with z | z
    · rw [z, if_neg (by omega), e1, e2, show 12 - (12 - b) = b by omega]
    · omega
theorem co_fl (hf : CC_ F G P p na f) (hna : na ≤ 12) (h8 : qr_ P p ≤ 8) (hA : ∀ r, r < qr_ P p → agr_ (Hs r) (f r)) : co_ (fun r => if r < qr_ P p then Hs r else -1) = fl_ f 8 := by
  unfold co_ fl_
  apply sm_congr
  intro r hr
  dsimp only
  have hb := hf.1.2.1 r
  by_cases q : r < qr_ P p
  · simp only [if_pos q]
    rcases hA r q with ⟨e1, e2⟩ | ⟨b, e1, e2⟩
    · simp [e1, e2]
    · have n1 := w_nm1 (show b < 1000 by omega)
      simp [e1, e2, n1]
  · simp only [if_neg q]
    have : f r = 0 := by
      cases hfe : f r with
      | zero => rfl
      | succ a =>
        obtain ⟨-, -, o3⟩ := Val_own hf.1 (show f r ≠ 0 by omega)
        unfold cm_ at o3
        exact absurd (of_decide_eq_true (Bool.and_eq_true_iff.mp o3).1) q
    simp [this]
end TID
