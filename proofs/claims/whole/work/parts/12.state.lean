/-! numbers again; what a method leaves as it was -/
theorem w_a {a b : Nat} : Int32.ofNat a + Int32.ofNat b = Int32.ofNat (a + b) := (Int32.ofNat_add a b).symm
theorem w_m12 {a : Nat} : 12 * Int32.ofNat a = Int32.ofNat (12 * a) := by rw [Int32.ofNat_mul]; rfl
theorem w_m8 {a : Nat} : 8 * Int32.ofNat a = Int32.ofNat (8 * a) := by rw [Int32.ofNat_mul]; rfl
theorem w_m3 {a : Nat} : 3 * Int32.ofNat a = Int32.ofNat (3 * a) := by rw [Int32.ofNat_mul]; rfl
theorem w_m4 {a : Nat} : 4 * Int32.ofNat a = Int32.ofNat (4 * a) := by rw [Int32.ofNat_mul]; rfl
theorem w_sub {a b : Nat} (hb : b ≤ a) : Int32.ofNat a - Int32.ofNat b = Int32.ofNat (a - b) := (Int32.ofNat_sub a b hb).symm
theorem w_p1 {a : Nat} (hb : 1 ≤ a) : Int32.ofNat a - 1 = Int32.ofNat (a - 1) := (Int32.ofNat_sub a 1 hb).symm
theorem w_ltl {a : Nat} {n : Int32} {k : Nat} (hk : n = Int32.ofNat k) (ha : a < 2147483648) (hk2 : k < 2147483648) : (Int32.ofNat a < n) ↔ a < k := by rw [hk, w_lt ha hk2]
theorem w12 {a : Nat} (ha : a < 2147483648) : (Int32.ofNat a < 12) ↔ a < 12 := w_ltl rfl ha (by omega)
theorem w8 {a : Nat} (ha : a < 2147483648) : (Int32.ofNat a < 8) ↔ a < 8 := w_ltl rfl ha (by omega)
theorem w3 {a : Nat} (ha : a < 2147483648) : (Int32.ofNat a < 3) ↔ a < 3 := w_ltl rfl ha (by omega)
theorem w20 {a : Nat} (ha : a < 2147483648) : (Int32.ofNat a < 20) ↔ a < 20 := w_ltl rfl ha (by omega)
theorem w200 {a : Nat} (ha : a < 2147483648) : (Int32.ofNat a < 200) ↔ a < 200 := w_ltl rfl ha (by omega)
theorem w256 {a : Nat} (ha : a < 2147483648) : (Int32.ofNat a < 256) ↔ a < 256 := w_ltl rfl ha (by omega)
theorem w_eql {a : Nat} {n : Int32} {k : Nat} (hk : n = Int32.ofNat k) (ha : a < 2147483648) (hk2 : k < 2147483648) : (Int32.ofNat a = n) ↔ a = k := by rw [hk, w_eq ha hk2]
theorem e12 {a : Nat} (ha : a < 2147483648) : (Int32.ofNat a = 12) ↔ a = 12 := w_eql rfl ha (by omega)
theorem e8' {a : Nat} (ha : a < 2147483648) : (Int32.ofNat a = 8) ↔ a = 8 := w_eql rfl ha (by omega)
theorem e3' {a : Nat} (ha : a < 2147483648) : (Int32.ofNat a = 3) ↔ a = 3 := w_eql rfl ha (by omega)
theorem e200 {a : Nat} (ha : a < 2147483648) : (Int32.ofNat a = 200) ↔ a = 200 := w_eql rfl ha (by omega)
theorem w_n0 {a : Nat} (ha : a < 2147483648) : ¬ (Int32.ofNat a < 0) := by
  rw [Int32.lt_iff_toInt_lt, w_ti ha]
  show ¬ ((a : Int) < 0)
  omega
theorem kdT {a k : Nat} (h : kd_ a = k) : (kd_ a = k) ↔ True := ⟨fun _ => trivial, fun _ => h⟩
theorem ix_of {i : Int32} {n : Nat} (h1 : 0 ≤ i.toInt) (h2 : i.toInt < n) : ix_ i n := ⟨h1, h2⟩
/-- a number that isn't negative -/
theorem w_of {x : Int32} (h : 0 ≤ x.toInt) : ∃ a : Nat, x = Int32.ofNat a ∧ (a : Int) = x.toInt ∧ a < 2147483648 := by
  refine ⟨x.toNatClampNeg, (Int32.ofNat_toNatClampNeg x (Int32.le_iff_toInt_le.mpr h)).symm, ?_, ?_⟩
  · show ((x.toInt.toNat : Nat) : Int) = _
    omega
  · have := x.toInt_lt
    show x.toInt.toNat < _
    omega
theorem i8_rt {x : Int8} : nb_ 4 x.toInt32 = true := by
  unfold nb_
  rw [if_neg (by decide), if_pos rfl, Int8.toInt8_toInt32]
  exact beq_self_eq_true _
theorem bT_ {a : Nat} {x : Int8} (h : kd_ a = 17) : kd_ a = 17 ∧ nb_ 4 x.toInt32 = true ∨ kd_ a = 18 ∧ nb_ 3 x.toInt32 = true := Or.inl ⟨h, i8_rt⟩
theorem uI_comm {h : AH} {a b : Nat} {f g : Nat → Int32} (n : a ≠ b) : uI_ (uI_ h a f) b g = uI_ (uI_ h b g) a f := by
  unfold uI_
  refine Prod.ext ?_ rfl
  funext c
  show (if c = b then g else if c = a then f else h.1 c) = (if c = a then f else if c = b then g else h.1 c)
  by_cases q : c = b
  · rw [if_pos q, if_neg (fun z => n (z.symm.trans q)), if_pos q]
  · rw [if_neg q, if_neg q]
abbrev Do_ (xs : Nat → Int32) (d m : Nat) (as : List AV) (h : AH) (o : OU_) (h' : AH) : Prop := ∀ Q : OU_ → AH → Prop, V_ xs d m 0 as [] h Q ↔ Q o h'
/-- what a method of the model leaves: all rows but those of the cells W, all fields of the model but J -/
def FM_ (W J : List Nat) (h h' : AH) : Prop := hL_ h' = hL_ h ∧ hR_ h' = hR_ h ∧ nx_ h' = nx_ h ∧ sl_ h' = sl_ h ∧ (∀ a, a ≠ 33554440 → a ∉ W → hI_ h' a = hI_ h a) ∧ (∀ j, j ∉ J → hI_ h' 33554440 j = hI_ h 33554440 j)
theorem FM_.rf {W J : List Nat} {h : AH} : FM_ W J h h := ⟨rfl, rfl, rfl, rfl, fun _ _ _ => rfl, fun _ _ => rfl⟩
theorem FM_.tr {W J : List Nat} {h h1 h2 : AH} (f : FM_ W J h h1) (g : FM_ W J h1 h2) : FM_ W J h h2 := by
  obtain ⟨f1, f2, f3, f4, f5, f6⟩ := f
  obtain ⟨g1, g2, g3, g4, g5, g6⟩ := g
  exact ⟨g1.trans f1, g2.trans f2, g3.trans f3, g4.trans f4, fun a h1 h2 => (g5 a h1 h2).trans (f5 a h1 h2), fun j hj => (g6 j hj).trans (f6 j hj)⟩
theorem FM_.uM {W J : List Nat} {h h1 : AH} {j : Nat} {v : Int32} (f : FM_ W J h h1) (hj : j ∈ J) : FM_ W J h (uI_ h1 33554440 (st_ (hI_ h1 33554440) j v)) := by
  obtain ⟨f1, f2, f3, f4, f5, f6⟩ := f
  refine ⟨f1, f2, f3, f4, fun a h1 h2 => ?_, fun k hk => ?_⟩
  · rw [hI_uI, if_neg h1]; exact f5 a h1 h2
  · rw [hI_uI, if_pos rfl, st_eq, if_neg (fun (e : k = j) => hk (e ▸ hj))]; exact f6 k hk
theorem FM_.uW {W J : List Nat} {h h1 : AH} {a : Nat} {r : Nat → Int32} (f : FM_ W J h h1) (ha : a ∈ W) (hM : a ≠ 33554440) : FM_ W J h (uI_ h1 a r) := by
  obtain ⟨f1, f2, f3, f4, f5, f6⟩ := f
  refine ⟨f1, f2, f3, f4, fun b h1 h2 => ?_, fun k hk => ?_⟩
  · rw [hI_uI, if_neg (fun (e : b = a) => h2 (e ▸ ha))]; exact f5 b h1 h2
  · rw [hI_uI, if_neg (fun e => hM e.symm)]; exact f6 k hk
theorem FM_.mono {W J W' J' : List Nat} {h h1 : AH} (f : FM_ W J h h1) (hW : ∀ a ∈ W, a ∈ W') (hJ : ∀ a ∈ J, a ∈ J') : FM_ W' J' h h1 := by
  obtain ⟨f1, f2, f3, f4, f5, f6⟩ := f
  exact ⟨f1, f2, f3, f4, fun a h1 h2 => f5 a h1 (fun z => h2 (hW a z)), fun k hk => f6 k (fun z => hk (hJ k z))⟩
theorem FM_.MS {W J : List Nat} {h h1 : AH} (f : FM_ W J h h1) (H : MS_ h) : MS_ h1 := H.eq (by rw [f.2.1])
theorem FM_.row {W J : List Nat} {h h1 : AH} (f : FM_ W J h h1) (a : Nat) (h2 : a ≠ 33554440) (h3 : a ∉ W) : hI_ h1 a = hI_ h a := f.2.2.2.2.1 a h2 h3
theorem FM_.fld {W J : List Nat} {h h1 : AH} (f : FM_ W J h h1) (j : Nat) (h2 : j ∉ J) : hI_ h1 33554440 j = hI_ h 33554440 j := f.2.2.2.2.2 j h2
/-! the actors, as the model has them -/
def MA_ (na : Nat) (F G : Nat → Nat → Int32) (h : AH) : Prop := hI_ h 33554440 1 = Int32.ofNat na ∧ na ≤ 12 ∧ (∀ i, i < na → hI_ h 33817360 i = F i 0 ∧ hI_ h 34079504 i = F i 1 ∧ hI_ h 34341648 i = F i 2 ∧ hI_ h 34603794 i = F i 3 ∧ hI_ h 34865938 i = F i 4) ∧ (∀ i k, i < na → k < 12 → hI_ h 35136528 (12 * i + k) = G i k)
theorem MA_.eq {na : Nat} {F G : Nat → Nat → Int32} {h h1 : AH} (e0 : hI_ h1 33554440 1 = hI_ h 33554440 1) (e1 : hI_ h1 33817360 = hI_ h 33817360) (e2 : hI_ h1 34079504 = hI_ h 34079504) (e3 : hI_ h1 34341648 = hI_ h 34341648) (e4 : hI_ h1 34603794 = hI_ h 34603794) (e5 : hI_ h1 34865938 = hI_ h 34865938) (e6 : hI_ h1 35136528 = hI_ h 35136528) (H : MA_ na F G h) : MA_ na F G h1 := by
  unfold MA_ at H ⊢
  rw [e0, e1, e2, e3, e4, e5, e6]
  exact H
section MAS
variable {xs : Nat → Int32} {d : Nat} {h : AH} {Q : OU_ → AH → Prop} {na : Nat} {F G : Nat → Nat → Int32}
theorem c_misActor {a : Int32} (hA : MA_ na F G h) : V_ xs d 110 0 [vA (some 33554440), vI a] [] h Q ↔ Q (some (some (vI (b2_ (decide (0 ≤ a.toInt ∧ a.toInt < na)))))) h := by
  have e1 := hA.1
  have e2 := hA.2.1
  simp (disch := first | omega | assumption | decide | exact bT_ (by decide)) only [s110_0, s110_1, s110_4, s110_5, s110_6, s110_9, s110_12, s110_13, s110_16, s110_17, K_v, K_0, acI, acA, acJ, acX, List.map_cons, List.map_nil, List.sum_cons, List.sum_nil, true_and, and_true, posT, b2_0, b2_1, bft, true_or, or_true, Nat.zero_le, Nat.reduceAdd, Nat.reduceLeDiff, hI_uI, hL_uI, hR_uI, nx_uI, sl_uI, hI_uL, hL_uL, hR_uL, nx_uL, sl_uL, hI_uR, hL_uR, hR_uR, nx_uR, sl_uR, st_eq, if_true, if_false, eq_self, Nat.reduceEqDiff, Nat.reduceMul, reduceIte, kdT, ixT, w_cl, w_ti, w_s1, w_a, w_m12, w_m8, w_m3, w_m4, e1, Int32.lt_iff_toInt_lt]
  have z : (0 : Int32).toInt = 0 := rfl
  by_cases c1 : a.toInt < (0 : Int32).toInt
  · rw [if_pos c1, decide_eq_false (by omega)]; rfl
  · rw [if_neg c1]
    by_cases c2 : a.toInt < na
    · rw [if_pos c2, decide_eq_true (by omega)]; rfl
    · rw [if_neg c2, decide_eq_false (by omega)]; rfl
end MAS
