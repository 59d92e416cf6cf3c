/-! the fill: the model's search -/
def FF_ (P : PS) (may L from' set s : Nat) : Prop := (∀ j, j < from' → s.testBit j = set.testBit j) ∧ (∀ j, from' ≤ j → s.testBit j = true → may.testBit j = true) ∧ s < 2 ^ qn_ P ∧ sb_ P 0 s ≤ L
def UP_ (P : PS) (A : Nat → Prop) (mt ms mt' ms' : Nat) : Prop := (mt' = mt ∧ ms' = ms ∧ ∀ s, A s → sb_ P 1 s ≤ mt) ∨ (A ms' ∧ sb_ P 1 ms' = mt' ∧ mt < mt' ∧ ∀ s, A s → sb_ P 1 s < mt' ∨ (sb_ P 1 s = mt' ∧ key12_ ms' ≤ key12_ s))
section MFI
variable {xs : Nat → Int32} {d : Nat} {h : AH} {P : PS} {na : Nat} {F G : Nat → Nat → Int32}
theorem UP_.un {A B : Nat → Prop} {a0 b0 a1 b1 a2 b2 : Nat} (h1 : UP_ P A a0 b0 a1 b1) (h2 : UP_ P B a1 b1 a2 b2) (hk : ∀ x y, A x → B y → key12_ x ≤ key12_ y) : UP_ P (fun s => A s ∨ B s) a0 b0 a2 b2 := by
  rcases h2 with ⟨e1, e2, e3⟩ | ⟨e1, e2, e3, e4⟩
  · subst e1; subst e2
    rcases h1 with ⟨f1, f2, f3⟩ | ⟨f1, f2, f3, f4⟩
    · exact Or.inl ⟨f1, f2, fun s hs => by rcases hs with z | z; exact f3 s z; have := e3 s z; omega⟩
    · refine Or.inr ⟨Or.inl f1, f2, f3, fun s hs => ?_⟩
      rcases hs with z | z
      · exact f4 s z
      · have := e3 s z
        rcases Nat.lt_or_ge (sb_ P 1 s) a2 with y | y
        · exact Or.inl y
        · exact Or.inr ⟨by omega, hk _ _ f1 z⟩
  · have hle : a0 ≤ a1 := by
      rcases h1 with ⟨f1, f2, f3⟩ | ⟨f1, f2, f3, f4⟩ <;> omega
    refine Or.inr ⟨Or.inr e1, e2, by omega, fun s hs => ?_⟩
    rcases hs with z | z
    · left
      rcases h1 with ⟨f1, f2, f3⟩ | ⟨f1, f2, f3, f4⟩
      · have := f3 s z; omega
      · rcases f4 s z with y | y <;> omega
    · exact e4 s z
theorem UP_.cg {A B : Nat → Prop} {a b c e : Nat} (h : ∀ x, A x ↔ B x) (H : UP_ P A a b c e) : UP_ P B a b c e := by
  rcases H with ⟨f1, f2, f3⟩ | ⟨f1, f2, f3, f4⟩
  · exact Or.inl ⟨f1, f2, fun s hs => f3 s ((h s).mpr hs)⟩
  · exact Or.inr ⟨(h _).mp f1, f2, f3, fun s hs => f4 s ((h s).mpr hs)⟩
theorem tb_or {s p x : Nat} : (s ||| 2 ^ p).testBit x = (s.testBit x || decide (p = x)) := by rw [Nat.testBit_or, Nat.testBit_two_pow]
theorem sb_or {f set p : Nat} (hp : p < qn_ P) (hb : set.testBit p = false) : sb_ P f (set ||| 2 ^ p) = sb_ P f set + nf_ P p f := by
  have e := sm_one (g := fun r => nf_ P r f) (i := p) (n := qn_ P)
  rw [if_pos hp] at e
  unfold sb_
  rw [← e, ← sm_add]
  apply sm_congr
  intro i hi
  rw [tb_or, Nat.testBit_two_pow]
  by_cases q : p = i
  · rw [← q, hb, decide_eq_true rfl]; simp
  · rw [decide_eq_false q, Bool.or_false]; simp
theorem sb_mono {f s t : Nat} (h : ∀ j, s.testBit j = true → t.testBit j = true) : sb_ P f s ≤ sb_ P f t := by
  unfold sb_
  apply sm_le
  intro i hi
  by_cases q : s.testBit i = true
  · rw [if_pos q, if_pos (h i q)]; exact Nat.le_refl _
  · rw [if_neg q]; exact Nat.zero_le _
theorem nb_lt {s n j : Nat} (h : s < 2 ^ n) (hj : n ≤ j) : s.testBit j = false := Nat.testBit_lt_two_pow (Nat.lt_of_lt_of_le h (Nat.pow_le_pow_right (by omega) hj))
theorem btl_ {s n j : Nat} (h : s < 2 ^ n) (hj : s.testBit j = true) : j < n := by
  rcases Nat.lt_or_ge j n with z | z
  · exact z
  · rw [nb_lt h z] at hj; cases hj
theorem fst_bt {s f : Nat} : ∀ {n : Nat}, (∃ q, f ≤ q ∧ q < n ∧ s.testBit q = true) → ∃ q, f ≤ q ∧ q < n ∧ s.testBit q = true ∧ ∀ j, f ≤ j → j < q → s.testBit j = false := by
  intro n
  induction n with
  | zero => rintro ⟨q, _, h2, _⟩; omega
  | succ n ih =>
    rintro ⟨q, h1, h2, h3⟩
    by_cases c : ∃ q, f ≤ q ∧ q < n ∧ s.testBit q = true
    · obtain ⟨q, g1, g2, g3, g4⟩ := ih c
      exact ⟨q, g1, by omega, g3, g4⟩
    · have hno : ∀ j, f ≤ j → j < n → s.testBit j = false := fun j q1 q2 => by
        cases hb : s.testBit j
        · rfl
        · exact absurd ⟨j, q1, q2, hb⟩ c
      have e : q = n := by
        rcases Nat.lt_or_ge q n with z | z
        · rw [hno q h1 z] at h3; cases h3
        · omega
      exact ⟨n, by omega, by omega, by rw [← e]; exact h3, hno⟩
/-- sets that came before are before -/
theorem FF_ord {may L f set p a b : Nat} (h12 : qn_ P ≤ 12) (hf : f ≤ p) (hp : p < qn_ P) (hset : set < 2 ^ f) (ha : FF_ P may L f set a ∧ ∃ q, f ≤ q ∧ q < p ∧ a.testBit q = true) (hb : FF_ P may L (p + 1) (set ||| 2 ^ p) b) : key12_ a ≤ key12_ b := by
  obtain ⟨⟨a1, -, a3, -⟩, hq⟩ := ha
  obtain ⟨b1, -, b3, -⟩ := hb
  obtain ⟨q, q1, q2, q3, q4⟩ := fst_bt hq
  have hp2 : 2 ^ qn_ P ≤ 2 ^ 12 := Nat.pow_le_pow_right (by omega) h12
  have ebit : ∀ j, j < p → b.testBit j = set.testBit j := fun j hj => by
    rw [b1 j (by omega), tb_or, decide_eq_false (by omega), Bool.or_false]
  have hbp : b.testBit p = true := by rw [b1 p (by omega), tb_or, decide_eq_true rfl, Bool.or_true]
  have := key_c12 (a := a) (b := b) (i := q) (by omega) q3 (by rw [ebit q (by omega)]; exact nb_lt hset q1) (fun x hx => by
    rw [ebit x (by omega)]
    rcases Nat.lt_or_ge x f with z | z
    · exact a1 x z
    · rw [q4 x z hx, nb_lt hset z]) (by omega)
  exact Nat.le_of_lt (this.2 (sh_dn (sh_tb hbp) (by omega)))
theorem FF_ord0 {may L f set b : Nat} (h12 : qn_ P ≤ 12) (hset : set < 2 ^ f) (hb : FF_ P may L f set b ∧ b ≠ set) (hs : set < 2 ^ qn_ P) : key12_ set ≤ key12_ b := by
  obtain ⟨⟨b1, -, b3, -⟩, hne⟩ := hb
  have hp2 : 2 ^ qn_ P ≤ 2 ^ 12 := Nat.pow_le_pow_right (by omega) h12
  obtain ⟨i, h1, h2, h3⟩ := ne_df hne (by omega) (by omega)
  have hi : f ≤ i := by
    rcases Nat.lt_or_ge i f with z | z
    · exact absurd (b1 i z) h2
    · exact z
  have hsi := nb_lt hset hi
  have hbi : b.testBit i = true := by
    cases hb : b.testBit i
    · rw [hb, hsi] at h2; exact absurd rfl h2
    · rfl
  have := key_c12 (a := b) (b := set) h1 hbi hsi h3 (by omega)
  refine Nat.le_of_lt (this.1 ?_)
  rw [Nat.shiftRight_eq_div_pow]
  exact Nat.div_eq_of_lt (Nat.lt_of_lt_of_le hset (Nat.pow_le_pow_right (by omega) hi))
/-- the loop of fills, and fills -/
def FL_ (xs : Nat → Int32) (P : PS) (h : AH) (may L : Nat) (f : Nat) : Prop := ∀ (set mt ms : Nat) (x : AH) (d : Nat), FM_ [] [32, 33] h x → hI_ x 33554440 32 = Int32.ofNat mt → hI_ x 33554440 33 = Int32.ofNat ms → mt ≤ 12000 → set < 2 ^ f → sb_ P 0 set ≤ L → qn_ P ≤ f + d →
    ∃ x' mt' ms', FM_ [] [32, 33] h x' ∧ hI_ x' 33554440 32 = Int32.ofNat mt' ∧ hI_ x' 33554440 33 = Int32.ofNat ms' ∧ mt' ≤ 12000 ∧ UP_ P (fun s => FF_ P may L f set s ∧ s ≠ set) mt ms mt' ms' ∧ ∀ Q, V_ xs d 141 23 [vA (some 33554440), vI (Int32.ofNat may), vI (Int32.ofNat f), vI (Int32.ofNat set), vI (Int32.ofNat (L - sb_ P 0 set)), vI (Int32.ofNat (sb_ P 1 set)), vI (Int32.ofNat f)] [] x Q ↔ Q (some none) x'
theorem m_fillsE {may L f : Nat} (h12 : qn_ P ≤ 12) (hB : PB_ P) (hf : f ≤ qn_ P) (H : FL_ xs P h may L f) {set mt ms : Nat} {x : AH} {d : Nat} (hx : FM_ [] [32, 33] h x) (e1 : hI_ x 33554440 32 = Int32.ofNat mt) (e2 : hI_ x 33554440 33 = Int32.ofNat ms) (hm : mt ≤ 12000) (hs : set < 2 ^ f) (hL : sb_ P 0 set ≤ L) (hd : qn_ P ≤ f + d) :
    ∃ x' mt' ms', FM_ [] [32, 33] h x' ∧ hI_ x' 33554440 32 = Int32.ofNat mt' ∧ hI_ x' 33554440 33 = Int32.ofNat ms' ∧ mt' ≤ 12000 ∧ UP_ P (FF_ P may L f set) mt ms mt' ms' ∧ Do_ xs d 141 [vA (some 33554440), vI (Int32.ofNat may), vI (Int32.ofNat f), vI (Int32.ofNat set), vI (Int32.ofNat (L - sb_ P 0 set)), vI (Int32.ofNat (sb_ P 1 set)), vX 0] x (some none) x' := by
  have b1 := sb_bd hB (f := 1) (s := set) (by omega)
  have hsq : set < 2 ^ qn_ P := Nat.lt_of_lt_of_le hs (Nat.pow_le_pow_right (by omega) hf)
  have hin : FF_ P may L f set set := ⟨fun _ _ => rfl, fun j q1 q2 => (by rw [nb_lt hs q1] at q2; cases q2), hsq, hL⟩
  have hcg : ∀ y, (y = set ∨ (FF_ P may L f set y ∧ y ≠ set)) ↔ FF_ P may L f set y := by
    intro y
    constructor
    · rintro (z | z)
      · rw [z]; exact hin
      · exact z.1
    · intro z
      by_cases c : y = set
      · exact Or.inl c
      · exact Or.inr ⟨z, c⟩
  have hord : ∀ a b, a = set → (FF_ P may L f set b ∧ b ≠ set) → key12_ a ≤ key12_ b := fun a b ha hb => by rw [ha]; exact FF_ord0 h12 hs hb hsq
  by_cases q : mt < sb_ P 1 set
  · have f1 := hx.uM (j := 32) (v := Int32.ofNat (sb_ P 1 set)) (by decide)
    have f2 := f1.uM (j := 33) (v := Int32.ofNat set) (by decide)
    simp only [hI_uI, hL_uI, hR_uI, nx_uI, sl_uI, hI_uL, hL_uL, hR_uL, nx_uL, sl_uL, hI_uR, hL_uR, hR_uR, nx_uR, sl_uR, st_eq, if_true, if_false, eq_self, Nat.reduceEqDiff, Nat.reduceMul, reduceIte, kdT, ixT, w_cl, w_ti, w_s1, w_a, w_m12, w_m8, w_m3, w_m4, uI_uI] at f2
    obtain ⟨x', mt', ms', g1, g2, g3, g4, g5, g6⟩ := H set (sb_ P 1 set) set _ d f2 (by simp only [hI_uI, hL_uI, hR_uI, nx_uI, sl_uI, hI_uL, hL_uL, hR_uL, nx_uL, sl_uL, hI_uR, hL_uR, hR_uR, nx_uR, sl_uR, st_eq, if_true, if_false, eq_self, Nat.reduceEqDiff, Nat.reduceMul, reduceIte, kdT, ixT, w_cl, w_ti, w_s1, w_a, w_m12, w_m8, w_m3, w_m4]) (by simp only [hI_uI, hL_uI, hR_uI, nx_uI, sl_uI, hI_uL, hL_uL, hR_uL, nx_uL, sl_uL, hI_uR, hL_uR, hR_uR, nx_uR, sl_uR, st_eq, if_true, if_false, eq_self, Nat.reduceEqDiff, Nat.reduceMul, reduceIte, kdT, ixT, w_cl, w_ti, w_s1, w_a, w_m12, w_m8, w_m3, w_m4]) (by omega) hs hL hd
    refine ⟨x', mt', ms', g1, g2, g3, g4, ((UP_.un (A := fun y => y = set) (Or.inr ⟨rfl, rfl, q, fun s hs => by right; rw [hs]; exact ⟨rfl, Nat.le_refl _⟩⟩) g5 hord).cg hcg), fun Q => ?_⟩
    simp (disch := first | omega | assumption | decide | (apply bT_; decide)) only [s141_0, s141_2, s141_3, s141_6, s141_9, s141_10, s141_12, s141_15, s141_16, s141_17, s141_20, s141_21, s141_25, s141_26, s141_29, s141_32, s141_33, s141_35, s141_36, s141_37, s141_38, s141_39, s141_42, s141_43, s141_46, s141_48, s141_49, s141_51, s141_54, s141_55, s141_56, s141_58, s141_59, s141_60, s141_61, s141_62, s141_64, s141_65, s141_66, s141_68, s141_69, s141_72, s141_74, s141_75, s141_76, s141_78, s141_79, s141_82, s141_84, s141_85, s141_86, s141_89, s141_92, s141_95, K_v, K_0, acI, acA, acJ, acX, List.map_cons, List.map_nil, List.sum_cons, List.sum_nil, true_and, and_true, posT, b2_0, b2_1, bft, true_or, or_true, Nat.zero_le, Nat.reduceAdd, Nat.reduceLeDiff, hI_uI, hL_uI, hR_uI, nx_uI, sl_uI, hI_uL, hL_uL, hR_uL, nx_uL, sl_uL, hI_uR, hL_uR, hR_uR, nx_uR, sl_uR, st_eq, if_true, if_false, eq_self, Nat.reduceEqDiff, Nat.reduceMul, reduceIte, kdT, ixT, w_cl, w_ti, w_s1, w_a, w_m12, w_m8, w_m3, w_m4, e1, q, w_lt, uI_uI, kd_M, ln_M]
    exact g6 Q
  · obtain ⟨x', mt', ms', g1, g2, g3, g4, g5, g6⟩ := H set mt ms x d hx e1 e2 hm hs hL hd
    refine ⟨x', mt', ms', g1, g2, g3, g4, ((UP_.un (A := fun y => y = set) (Or.inl ⟨rfl, rfl, fun s hs => by rw [hs]; omega⟩) g5 hord).cg hcg), fun Q => ?_⟩
    simp (disch := first | omega | assumption | decide | (apply bT_; decide)) only [s141_0, s141_2, s141_3, s141_6, s141_10, s141_12, s141_15, s141_16, s141_17, s141_20, s141_21, s141_25, s141_26, s141_29, s141_32, s141_33, s141_35, s141_36, s141_37, s141_38, s141_39, s141_42, s141_43, s141_46, s141_48, s141_49, s141_51, s141_54, s141_55, s141_56, s141_58, s141_59, s141_60, s141_61, s141_62, s141_64, s141_65, s141_66, s141_68, s141_69, s141_72, s141_74, s141_75, s141_76, s141_78, s141_79, s141_82, s141_84, s141_85, s141_86, s141_89, s141_92, s141_95, K_v, K_0, acI, acA, acJ, acX, List.map_cons, List.map_nil, List.sum_cons, List.sum_nil, true_and, and_true, posT, b2_0, b2_1, bft, true_or, or_true, Nat.zero_le, Nat.reduceAdd, Nat.reduceLeDiff, hI_uI, hL_uI, hR_uI, nx_uI, sl_uI, hI_uL, hL_uL, hR_uL, nx_uL, sl_uL, hI_uR, hL_uR, hR_uR, nx_uR, sl_uR, st_eq, if_true, if_false, eq_self, Nat.reduceEqDiff, Nat.reduceMul, reduceIte, kdT, ixT, w_cl, w_ti, w_s1, w_a, w_m12, w_m8, w_m3, w_m4, e1, q, w_lt, kd_M, ln_M]
    exact g6 Q
theorem m_fillsL {may L : Nat} (hM : MS_ h) (hP : MP_ P h) (hB : PB_ P) (hmay : may < 4096) (hL1 : L ≤ 1000) : ∀ (k f : Nat), qn_ P ≤ f + k → f ≤ qn_ P → FL_ xs P h may L f := by
  have h12 := hP.2.1.1
  intro k
  induction k with
  | zero =>
    intro f hk hf set mt ms x d hx e1 e2 hm hs hL hd
    have e : f = qn_ P := by omega
    have hn : hI_ x 33554440 8 = Int32.ofNat (qn_ P) := (hx.fld 8 (by decide)).trans hP.1
    refine ⟨x, mt, ms, hx, e1, e2, hm, Or.inl ⟨rfl, rfl, fun s hs' => ?_⟩, fun Q => ?_⟩
    · exfalso
      apply hs'.2
      apply Nat.eq_of_testBit_eq
      intro j
      rcases Nat.lt_or_ge j f with z | z
      · exact hs'.1.1 j z
      · rw [nb_lt hs z, nb_lt hs'.1.2.2.1 (by omega)]
    · have nl : ¬ (qn_ P < qn_ P) := by omega
      rw [e, s141_23]
      simp (disch := first | omega | assumption | decide | (apply bT_; decide)) only [s141_0, s141_2, s141_3, s141_6, s141_9, s141_10, s141_12, s141_15, s141_16, s141_17, s141_20, s141_21, s141_25, s141_26, s141_29, s141_33, s141_35, s141_36, s141_37, s141_38, s141_39, s141_42, s141_43, s141_46, s141_48, s141_49, s141_51, s141_54, s141_55, s141_56, s141_58, s141_59, s141_60, s141_61, s141_62, s141_64, s141_65, s141_66, s141_68, s141_69, s141_72, s141_74, s141_75, s141_76, s141_78, s141_79, s141_82, s141_84, s141_85, s141_86, s141_89, s141_92, s141_95, K_v, K_0, acI, acA, acJ, acX, List.map_cons, List.map_nil, List.sum_cons, List.sum_nil, true_and, and_true, posT, b2_0, b2_1, bft, true_or, or_true, Nat.zero_le, Nat.reduceAdd, Nat.reduceLeDiff, hI_uI, hL_uI, hR_uI, nx_uI, sl_uI, hI_uL, hL_uL, hR_uL, nx_uL, sl_uL, hI_uR, hL_uR, hR_uR, nx_uR, sl_uR, st_eq, if_true, if_false, eq_self, Nat.reduceEqDiff, Nat.reduceMul, reduceIte, kdT, ixT, w_cl, w_ti, w_s1, w_a, w_m12, w_m8, w_m3, w_m4, hn, nl, w_lt, kd_M, ln_M]
  | succ k ih =>
    intro f hk hf set mt ms x d hx e1 e2 hm hs hL hd
    have hsq : set < 2 ^ qn_ P := Nat.lt_of_lt_of_le hs (Nat.pow_le_pow_right (by omega) hf)
    have hp2 : 2 ^ qn_ P ≤ 2 ^ 12 := Nat.pow_le_pow_right (by omega) h12
    obtain ⟨⟨x', mt', ms'⟩, k1, k2⟩ := loopX_ (P := fun Q p (z : AH × Nat × Nat) => V_ xs d 141 23 [vA (some 33554440), vI (Int32.ofNat may), vI (Int32.ofNat f), vI (Int32.ofNat set), vI (Int32.ofNat (L - sb_ P 0 set)), vI (Int32.ofNat (sb_ P 1 set)), vI (Int32.ofNat p)] [] z.1 Q) (n := qn_ P) (fun p z => f ≤ p ∧ FM_ [] [32, 33] h z.1 ∧ hI_ z.1 33554440 32 = Int32.ofNat z.2.1 ∧ hI_ z.1 33554440 33 = Int32.ofNat z.2.2 ∧ z.2.1 ≤ 12000 ∧ UP_ P (fun s => FF_ P may L f set s ∧ ∃ q, f ≤ q ∧ q < p ∧ s.testBit q = true) mt ms z.2.1 z.2.2) (fun p z hp hI => by
      obtain ⟨x1, mt1, ms1⟩ := z
      obtain ⟨i0, i1, i2, i3, i4, i5⟩ := hI
      dsimp only at i1 i2 i3 i4 i5
      have hMx := i1.MS hM
      have hn : hI_ x1 33554440 8 = Int32.ofNat (qn_ P) := (i1.fld 8 (by decide)).trans hP.1
      have hbit := w_bit (M := may) (m := p) (by omega) (by omega)
      have hsp := nb_lt hs i0
      have hmi : hI_ x1 35390224 p = Int32.ofNat (nf_ P p 0) := by
        rw [i1.row _ (by decide) (by decide), (hP.2.2.1 p hp).1]; exact (hB p hp).1 0 (by omega)
      have hta : hI_ x1 35652368 p = Int32.ofNat (nf_ P p 1) := by
        rw [i1.row _ (by decide) (by decide), (hP.2.2.1 p hp).2.1]; exact (hB p hp).1 1 (by omega)
      obtain ⟨-, -, n240, -, -, -⟩ := hB p hp
      have skip : (∀ s, FF_ P may L f set s → s.testBit p = false) → UP_ P (fun s => FF_ P may L f set s ∧ ∃ q, f ≤ q ∧ q < p + 1 ∧ s.testBit q = true) mt ms mt1 ms1 := fun hno => i5.cg (fun s => ⟨fun ⟨z1, q, z2, z3, z4⟩ => ⟨z1, q, z2, by omega, z4⟩, fun ⟨z1, q, z2, z3, z4⟩ => ⟨z1, q, z2, by
        have : q ≠ p := fun e => by rw [e, hno s z1] at z4; cases z4
        omega, z4⟩⟩)
      cases hbt : may.testBit p
      · rw [hbt] at hbit
        refine ⟨(x1, mt1, ms1), ⟨by omega, i1, i2, i3, i4, skip (fun s hs' => ?_)⟩, fun Q => ?_⟩
        · cases hsb : s.testBit p
          · rfl
          · rw [hs'.2.1 p i0 hsb] at hbt; cases hbt
        · have k1 : ¬ ((0 : Int32) = 1) := by decide
          dsimp only
          rw [s141_23]
          simp (disch := first | omega | assumption | decide | (apply bT_; decide)) only [s141_0, s141_2, s141_3, s141_6, s141_9, s141_10, s141_12, s141_15, s141_16, s141_17, s141_20, s141_21, s141_25, s141_26, s141_29, s141_32, s141_33, s141_35, s141_36, s141_37, s141_38, s141_39, s141_43, s141_46, s141_48, s141_49, s141_51, s141_54, s141_55, s141_56, s141_58, s141_59, s141_60, s141_61, s141_62, s141_64, s141_65, s141_66, s141_68, s141_69, s141_72, s141_74, s141_75, s141_76, s141_78, s141_79, s141_82, s141_84, s141_85, s141_86, s141_89, s141_92, K_v, K_0, acI, acA, acJ, acX, List.map_cons, List.map_nil, List.sum_cons, List.sum_nil, true_and, and_true, posT, b2_0, b2_1, bft, true_or, or_true, Nat.zero_le, Nat.reduceAdd, Nat.reduceLeDiff, hI_uI, hL_uI, hR_uI, nx_uI, sl_uI, hI_uL, hL_uL, hR_uL, nx_uL, sl_uL, hI_uR, hL_uR, hR_uR, nx_uR, sl_uR, st_eq, if_true, if_false, eq_self, Nat.reduceEqDiff, Nat.reduceMul, reduceIte, kdT, ixT, w_cl, w_ti, w_s1, w_a, w_m12, w_m8, w_m3, w_m4, hn, hp, w_lt, hbit, k1, kd_M, ln_M, Bool.false_eq_true]
      · rw [hbt] at hbit
        have hor := fun f => sb_or (P := P) (f := f) hp hsp
        by_cases q : nf_ P p 0 ≤ L - sb_ P 0 set
        · have nq : ¬ (L - sb_ P 0 set < nf_ P p 0) := by omega
          have hs' : set ||| 2 ^ p < 2 ^ (p + 1) := Nat.or_lt_two_pow (Nat.lt_of_lt_of_le hs (Nat.pow_le_pow_right (by omega) (by omega))) (Nat.pow_lt_pow_right (by omega) (by omega))
          obtain ⟨x2, mt2, ms2, g1, g2, g3, g4, g5, g6⟩ := m_fillsE (xs := xs) (f := p + 1) h12 hB (by omega) (ih (p + 1) (by omega) (by omega)) (d := d - 1) i1 i2 i3 i4 hs' (by rw [hor 0]; omega) (by omega)
          rw [hor 0, hor 1, show L - (sb_ P 0 set + nf_ P p 0) = L - sb_ P 0 set - nf_ P p 0 by omega] at g6
          refine ⟨(x2, mt2, ms2), ⟨by omega, g1, g2, g3, g4, (UP_.un i5 g5 (fun a b ha hb => FF_ord h12 i0 hp hs ha hb)).cg (fun s => ?_)⟩, fun Q => ?_⟩
          · constructor
            · rintro (⟨z1, q, z2, z3, z4⟩ | ⟨z1, z2, z3, z4⟩)
              · exact ⟨z1, q, z2, by omega, z4⟩
              · refine ⟨⟨fun j hj => ?_, fun j h1 h2 => ?_, z3, z4⟩, p, i0, by omega, ?_⟩
                · rw [z1 j (by omega), tb_or, decide_eq_false (by omega), Bool.or_false]
                · rcases Nat.lt_or_ge p j with y | y
                  · exact z2 j (by omega) h2
                  · by_cases c : j = p
                    · rw [c]; exact hbt
                    · rw [z1 j (by omega), tb_or, decide_eq_false (by omega), Bool.or_false, nb_lt hs h1] at h2; cases h2
                · rw [z1 p (by omega), tb_or, decide_eq_true rfl, Bool.or_true]
            · rintro ⟨z1, q, z2, z3, z4⟩
              by_cases c : ∃ q, f ≤ q ∧ q < p ∧ s.testBit q = true
              · exact Or.inl ⟨z1, c⟩
              · have hno : ∀ j, f ≤ j → j < p → s.testBit j = false := fun j q1 q2 => by
                  cases hb : s.testBit j
                  · rfl
                  · exact absurd ⟨j, q1, q2, hb⟩ c
                have eq : q = p := by
                  rcases Nat.lt_or_ge q p with y | y
                  · rw [hno q z2 y] at z4; cases z4
                  · omega
                rw [eq] at z4
                refine Or.inr ⟨fun j hj => ?_, fun j h1 h2 => z1.2.1 j (by omega) h2, z1.2.2.1, z1.2.2.2⟩
                rw [tb_or]
                by_cases c2 : p = j
                · rw [← c2, z4, decide_eq_true rfl, Bool.or_true]
                · rw [decide_eq_false c2, Bool.or_false]
                  rcases Nat.lt_or_ge j f with y | y
                  · exact z1.1 j y
                  · rw [hno j y (by omega), nb_lt hs y]
          · have hsh := w_shl p (by omega)
            have hsub := w_sub (a := L - sb_ P 0 set) (b := nf_ P p 0) q
            have hb1 := sb_bd hB (f := 1) (s := set) (by omega)
            dsimp only
            rw [s141_23]
            simp (disch := first | omega | assumption | decide | (apply bT_; decide)) only [s141_0, s141_2, s141_3, s141_6, s141_9, s141_10, s141_12, s141_15, s141_16, s141_17, s141_20, s141_21, s141_25, s141_26, s141_29, s141_32, s141_33, s141_35, s141_36, s141_37, s141_38, s141_39, s141_42, s141_43, s141_46, s141_48, s141_49, s141_51, s141_54, s141_55, s141_56, s141_58, s141_59, s141_60, s141_61, s141_62, s141_64, s141_65, s141_66, s141_68, s141_69, s141_72, s141_74, s141_75, s141_76, s141_78, s141_79, s141_82, s141_84, s141_85, s141_86, s141_89, s141_92, K_v, K_0, acI, acA, acJ, acX, List.map_cons, List.map_nil, List.sum_cons, List.sum_nil, true_and, and_true, posT, b2_0, b2_1, bft, true_or, or_true, Nat.zero_le, Nat.reduceAdd, Nat.reduceLeDiff, hI_uI, hL_uI, hR_uI, nx_uI, sl_uI, hI_uL, hL_uL, hR_uL, nx_uL, sl_uL, hI_uR, hL_uR, hR_uR, nx_uR, sl_uR, st_eq, if_true, if_false, eq_self, Nat.reduceEqDiff, Nat.reduceMul, reduceIte, kdT, ixT, w_cl, w_ti, w_s1, w_a, w_m12, w_m8, w_m3, w_m4, hMx.r2, hMx.r3, hMx.r4, hMx.r5, hMx.r6, hMx.r7, hMx.r9, hMx.r10, hMx.r11, hMx.r12, hMx.r13, hMx.r14, hMx.r15, hMx.r16, hMx.r17, hMx.r18, hMx.r20, hMx.r21, hMx.r23, hMx.r29, hMx.r30, hMx.r35, hMx.r36, hMx.r37, hMx.r38, hMx.r40, hMx.r42, hMx.r43, hMx.r44, hMx.r45, hMx.r46, hMx.r47, hn, hp, w_lt, hbit, hmi, hta, nq, hsh, w_or, hsub, g6, kd_M, ln_M, kd_mMin, ln_mMin, kd_mTak, ln_mTak, Bool.true_eq_false]
        · have nq : L - sb_ P 0 set < nf_ P p 0 := by omega
          refine ⟨(x1, mt1, ms1), ⟨by omega, i1, i2, i3, i4, skip (fun s hs' => ?_)⟩, fun Q => ?_⟩
          · cases hsb : s.testBit p
            · rfl
            · have h1 : sb_ P 0 (set ||| 2 ^ p) ≤ sb_ P 0 s := sb_mono (fun j hj => by
                rw [tb_or] at hj
                by_cases c : p = j
                · rw [← c]; exact hsb
                · rw [decide_eq_false c, Bool.or_false] at hj
                  rw [hs'.1 j (btl_ hs hj)]; exact hj)
              rw [hor 0] at h1
              have := hs'.2.2.2
              omega
          · dsimp only
            rw [s141_23]
            simp (disch := first | omega | assumption | decide | (apply bT_; decide)) only [s141_0, s141_2, s141_3, s141_6, s141_9, s141_10, s141_12, s141_15, s141_16, s141_17, s141_20, s141_21, s141_25, s141_26, s141_29, s141_32, s141_33, s141_35, s141_36, s141_37, s141_38, s141_39, s141_42, s141_43, s141_46, s141_48, s141_49, s141_51, s141_55, s141_56, s141_58, s141_59, s141_60, s141_61, s141_62, s141_64, s141_65, s141_66, s141_68, s141_69, s141_72, s141_74, s141_75, s141_76, s141_78, s141_79, s141_82, s141_84, s141_85, s141_86, s141_89, s141_92, K_v, K_0, acI, acA, acJ, acX, List.map_cons, List.map_nil, List.sum_cons, List.sum_nil, true_and, and_true, posT, b2_0, b2_1, bft, true_or, or_true, Nat.zero_le, Nat.reduceAdd, Nat.reduceLeDiff, hI_uI, hL_uI, hR_uI, nx_uI, sl_uI, hI_uL, hL_uL, hR_uL, nx_uL, sl_uL, hI_uR, hL_uR, hR_uR, nx_uR, sl_uR, st_eq, if_true, if_false, eq_self, Nat.reduceEqDiff, Nat.reduceMul, reduceIte, kdT, ixT, w_cl, w_ti, w_s1, w_a, w_m12, w_m8, w_m3, w_m4, hMx.r2, hMx.r3, hMx.r4, hMx.r5, hMx.r6, hMx.r7, hMx.r9, hMx.r10, hMx.r11, hMx.r12, hMx.r13, hMx.r14, hMx.r15, hMx.r16, hMx.r17, hMx.r18, hMx.r20, hMx.r21, hMx.r23, hMx.r29, hMx.r30, hMx.r35, hMx.r36, hMx.r37, hMx.r38, hMx.r40, hMx.r42, hMx.r43, hMx.r44, hMx.r45, hMx.r46, hMx.r47, hn, hp, w_lt, hbit, hmi, nq, kd_M, ln_M, kd_mMin, ln_mMin, Bool.true_eq_false]) (qn_ P - f) f (x, mt, ms) (by omega) ⟨Nat.le_refl _, hx, e1, e2, hm, Or.inl ⟨rfl, rfl, fun s hs' => by obtain ⟨-, q, q1, q2, -⟩ := hs'; omega⟩⟩
    obtain ⟨-, j1, j2, j3, j4, j5⟩ := k1
    refine ⟨x', mt', ms', j1, j2, j3, j4, j5.cg (fun s => ?_), fun Q => (k2 Q).trans ?_⟩
    · constructor
      · rintro ⟨z1, q, z2, z3, z4⟩
        exact ⟨z1, fun e => by rw [e, nb_lt hs z2] at z4; cases z4⟩
      · rintro ⟨z1, z2⟩
        refine ⟨z1, ?_⟩
        obtain ⟨i, h1, h2, h3⟩ := ne_df z2 (by have := z1.2.2.1; omega) (by omega)
        have hi : f ≤ i := by
          rcases Nat.lt_or_ge i f with y | y
          · exact absurd (z1.1 i y) h2
          · exact y
        have hsi := nb_lt hs hi
        have hbi : s.testBit i = true := by
          cases hb : s.testBit i
          · rw [hb, hsi] at h2; exact absurd rfl h2
          · rfl
        exact ⟨i, hi, btl_ z1.2.2.1 hbi, hbi⟩
    · have hn : hI_ x' 33554440 8 = Int32.ofNat (qn_ P) := (j1.fld 8 (by decide)).trans hP.1
      have nl : ¬ (qn_ P < qn_ P) := by omega
      dsimp only
      rw [s141_23]
      simp (disch := first | omega | assumption | decide | (apply bT_; decide)) only [s141_0, s141_2, s141_3, s141_6, s141_9, s141_10, s141_12, s141_15, s141_16, s141_17, s141_20, s141_21, s141_25, s141_26, s141_29, s141_33, s141_35, s141_36, s141_37, s141_38, s141_39, s141_42, s141_43, s141_46, s141_48, s141_49, s141_51, s141_54, s141_55, s141_56, s141_58, s141_59, s141_60, s141_61, s141_62, s141_64, s141_65, s141_66, s141_68, s141_69, s141_72, s141_74, s141_75, s141_76, s141_78, s141_79, s141_82, s141_84, s141_85, s141_86, s141_89, s141_92, s141_95, K_v, K_0, acI, acA, acJ, acX, List.map_cons, List.map_nil, List.sum_cons, List.sum_nil, true_and, and_true, posT, b2_0, b2_1, bft, true_or, or_true, Nat.zero_le, Nat.reduceAdd, Nat.reduceLeDiff, hI_uI, hL_uI, hR_uI, nx_uI, sl_uI, hI_uL, hL_uL, hR_uL, nx_uL, sl_uL, hI_uR, hL_uR, hR_uR, nx_uR, sl_uR, st_eq, if_true, if_false, eq_self, Nat.reduceEqDiff, Nat.reduceMul, reduceIte, kdT, ixT, w_cl, w_ti, w_s1, w_a, w_m12, w_m8, w_m3, w_m4, hn, nl, w_lt, kd_M, ln_M]
theorem m_fillsT {may L : Nat} (hM : MS_ h) (hP : MP_ P h) (hB : PB_ P) (hmay : may < 2 ^ qn_ P) (hL1 : L ≤ 1000) (e1 : hI_ h 33554440 32 = -1) (hd : 12 ≤ d) : ∃ x' s, FM_ [] [32, 33] h x' ∧ hI_ x' 33554440 33 = Int32.ofNat s ∧ OPT_ P (FE_ P may L) s ∧ Do_ xs d 141 [vA (some 33554440), vI (Int32.ofNat may), vI 0, vI 0, vI (Int32.ofNat L), vI 0, vX 0] h (some none) x' := by
  have h12 := hP.2.1.1
  have hp2 : 2 ^ qn_ P ≤ 2 ^ 12 := Nat.pow_le_pow_right (by omega) h12
  have e00 : sb_ P 1 0 = 0 := sm_zero (fun i _ => by rw [Nat.zero_testBit]; rfl)
  have e01 : sb_ P 0 0 = 0 := sm_zero (fun i _ => by rw [Nat.zero_testBit]; rfl)
  have f1 := (FM_.rf (W := []) (J := [32, 33]) (h := h)).uM (j := 32) (v := 0) (by decide)
  have f2 := f1.uM (j := 33) (v := 0) (by decide)
  simp only [hI_uI, hL_uI, hR_uI, nx_uI, sl_uI, hI_uL, hL_uL, hR_uL, nx_uL, sl_uL, hI_uR, hL_uR, hR_uR, nx_uR, sl_uR, st_eq, if_true, if_false, eq_self, Nat.reduceEqDiff, Nat.reduceMul, reduceIte, kdT, ixT, w_cl, w_ti, w_s1, w_a, w_m12, w_m8, w_m3, w_m4, uI_uI] at f2
  obtain ⟨x', mt', ms', g1, g2, g3, g4, g5, g6⟩ := m_fillsL (xs := xs) hM hP hB (show may < 4096 by omega) hL1 (qn_ P) 0 (by omega) (by omega) 0 0 0 _ d f2 (by simp only [hI_uI, hL_uI, hR_uI, nx_uI, sl_uI, hI_uL, hL_uL, hR_uL, nx_uL, sl_uL, hI_uR, hL_uR, hR_uR, nx_uR, sl_uR, st_eq, if_true, if_false, eq_self, Nat.reduceEqDiff, Nat.reduceMul, reduceIte, kdT, ixT, w_cl, w_ti, w_s1, w_a, w_m12, w_m8, w_m3, w_m4]; rfl) (by simp only [hI_uI, hL_uI, hR_uI, nx_uI, sl_uI, hI_uL, hL_uL, hR_uL, nx_uL, sl_uL, hI_uR, hL_uR, hR_uR, nx_uR, sl_uR, st_eq, if_true, if_false, eq_self, Nat.reduceEqDiff, Nat.reduceMul, reduceIte, kdT, ixT, w_cl, w_ti, w_s1, w_a, w_m12, w_m8, w_m3, w_m4]; rfl) (by omega) (by decide) (by omega) (by omega)
  have hcg : ∀ s, (s = 0 ∨ (FF_ P may L 0 0 s ∧ s ≠ 0)) ↔ FE_ P may L s := by
    intro s
    constructor
    · rintro (z | ⟨⟨z1, z2, z3, z4⟩, z5⟩)
      · rw [z]; exact ⟨Nat.zero_and _, by omega⟩
      · refine ⟨?_, z4⟩
        apply Nat.eq_of_testBit_eq
        intro j
        rw [Nat.testBit_and]
        cases hb : s.testBit j
        · rfl
        · rw [z2 j (Nat.zero_le _) hb]; rfl
    · intro z
      by_cases c : s = 0
      · exact Or.inl c
      · refine Or.inr ⟨⟨fun j hj => absurd hj (Nat.not_lt_zero _), fun j _ hj => ?_, ?_, z.2⟩, c⟩
        · have h1 : s &&& may = s := z.1
          rw [← h1, Nat.testBit_and, Bool.and_eq_true] at hj
          exact hj.2
        · have h1 : s &&& may = s := z.1
          have := Nat.and_le_right (n := s) (m := may)
          omega
  have hopt : OPT_ P (FE_ P may L) ms' := by
    refine OPT_.cg hcg ?_
    rcases g5 with ⟨k1, k2, k3⟩ | ⟨k1, k2, k3, k4⟩
    · refine ⟨Or.inl k2, fun t ht => ?_⟩
      rw [k2]
      rcases ht with z | z
      · rw [z]; exact Or.inr ⟨rfl, Nat.le_refl _⟩
      · right
        have := k3 t z
        exact ⟨by omega, FF_ord0 h12 (by decide) z (Nat.two_pow_pos _)⟩
    · refine ⟨Or.inr k1, fun t ht => ?_⟩
      rcases ht with z | z
      · left; rw [z]; omega
      · rw [k2]; exact k4 t z
  refine ⟨x', ms', g1, g3, hopt, fun Q => ?_⟩
  rw [e00, e01, Nat.sub_zero] at g6
  have n1 : (-1 : Int32) < 0 := by decide
  simp (disch := first | omega | assumption | decide | (apply bT_; decide)) only [s141_0, s141_2, s141_3, s141_6, s141_9, s141_10, s141_12, s141_15, s141_16, s141_17, s141_20, s141_21, s141_25, s141_26, s141_29, s141_32, s141_33, s141_35, s141_36, s141_37, s141_38, s141_39, s141_42, s141_43, s141_46, s141_48, s141_49, s141_51, s141_54, s141_55, s141_56, s141_58, s141_59, s141_60, s141_61, s141_62, s141_64, s141_65, s141_66, s141_68, s141_69, s141_72, s141_74, s141_75, s141_76, s141_78, s141_79, s141_82, s141_84, s141_85, s141_86, s141_89, s141_92, s141_95, K_v, K_0, acI, acA, acJ, acX, List.map_cons, List.map_nil, List.sum_cons, List.sum_nil, true_and, and_true, posT, b2_0, b2_1, bft, true_or, or_true, Nat.zero_le, Nat.reduceAdd, Nat.reduceLeDiff, hI_uI, hL_uI, hR_uI, nx_uI, sl_uI, hI_uL, hL_uL, hR_uL, nx_uL, sl_uL, hI_uR, hL_uR, hR_uR, nx_uR, sl_uR, st_eq, if_true, if_false, eq_self, Nat.reduceEqDiff, Nat.reduceMul, reduceIte, kdT, ixT, w_cl, w_ti, w_s1, w_a, w_m12, w_m8, w_m3, w_m4, e1, n1, uI_uI, kd_M, ln_M]
  exact g6 Q
theorem MC_.fm {σ T U : Nat} {Hs O : Nat → Int32} {J : List Nat} {h1 : AH} (f : FM_ [] J h h1) (hJ : 22 ∉ J) (H : MC_ σ Hs O T U h) : MC_ σ Hs O T U h1 := by
  obtain ⟨e1, e2, e3, e4, e5, e6, e7⟩ := H
  exact ⟨(f.fld 22 hJ).trans e1, e2, fun r hr => by rw [f.row _ (by decide) (by decide)]; exact e3 r hr, fun r hr => by rw [f.row _ (by decide) (by decide)]; exact e4 r hr, by rw [f.2.1]; exact e5, by rw [f.2.1]; exact e6, e7⟩
theorem FM_.km {W J : List Nat} {h1 : AH} (f : FM_ W J h h1) : KM_ W J h h1 := by
  obtain ⟨f1, f2, f3, f4, f5, f6⟩ := f
  exact ⟨fun a q1 _ _ q4 => f5 a q1 q4, f6, f1, fun a _ => by rw [f2], fun j _ _ => by rw [f2], f3, f4⟩
theorem m_fill {v : Int32} {σ T U : Nat} {Hs O : Nat → Int32} (hM : MS_ h) (hA : MA_ na F G h) (hP : MP_ P h) (hc : MC_ σ Hs O T U h) (hD : PD_ P) (hB : PB_ P) (hd : 13 ≤ d) : ∃ h' T' U' σ' Hs' O', KM_ [38535696, 38273552, 38011408] [0, 22, 26, 27, 32, 33] h h' ∧ hI_ h' 33554440 0 = 0 ∧ hI_ h' 38011408 = hI_ h 38011408 ∧ MC_ σ' Hs' O' T' U' h' ∧ Do_ xs d 142 [vA (some 33554440), vI v, vX 0, vX 0] h (some (some (vI (if wi_ v 0 1000 = true then Int32.ofNat (fil_ P (fo_ (mpb_ F G P na) (qn_ P)) v.toNatClampNeg) else -1)))) h' := by
  have h12 := hP.2.1.1
  have kf0 : KM_ [38535696, 38273552, 38011408] [0, 22, 26, 27, 32, 33] h (uI_ h 33554440 (st_ (hI_ h 33554440) 0 0)) := KM_.rf.uM (by decide)
  have hc0 := hc.um (f := st_ (hI_ h 33554440) 0 0) (by simp only [hI_uI, hL_uI, hR_uI, nx_uI, sl_uI, hI_uL, hL_uL, hR_uL, nx_uL, sl_uL, hI_uR, hL_uR, hR_uR, nx_uR, sl_uR, st_eq, if_true, if_false, eq_self, Nat.reduceEqDiff, Nat.reduceMul, reduceIte, kdT, ixT, w_cl, w_ti, w_s1, w_a, w_m12, w_m8, w_m3, w_m4])
  by_cases q : wi_ v 0 1000 = true
  · obtain ⟨u1, u2⟩ := wi_t.mp q
    obtain ⟨L, rfl, e2, e3⟩ := w_of (x := v) u1
    have hL : L ≤ 1000 := by rw [← e2] at u2; have : ((1000 : Int32).toInt) = 1000 := by decide
                             omega
    have hcl : (Int32.ofNat L).toNatClampNeg = L := w_cl e3
    have key : ∀ (k i : Nat) (x : AH) (T U σ : Nat) (Hs O : Nat → Int32), i + k = qn_ P → KM_ [38535696, 38273552, 38011408] [0, 22, 26, 27, 32, 33] h x → hI_ x 33554440 0 = 0 → hI_ x 38011408 = hI_ h 38011408 → MC_ σ Hs O T U x → ∃ x' v3 T' U' σ' Hs' O', KM_ [38535696, 38273552, 38011408] [0, 22, 26, 27, 32, 33] h x' ∧ hI_ x' 33554440 0 = 0 ∧ hI_ x' 38011408 = hI_ h 38011408 ∧ MC_ σ' Hs' O' T' U' x' ∧ ∀ Q, V_ xs d 142 22 [vA (some 33554440), vI (Int32.ofNat L), vI (Int32.ofNat (fo_ (mpb_ F G P na) i)), vI (Int32.ofNat i)] [] x Q ↔ V_ xs d 142 59 [vA (some 33554440), vI (Int32.ofNat L), vI (Int32.ofNat (fo_ (mpb_ F G P na) (qn_ P))), v3] [] x' Q := by
      intro k
      induction k with
      | zero =>
        intro i x T U σ Hs O hk i1 i2 i3 i4
        have e : i = qn_ P := by omega
        have hn := (i1.mp (by decide) (by decide) hP).1
        have nl : ¬ (qn_ P < qn_ P) := by omega
        refine ⟨x, vI (Int32.ofNat (qn_ P)), T, U, σ, Hs, O, i1, i2, i3, i4, fun Q => ?_⟩
        rw [e, s142_22]
        simp (disch := first | omega | assumption | decide | (apply bT_; decide)) only [s142_0, s142_1, s142_2, s142_5, s142_6, s142_7, s142_10, s142_13, s142_16, s142_17, s142_18, s142_19, s142_20, s142_21, s142_23, s142_24, s142_27, s142_31, s142_34, s142_36, s142_39, s142_40, s142_41, s142_44, s142_47, s142_48, s142_49, s142_50, s142_51, s142_52, s142_53, s142_56, s142_60, s142_61, s142_64, s142_65, s142_66, s142_69, s142_70, s142_71, s142_72, s142_73, s142_74, s142_75, s142_78, s142_79, s142_82, K_v, K_0, acI, acA, acJ, acX, List.map_cons, List.map_nil, List.sum_cons, List.sum_nil, true_and, and_true, posT, b2_0, b2_1, bft, true_or, or_true, Nat.zero_le, Nat.reduceAdd, Nat.reduceLeDiff, hI_uI, hL_uI, hR_uI, nx_uI, sl_uI, hI_uL, hL_uL, hR_uL, nx_uL, sl_uL, hI_uR, hL_uR, hR_uR, nx_uR, sl_uR, st_eq, if_true, if_false, eq_self, Nat.reduceEqDiff, Nat.reduceMul, reduceIte, kdT, ixT, w_cl, w_ti, w_s1, w_a, w_m12, w_m8, w_m3, w_m4, hn, nl, w_lt, kd_M, ln_M]
      | succ k ih =>
        intro i x T U σ Hs O hk i1 i2 i3 i4
        have hi : i < qn_ P := by omega
        have hPx := i1.mp (by decide) (by decide) hP
        have hn := hPx.1
        have hfl := fo_lt (c := mpb_ F G P na) (n := i)
        have hp2 : 2 ^ i ≤ 2 ^ 12 := Nat.pow_le_pow_right (by omega) (by omega)
        have hbc := bc_12 (fo_ (mpb_ F G P na) i) (by omega)
        have hle := mem_le (s := fo_ (mpb_ F G P na) i) (n := 12)
        by_cases q8 : (mem_ (fo_ (mpb_ F G P na) i) 12).length < 8
        · have n8 : Int32.ofNat (mem_ (fo_ (mpb_ F G P na) i) 12).length < 8 := (w_lt (b := 8) (by omega) (by omega)).mpr q8
          obtain ⟨y, T2, U2, σ2, H2, O2, k1, k2, k3, k4, k5⟩ := c_misPlayable (xs := xs) (d := d - 1) (p := i) (i1.ms hM) (i1.ma (by decide) (by decide) hA) hPx i4 hD (by omega) (by omega)
          obtain ⟨x', v3, T', U', σ', Hs', O', g1, g2, g3, g4, g5⟩ := ih (i + 1) y T2 U2 σ2 H2 O2 (by omega) (i1.tr (k1.wk (by decide) (by decide))) (k2.trans i2) (k3.trans i3) k4
          refine ⟨x', v3, T', U', σ', Hs', O', g1, g2, g3, g4, fun Q => Iff.trans ?_ (g5 Q)⟩
          have es : fo_ (mpb_ F G P na) (i + 1) = if (mem_ (fo_ (mpb_ F G P na) i) 12).length < 8 ∧ mpb_ F G P na i = true then fo_ (mpb_ F G P na) i + 2 ^ i else fo_ (mpb_ F G P na) i := rfl
          have hsh := w_shl i (by omega)
          have hor := w_or (a := fo_ (mpb_ F G P na) i) (b := 2 ^ i)
          rw [or_pow hfl] at hor
          rw [s142_22, es]
          cases hcb : mpb_ F G P na i
          · rw [hcb] at k5
            have k5' : ∀ Q : OU_ → AH → Prop, V_ xs (d - 1) 135 0 [vA (some 33554440), vI (Int32.ofNat i)] [] x Q ↔ Q (some (some (vI 0))) y := k5
            rw [if_neg (fun z => by cases z.2)]
            simp (disch := first | omega | assumption | decide | (apply bT_; decide)) only [s142_0, s142_1, s142_2, s142_5, s142_6, s142_7, s142_10, s142_13, s142_16, s142_17, s142_18, s142_19, s142_20, s142_21, s142_23, s142_24, s142_27, s142_30, s142_31, s142_34, s142_36, s142_39, s142_40, s142_41, s142_44, s142_48, s142_49, s142_50, s142_51, s142_52, s142_53, s142_56, s142_60, s142_61, s142_64, s142_65, s142_66, s142_69, s142_70, s142_71, s142_72, s142_73, s142_74, s142_75, s142_78, s142_79, s142_82, K_v, K_0, acI, acA, acJ, acX, List.map_cons, List.map_nil, List.sum_cons, List.sum_nil, true_and, and_true, posT, b2_0, b2_1, bft, true_or, or_true, Nat.zero_le, Nat.reduceAdd, Nat.reduceLeDiff, hI_uI, hL_uI, hR_uI, nx_uI, sl_uI, hI_uL, hL_uL, hR_uL, nx_uL, sl_uL, hI_uR, hL_uR, hR_uR, nx_uR, sl_uR, st_eq, if_true, if_false, eq_self, Nat.reduceEqDiff, Nat.reduceMul, reduceIte, kdT, ixT, w_cl, w_ti, w_s1, w_a, w_m12, w_m8, w_m3, w_m4, hn, hi, w_lt, c_bitCountA, hbc, n8, k5', kd_M, ln_M]
          · rw [hcb] at k5
            have k5' : ∀ Q : OU_ → AH → Prop, V_ xs (d - 1) 135 0 [vA (some 33554440), vI (Int32.ofNat i)] [] x Q ↔ Q (some (some (vI 1))) y := k5
            have k10 : ¬ ((1 : Int32) = 0) := by decide
            rw [if_pos ⟨q8, rfl⟩]
            simp (disch := first | omega | assumption | decide | (apply bT_; decide)) only [s142_0, s142_1, s142_2, s142_5, s142_6, s142_7, s142_10, s142_13, s142_16, s142_17, s142_18, s142_19, s142_20, s142_21, s142_23, s142_24, s142_27, s142_30, s142_31, s142_34, s142_36, s142_39, s142_40, s142_41, s142_44, s142_47, s142_48, s142_49, s142_50, s142_51, s142_52, s142_53, s142_56, s142_60, s142_61, s142_64, s142_65, s142_66, s142_69, s142_70, s142_71, s142_72, s142_73, s142_74, s142_75, s142_78, s142_79, s142_82, K_v, K_0, acI, acA, acJ, acX, List.map_cons, List.map_nil, List.sum_cons, List.sum_nil, true_and, and_true, posT, b2_0, b2_1, bft, true_or, or_true, Nat.zero_le, Nat.reduceAdd, Nat.reduceLeDiff, hI_uI, hL_uI, hR_uI, nx_uI, sl_uI, hI_uL, hL_uL, hR_uL, nx_uL, sl_uL, hI_uR, hL_uR, hR_uR, nx_uR, sl_uR, st_eq, if_true, if_false, eq_self, Nat.reduceEqDiff, Nat.reduceMul, reduceIte, kdT, ixT, w_cl, w_ti, w_s1, w_a, w_m12, w_m8, w_m3, w_m4, hn, hi, w_lt, c_bitCountA, hbc, n8, k5', k10, hsh, hor, kd_M, ln_M]
        · have n8 : ¬ (Int32.ofNat (mem_ (fo_ (mpb_ F G P na) i) 12).length < 8) := fun z => q8 ((w_lt (b := 8) (by omega) (by omega)).mp z)
          have e : fo_ (mpb_ F G P na) (qn_ P) = fo_ (mpb_ F G P na) i := by rw [← hk]; exact fo_stop q8
          refine ⟨x, vI (Int32.ofNat i), T, U, σ, Hs, O, i1, i2, i3, i4, fun Q => ?_⟩
          rw [s142_22, e]
          simp (disch := first | omega | assumption | decide | (apply bT_; decide)) only [s142_0, s142_1, s142_2, s142_5, s142_6, s142_7, s142_10, s142_13, s142_16, s142_17, s142_18, s142_19, s142_20, s142_21, s142_23, s142_24, s142_27, s142_30, s142_31, s142_34, s142_36, s142_40, s142_41, s142_44, s142_47, s142_48, s142_49, s142_50, s142_51, s142_52, s142_53, s142_56, s142_60, s142_61, s142_64, s142_65, s142_66, s142_69, s142_70, s142_71, s142_72, s142_73, s142_74, s142_75, s142_78, s142_79, s142_82, K_v, K_0, acI, acA, acJ, acX, List.map_cons, List.map_nil, List.sum_cons, List.sum_nil, true_and, and_true, posT, b2_0, b2_1, bft, true_or, or_true, Nat.zero_le, Nat.reduceAdd, Nat.reduceLeDiff, hI_uI, hL_uI, hR_uI, nx_uI, sl_uI, hI_uL, hL_uL, hR_uL, nx_uL, sl_uL, hI_uR, hL_uR, hR_uR, nx_uR, sl_uR, st_eq, if_true, if_false, eq_self, Nat.reduceEqDiff, Nat.reduceMul, reduceIte, kdT, ixT, w_cl, w_ti, w_s1, w_a, w_m12, w_m8, w_m3, w_m4, hn, hi, w_lt, c_bitCountA, hbc, n8, kd_M, ln_M]
    obtain ⟨x, v3, T1, U1, σ1, H1, O1, g1, g2, g3, g4, g5⟩ := key (qn_ P) 0 _ T U σ Hs O (by omega) kf0 (by simp only [hI_uI, hL_uI, hR_uI, nx_uI, sl_uI, hI_uL, hL_uL, hR_uL, nx_uL, sl_uL, hI_uR, hL_uR, hR_uR, nx_uR, sl_uR, st_eq, if_true, if_false, eq_self, Nat.reduceEqDiff, Nat.reduceMul, reduceIte, kdT, ixT, w_cl, w_ti, w_s1, w_a, w_m12, w_m8, w_m3, w_m4]) (by simp only [hI_uI, hL_uI, hR_uI, nx_uI, sl_uI, hI_uL, hL_uL, hR_uL, nx_uL, sl_uL, hI_uR, hL_uR, hR_uR, nx_uR, sl_uR, st_eq, if_true, if_false, eq_self, Nat.reduceEqDiff, Nat.reduceMul, reduceIte, kdT, ixT, w_cl, w_ti, w_s1, w_a, w_m12, w_m8, w_m3, w_m4]) hc0
    have g1a := g1.uM (j := 32) (v := -1) (by decide)
    have g1b := g1a.uM (j := 33) (v := 0) (by decide)
    simp only [hI_uI, hL_uI, hR_uI, nx_uI, sl_uI, hI_uL, hL_uL, hR_uL, nx_uL, sl_uL, hI_uR, hL_uR, hR_uR, nx_uR, sl_uR, st_eq, if_true, if_false, eq_self, Nat.reduceEqDiff, Nat.reduceMul, reduceIte, kdT, ixT, w_cl, w_ti, w_s1, w_a, w_m12, w_m8, w_m3, w_m4, uI_uI] at g1b
    obtain ⟨x', s, k1, k2, k3, k4⟩ := m_fillsT (xs := xs) (d := d - 1) (h := uI_ x 33554440 (st_ (st_ (hI_ x 33554440) 32 (-1)) 33 0)) (may := fo_ (mpb_ F G P na) (qn_ P)) (L := L) (g1b.ms hM) (g1b.mp (by decide) (by decide) hP) hB fo_lt hL (by simp only [hI_uI, hL_uI, hR_uI, nx_uI, sl_uI, hI_uL, hL_uL, hR_uL, nx_uL, sl_uL, hI_uR, hL_uR, hR_uR, nx_uR, sl_uR, st_eq, if_true, if_false, eq_self, Nat.reduceEqDiff, Nat.reduceMul, reduceIte, kdT, ixT, w_cl, w_ti, w_s1, w_a, w_m12, w_m8, w_m3, w_m4]) (by omega)
    have hp2 : 2 ^ qn_ P ≤ 2 ^ 12 := Nat.pow_le_pow_right (by omega) h12
    have hfl := fo_lt (c := mpb_ F G P na) (n := qn_ P)
    refine ⟨x', T1, U1, σ1, H1, O1, g1b.tr (k1.km.wk (by decide) (by decide)), ?_, ?_, (g4.um (by simp only [hI_uI, hL_uI, hR_uI, nx_uI, sl_uI, hI_uL, hL_uL, hR_uL, nx_uL, sl_uL, hI_uR, hL_uR, hR_uR, nx_uR, sl_uR, st_eq, if_true, if_false, eq_self, Nat.reduceEqDiff, Nat.reduceMul, reduceIte, kdT, ixT, w_cl, w_ti, w_s1, w_a, w_m12, w_m8, w_m3, w_m4])).fm k1 (by decide), fun Q => ?_⟩
    · rw [k1.fld 0 (by decide)]; simp only [hI_uI, hL_uI, hR_uI, nx_uI, sl_uI, hI_uL, hL_uL, hR_uL, nx_uL, sl_uL, hI_uR, hL_uR, hR_uR, nx_uR, sl_uR, st_eq, if_true, if_false, eq_self, Nat.reduceEqDiff, Nat.reduceMul, reduceIte, kdT, ixT, w_cl, w_ti, w_s1, w_a, w_m12, w_m8, w_m3, w_m4]; exact g2
    · rw [k1.row _ (by decide) (by decide)]; simp only [hI_uI, hL_uI, hR_uI, nx_uI, sl_uI, hI_uL, hL_uL, hR_uL, nx_uL, sl_uL, hI_uR, hL_uR, hR_uR, nx_uR, sl_uR, st_eq, if_true, if_false, eq_self, Nat.reduceEqDiff, Nat.reduceMul, reduceIte, kdT, ixT, w_cl, w_ti, w_s1, w_a, w_m12, w_m8, w_m3, w_m4]; exact g3
    · rw [if_pos q, hcl, fil_eq (by omega) k3]
      have k10 : ¬ ((1 : Int32) = 0) := by decide
      have hwi : b2_ (wi_ (Int32.ofNat L) 0 1000) = 1 := by rw [q]; rfl
      simp (disch := first | omega | assumption | decide | (apply bT_; decide)) only [s142_0, s142_1, s142_2, s142_5, s142_6, s142_7, s142_10, s142_13, s142_17, s142_18, s142_19, s142_20, s142_21, s142_23, s142_24, s142_27, s142_30, s142_31, s142_34, s142_36, s142_39, s142_40, s142_41, s142_44, s142_47, s142_48, s142_49, s142_50, s142_51, s142_52, s142_53, s142_56, s142_59, s142_60, s142_61, s142_64, s142_65, s142_66, s142_69, s142_70, s142_71, s142_72, s142_73, s142_74, s142_75, s142_78, s142_79, s142_82, K_v, K_0, acI, acA, acJ, acX, List.map_cons, List.map_nil, List.sum_cons, List.sum_nil, true_and, and_true, posT, b2_0, b2_1, bft, true_or, or_true, Nat.zero_le, Nat.reduceAdd, Nat.reduceLeDiff, hI_uI, hL_uI, hR_uI, nx_uI, sl_uI, hI_uL, hL_uL, hR_uL, nx_uL, sl_uL, hI_uR, hL_uR, hR_uR, nx_uR, sl_uR, st_eq, if_true, if_false, eq_self, Nat.reduceEqDiff, Nat.reduceMul, reduceIte, kdT, ixT, w_cl, w_ti, w_s1, w_a, w_m12, w_m8, w_m3, w_m4, c_mwithin, hwi, k10, kd_M, ln_M]
      refine Iff.trans (show V_ xs d 142 22 _ _ _ _ ↔ _ from g5 Q) ?_
      simp (disch := first | omega | assumption | decide | (apply bT_; decide)) only [s142_0, s142_1, s142_2, s142_5, s142_6, s142_7, s142_10, s142_13, s142_16, s142_17, s142_18, s142_19, s142_20, s142_21, s142_23, s142_24, s142_27, s142_30, s142_31, s142_34, s142_36, s142_39, s142_40, s142_41, s142_44, s142_47, s142_48, s142_49, s142_50, s142_51, s142_52, s142_53, s142_56, s142_59, s142_60, s142_61, s142_64, s142_65, s142_66, s142_69, s142_70, s142_71, s142_72, s142_73, s142_74, s142_75, s142_78, s142_79, s142_82, K_v, K_0, acI, acA, acJ, acX, List.map_cons, List.map_nil, List.sum_cons, List.sum_nil, true_and, and_true, posT, b2_0, b2_1, bft, true_or, or_true, Nat.zero_le, Nat.reduceAdd, Nat.reduceLeDiff, hI_uI, hL_uI, hR_uI, nx_uI, sl_uI, hI_uL, hL_uL, hR_uL, nx_uL, sl_uL, hI_uR, hL_uR, hR_uR, nx_uR, sl_uR, st_eq, if_true, if_false, eq_self, Nat.reduceEqDiff, Nat.reduceMul, reduceIte, kdT, ixT, w_cl, w_ti, w_s1, w_a, w_m12, w_m8, w_m3, w_m4, uI_uI, k4, k2, kd_M, ln_M]
  · refine ⟨_, T, U, σ, Hs, O, kf0, by simp only [hI_uI, hL_uI, hR_uI, nx_uI, sl_uI, hI_uL, hL_uL, hR_uL, nx_uL, sl_uL, hI_uR, hL_uR, hR_uR, nx_uR, sl_uR, st_eq, if_true, if_false, eq_self, Nat.reduceEqDiff, Nat.reduceMul, reduceIte, kdT, ixT, w_cl, w_ti, w_s1, w_a, w_m12, w_m8, w_m3, w_m4], by simp only [hI_uI, hL_uI, hR_uI, nx_uI, sl_uI, hI_uL, hL_uL, hR_uL, nx_uL, sl_uL, hI_uR, hL_uR, hR_uR, nx_uR, sl_uR, st_eq, if_true, if_false, eq_self, Nat.reduceEqDiff, Nat.reduceMul, reduceIte, kdT, ixT, w_cl, w_ti, w_s1, w_a, w_m12, w_m8, w_m3, w_m4], hc0, fun Q => ?_⟩
    have hwi : b2_ (wi_ v 0 1000) = 0 := by cases hw : wi_ v 0 1000; rfl; exact absurd hw q
    rw [if_neg q]
    simp (disch := first | omega | assumption | decide | (apply bT_; decide)) only [s142_0, s142_1, s142_2, s142_5, s142_6, s142_7, s142_10, s142_13, s142_16, s142_17, s142_19, s142_20, s142_21, s142_22, s142_23, s142_24, s142_27, s142_30, s142_31, s142_34, s142_36, s142_39, s142_40, s142_41, s142_44, s142_47, s142_48, s142_49, s142_50, s142_51, s142_52, s142_53, s142_56, s142_59, s142_60, s142_61, s142_64, s142_65, s142_66, s142_69, s142_70, s142_71, s142_72, s142_73, s142_74, s142_75, s142_78, s142_79, s142_82, K_v, K_0, acI, acA, acJ, acX, List.map_cons, List.map_nil, List.sum_cons, List.sum_nil, true_and, and_true, posT, b2_0, b2_1, bft, true_or, or_true, Nat.zero_le, Nat.reduceAdd, Nat.reduceLeDiff, hI_uI, hL_uI, hR_uI, nx_uI, sl_uI, hI_uL, hL_uL, hR_uL, nx_uL, sl_uL, hI_uR, hL_uR, hR_uR, nx_uR, sl_uR, st_eq, if_true, if_false, eq_self, Nat.reduceEqDiff, Nat.reduceMul, reduceIte, kdT, ixT, w_cl, w_ti, w_s1, w_a, w_m12, w_m8, w_m3, w_m4, c_mwithin, hwi, kd_M, ln_M]
end MFI
