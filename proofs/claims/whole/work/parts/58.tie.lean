/-! casts: the class's numbers and the model's choices are of the same casts -/
def cm_ (F G : Nat → Nat → Int32) (P : PS) (p a r : Nat) : Bool := decide (r < qr_ P p) && abl_ F G P a p r
def CC_ (F G : Nat → Nat → Int32) (P : PS) (p na : Nat) (f : Nat → Nat) : Prop := Val_ 8 (qb_ P p) (bt_ P p) (cm_ F G P p) na f ∧ ∀ r, r < qr_ P p → qd_ P p r = true → f r ≠ 0
def agr_ (x : Int32) (k : Nat) : Prop := (k = 0 ∧ x = -1) ∨ (∃ b, k = b + 1 ∧ x = Int32.ofNat b)
section TIE
variable {P : PS} {na : Nat} {F G : Nat → Nat → Int32} {σ p c : Nat} {Hs O : Nat → Int32} {f : Nat → Nat}
theorem w_nm1 {b : Nat} (hb : b < 1000) : ¬ (Int32.ofNat b = -1) := fun z => by
  have := congrArg Int32.toInt z
  rw [w_ti (by omega)] at this
  have h1 : ((-1 : Int32)).toInt = -1 := rfl
  omega
theorem Val_own {n nb : Nat} {bt : Nat → Nat} {may : Nat → Nat → Bool} {a r : Nat} (H : Val_ n nb bt may a f) (hr : f r ≠ 0) : r < n ∧ f r - 1 < a ∧ may (f r - 1) r = true := by
  obtain ⟨v1, v2, v3⟩ := H
  have hrn : r < n := by
    rcases Nat.lt_or_ge r n with q | q
    · exact q
    · exact absurd (v1 r q) hr
  have h4 := v2 r
  have hb : (prt_ n f (f r - 1)).testBit r = true := by
    rw [prt_bit, decide_eq_true hrn, Bool.true_and]
    exact beq_iff_eq.mpr (by omega)
  have h5 := (v3 (f r - 1) (by omega)).resolve_left (fun z => by rw [z, Nat.zero_testBit] at hb; cases hb)
  exact ⟨hrn, by omega, h5.2 r hrn hb⟩
theorem BS_iff (hv : PV_ P) {v : Nat} : BS_ F G P na p c v ↔ ∃ f, CC_ F G P p na f ∧ cw_ 8 (gw_ c) f = v := by
  have h8 := hv.2.2.1 p
  have em : mv_ F G P p (2 ^ qr_ P p - 1) = cm_ F G P p := by
    funext a r
    unfold mv_ cm_
    rw [Nat.testBit_two_pow_sub_one]
    cases decide (r < qr_ P p) <;> rfl
  have hn : ∀ f, (ms_ 8 f &&& nd_ P p = nd_ P p) ↔ ∀ r, r < qr_ P p → qd_ P p r = true → f r ≠ 0 := by
    intro f
    rw [and_sub]
    unfold nd_
    constructor
    · intro e r hr hq
      have := e r (by rw [msk_bit, decide_eq_true hr, hq]; rfl)
      rw [ms_bit] at this
      exact bne_iff_ne.mp (Bool.and_eq_true_iff.mp this).2
    · intro e r hr
      rw [msk_bit] at hr
      have h1 := Bool.and_eq_true_iff.mp hr
      have h2 := of_decide_eq_true h1.1
      rw [ms_bit, decide_eq_true (show r < 8 by omega), Bool.true_and]
      exact bne_iff_ne.mpr (e r h2 h1.2)
  unfold BS_ RC_ R_
  rw [em]
  constructor
  · rintro ⟨s, h1, f, h2, rfl, h3⟩
    exact ⟨f, ⟨h2, (hn f).mp h1⟩, h3⟩
  · rintro ⟨f, ⟨h2, h1⟩, h3⟩
    exact ⟨ms_ 8 f, (hn f).mpr h1, f, h2, rfl, h3⟩
theorem EL_iff (hv : PV_ P) (hna : na ≤ 12) (hσ : σ ≤ qr_ P p) {x y : Nat} : EL_ F G P p σ Hs O na (2 ^ qr_ P p) x y ↔ ∃ f, CC_ F G P p na f ∧ (∀ r, r < σ → agr_ (Hs r) (f r)) ∧ x = cw_ 8 (gm_ O) f + hc_ P p O (ms_ 8 f) (qr_ P p) ∧ y = pc_ (ms_ 8 f) := by
  have h8 := hv.2.2.1 p
  constructor
  · rintro ⟨s, v, hs, ⟨f, hV, rfl, rfl⟩, hg, h4, h5⟩
    have hbad : ∀ r, r < qr_ P p → bad_ P p σ Hs (ms_ 8 f) r = false := by
      intro r hr
      cases hb : bad_ P p σ Hs (ms_ 8 f) r
      · rfl
      · unfold igd_ at hg
        rw [show an_ (bad_ P p σ Hs (ms_ 8 f)) (qr_ P p) 0 = true from an_iff.mpr ⟨r, Nat.zero_le _, by omega, hb⟩] at hg
        cases hg
    have hbit : ∀ r, r < qr_ P p → (ms_ 8 f).testBit r = (f r != 0) := fun r hr => by rw [ms_bit, decide_eq_true (show r < 8 by omega), Bool.true_and]
    refine ⟨f, ⟨⟨hV.1, hV.2.1, fun b hb => ?_⟩, fun r hr hq e => ?_⟩, fun r hr => ?_, h4, h5⟩
    · rcases hV.2.2 b hb with q | ⟨q1, q2⟩
      · exact Or.inl q
      · refine Or.inr ⟨q1, fun r hr hbt => ?_⟩
        have := q2 r hr hbt
        unfold mm_ at this
        exact (Bool.and_eq_true_iff.mp this).2
    · have := hbad r hr
      unfold bad_ at this
      rw [hbit r hr, e, hq] at this
      cases this
    · have hb := hbad r (by omega)
      unfold bad_ at hb
      rw [hbit r (by omega), decide_eq_true hr, Bool.true_and] at hb
      have hb2 := (Bool.or_eq_false_iff.mp hb).2
      by_cases q : f r = 0
      · left
        rw [q] at hb2
        refine ⟨q, ?_⟩
        by_cases q2 : Hs r = -1
        · exact q2
        · rw [decide_eq_false q2] at hb2; cases hb2
      · right
        obtain ⟨o1, o2, o3⟩ := Val_own hV q
        unfold mm_ at o3
        have := (Bool.and_eq_true_iff.mp o3).1
        rw [decide_eq_false (by omega), Bool.false_or] at this
        exact ⟨f r - 1, by omega, of_decide_eq_true this⟩
  · rintro ⟨f, ⟨hV, hN⟩, hA, h4, h5⟩
    have hbit : ∀ r, r < qr_ P p → (ms_ 8 f).testBit r = (f r != 0) := fun r hr => by rw [ms_bit, decide_eq_true (show r < 8 by omega), Bool.true_and]
    have hV2 : Val_ 8 (qb_ P p) (bt_ P p) (mm_ F G P p σ Hs) na f := by
      refine ⟨hV.1, hV.2.1, fun b hb => ?_⟩
      rcases hV.2.2 b hb with q | ⟨q1, q2⟩
      · exact Or.inl q
      · refine Or.inr ⟨q1, fun r hr hbt => ?_⟩
        have h6 := q2 r hr hbt
        unfold mm_
        rw [Bool.and_eq_true]
        refine ⟨?_, h6⟩
        rw [prt_bit, decide_eq_true hr, Bool.true_and] at hbt
        have hf : f r = b + 1 := beq_iff_eq.mp hbt
        by_cases q : σ ≤ r
        · rw [decide_eq_true q]; rfl
        · rcases hA r (by omega) with ⟨e, -⟩ | ⟨b', e1, e2⟩
          · omega
          · have : b' = b := by omega
            rw [this] at e2
            rw [decide_eq_true e2, Bool.or_true]
    have hRM : RM_ F G P p σ Hs O na (ms_ 8 f) (cw_ 8 (gm_ O) f) := ⟨f, hV2, rfl, rfl⟩
    refine ⟨ms_ 8 f, cw_ 8 (gm_ O) f, (RM_bd hRM).1, hRM, ?_, h4, h5⟩
    unfold igd_
    cases hb : an_ (bad_ P p σ Hs (ms_ 8 f)) (qr_ P p) 0
    · rfl
    · obtain ⟨r, -, hr, hbd⟩ := an_iff.mp hb
      have hr' : r < qr_ P p := by omega
      unfold bad_ at hbd
      rw [hbit r hr'] at hbd
      rcases Bool.or_eq_true_iff.mp hbd with q | q
      · have q1 := Bool.and_eq_true_iff.mp q
        have := hN r hr' q1.2
        rw [bne_iff_ne.mpr this] at q1
        cases q1.1
      · have q1 := Bool.and_eq_true_iff.mp q
        have hrσ := of_decide_eq_true q1.1
        rcases hA r hrσ with ⟨e1, e2⟩ | ⟨b, e1, e2⟩
        · rw [e1, e2] at q1
          exact absurd q1.2 (by decide)
        · have hb12 : b < 12 := by have := hV.2.1 r; omega
          rw [e1, e2, decide_eq_false (w_nm1 (by omega))] at q1
          have : ((b + 1 != 0) : Bool) = true := bne_iff_ne.mpr (by omega)
          rw [this] at q1
          exact absurd q1.2 (by decide)
end TIE
