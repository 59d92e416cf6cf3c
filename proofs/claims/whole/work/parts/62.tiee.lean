/-! casts: a play can be cast -/
section TIF
variable {P : PS} {na : Nat} {F G : Nat → Nat → Int32} {σ p c : Nat} {Hs O : Nat → Int32} {f g : Nat → Nat}
theorem and_pow {m i : Nat} : 2 ^ i &&& m = if m.testBit i = true then 2 ^ i else 0 := by
  apply Nat.eq_of_testBit_eq
  intro j
  rw [Nat.testBit_and, Nat.testBit_two_pow]
  by_cases q : i = j
  · rw [decide_eq_true q, Bool.true_and, ← q]
    cases hb : m.testBit i
    · rw [if_neg (by decide), Nat.zero_testBit]
    · rw [if_pos rfl, Nat.testBit_two_pow_self]
  · rw [decide_eq_false q, Bool.false_and]
    split
    · rw [Nat.testBit_two_pow, decide_eq_false q]
    · rw [Nat.zero_testBit]
theorem nd_bit {r : Nat} : (nd_ P p).testBit r = (decide (r < qr_ P p) && qd_ P p r) := msk_bit
theorem can_iff (hv : PV_ P) (hD : PD_ P) : (∃ v, RC_ F G P p (nd_ P p) 0 na (nd_ P p) v) ↔ ∃ f, CC_ F G P p na f := by
  have h8 := hv.2.2.1 p
  constructor
  · rintro ⟨v, f, hV, hm, -⟩
    refine ⟨f, ⟨hV.1, hV.2.1, fun b hb => ?_⟩, fun r hr hq e => ?_⟩
    · rcases hV.2.2 b hb with q | ⟨q1, q2⟩
      · exact Or.inl q
      · refine Or.inr ⟨q1, fun r hr hbt => ?_⟩
        have := q2 r hr hbt
        unfold mv_ at this
        exact (Bool.and_eq_true_iff.mp this).2
    · have h1 : (ms_ 8 f).testBit r = true := by rw [hm, nd_bit, decide_eq_true hr, hq]; rfl
      rw [ms_bit, e] at h1
      exact absurd (Bool.and_eq_true_iff.mp h1).2 (by decide)
  · rintro ⟨f, ⟨v1, v2, v3⟩, hN⟩
    have hp : ∀ b, prt_ 8 (fun r => if (nd_ P p).testBit r = true then f r else 0) b = prt_ 8 f b &&& nd_ P p := by
      intro b
      apply Nat.eq_of_testBit_eq
      intro r
      rw [Nat.testBit_and, prt_bit, prt_bit]
      cases hb : (nd_ P p).testBit r
      · simp
      · simp
    refine ⟨_, fun r => if (nd_ P p).testBit r = true then f r else 0, ⟨fun r hr => ?_, fun r => ?_, fun b hb => ?_⟩, ?_, rfl⟩
    · dsimp only
      rw [v1 r hr]; split <;> rfl
    · dsimp only
      have := v2 r
      split <;> omega
    · rw [hp b]
      rcases v3 b hb with q | ⟨q1, q2⟩
      · left; rw [q, Nat.zero_and]
      · by_cases z : prt_ 8 f b &&& nd_ P p = 0
        · exact Or.inl z
        · refine Or.inr ⟨?_, fun r hr hbt => ?_⟩
          · rcases q1 with ⟨r, hr, e⟩ | ⟨i, hi, e⟩
            · rw [e, and_pow] at z ⊢
              cases hb : (nd_ P p).testBit r
              · rw [hb] at z; exact absurd rfl z
              · rw [if_pos rfl]; exact Or.inl ⟨r, hr, rfl⟩
            · obtain ⟨-, -, x, y, hxy, hy, e2⟩ := bt_lt (p := p) hv hD hi
              have e3 : prt_ 8 f b &&& nd_ P p = (if (nd_ P p).testBit x = true then 2 ^ x else 0) ||| (if (nd_ P p).testBit y = true then 2 ^ y else 0) := by
                rw [e, e2, Nat.and_or_distrib_right, and_pow, and_pow]
              rw [e3] at z ⊢
              cases hb1 : (nd_ P p).testBit x
              · cases hb2 : (nd_ P p).testBit y
                · rw [hb1, hb2] at z; exact absurd (by simp) z
                · rw [if_neg (by decide), if_pos rfl, Nat.zero_or]; exact Or.inl ⟨y, by omega, rfl⟩
              · cases hb2 : (nd_ P p).testBit y
                · rw [if_pos rfl, if_neg (by decide), Nat.or_zero]; exact Or.inl ⟨x, by omega, rfl⟩
                · rw [if_pos rfl, if_pos rfl]; exact Or.inr ⟨i, hi, e2.symm⟩
          · rw [Nat.testBit_and] at hbt
            have h1 := Bool.and_eq_true_iff.mp hbt
            unfold mv_
            rw [h1.2, Bool.true_and]
            exact q2 r hr h1.1
    · apply Nat.eq_of_testBit_eq
      intro r
      rw [ms_bit]
      cases hb : (nd_ P p).testBit r
      · simp
      · rw [nd_bit] at hb
        have h1 := Bool.and_eq_true_iff.mp hb
        have h2 := of_decide_eq_true h1.1
        have h3 := hN r h2 h1.2
        simp [h3]
        omega
theorem cbc_mpb (hv : PV_ P) (hD : PD_ P) (hna : na ≤ 12) : cbc_ F G P na p = mpb_ F G P na p := by
  unfold cbc_ mpb_
  refine (@decide_eq_decide _ _ (Classical.propDecidable _) (Classical.propDecidable _)).mpr ((can_iff hv hD).trans ?_)
  constructor
  · rintro ⟨f, hf⟩
    exact ⟨_, _, (EL_iff hv hna (Nat.zero_le _)).mpr ⟨f, hf, fun r hr => absurd hr (Nat.not_lt_zero _), rfl, rfl⟩⟩
  · rintro ⟨x, y, h⟩
    obtain ⟨f, hf, -⟩ := (EL_iff hv hna (Nat.zero_le _)).mp h
    exact ⟨f, hf⟩
end TIF
