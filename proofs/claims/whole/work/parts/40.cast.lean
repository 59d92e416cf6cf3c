/-! casts: a cast gives to each role 0 (nobody) or an actor + 1 -/
def prt_ (n : Nat) (f : Nat → Nat) (b : Nat) : Nat := msk_ (fun r => f r == b + 1) n
def ms_ (n : Nat) (f : Nat → Nat) : Nat := msk_ (fun r => f r != 0) n
/-- what an actor may have: one role, or a double; all of them able -/
def leg_ (n nb : Nat) (bt : Nat → Nat) (may : Nat → Nat → Bool) (b m : Nat) : Prop := ((∃ r, r < n ∧ m = 2 ^ r) ∨ (∃ i, i < nb ∧ m = bt i)) ∧ ∀ r, r < n → m.testBit r = true → may b r = true
def Val_ (n nb : Nat) (bt : Nat → Nat) (may : Nat → Nat → Bool) (a : Nat) (f : Nat → Nat) : Prop := (∀ r, n ≤ r → f r = 0) ∧ (∀ r, f r ≤ a) ∧ ∀ b, b < a → prt_ n f b = 0 ∨ leg_ n nb bt may b (prt_ n f b)
def sm_ (g : Nat → Nat) : Nat → Nat
  | 0 => 0
  | n + 1 => sm_ g n + g n
theorem sm_congr {g g' : Nat → Nat} : ∀ {n : Nat}, (∀ i, i < n → g i = g' i) → sm_ g n = sm_ g' n := by
  intro n
  induction n with
  | zero => intro _; rfl
  | succ n ih =>
    intro h
    show sm_ g n + g n = sm_ g' n + g' n
    rw [ih (fun i hi => h i (by omega)), h n (by omega)]
theorem sm_add {g g' : Nat → Nat} : ∀ {n : Nat}, sm_ (fun i => g i + g' i) n = sm_ g n + sm_ g' n := by
  intro n
  induction n with
  | zero => rfl
  | succ n ih =>
    show sm_ (fun i => g i + g' i) n + (g n + g' n) = (sm_ g n + g n) + (sm_ g' n + g' n)
    rw [ih]; omega
theorem sm_le {g g' : Nat → Nat} : ∀ {n : Nat}, (∀ i, i < n → g i ≤ g' i) → sm_ g n ≤ sm_ g' n := by
  intro n
  induction n with
  | zero => intro _; exact Nat.le_refl _
  | succ n ih =>
    intro h
    have h1 := ih (fun i hi => h i (by omega))
    have h2 := h n (by omega)
    show sm_ g n + g n ≤ sm_ g' n + g' n
    omega
theorem sm_zero {g : Nat → Nat} : ∀ {n : Nat}, (∀ i, i < n → g i = 0) → sm_ g n = 0 := by
  intro n h
  induction n with
  | zero => rfl
  | succ n ih =>
    show sm_ g n + g n = 0
    rw [ih (fun i hi => h i (by omega)), h n (by omega)]
/-- what an actor's part is worth -/
def pw_ (n : Nat) (G : Nat → Nat → Nat) (a m : Nat) : Nat := sm_ (fun r => if m.testBit r = true then G r (a + 1) else 0) n
def cw_ (n : Nat) (G : Nat → Nat → Nat) (f : Nat → Nat) : Nat := sm_ (fun r => G r (f r)) n
def R_ (n nb : Nat) (bt : Nat → Nat) (may : Nat → Nat → Bool) (G : Nat → Nat → Nat) (a s v : Nat) : Prop := ∃ f, Val_ n nb bt may a f ∧ ms_ n f = s ∧ cw_ n G f = v
section CST
variable {n nb : Nat} {bt : Nat → Nat} {may : Nat → Nat → Bool} {G : Nat → Nat → Nat} {a s v : Nat} {f : Nat → Nat}
theorem prt_bit {b i : Nat} : (prt_ n f b).testBit i = (decide (i < n) && (f i == b + 1)) := msk_bit
theorem ms_bit {i : Nat} : (ms_ n f).testBit i = (decide (i < n) && (f i != 0)) := msk_bit
theorem leg_lt {b m : Nat} (hbt : ∀ i, i < nb → bt i < 2 ^ n) (h : leg_ n nb bt may b m) : m < 2 ^ n := by
  rcases h.1 with ⟨r, hr, rfl⟩ | ⟨i, hi, rfl⟩
  · exact Nat.pow_lt_pow_right (by omega) hr
  · exact hbt i hi
theorem bit_lt {m i : Nat} (hm : m < 2 ^ n) (hi : n ≤ i) : m.testBit i = false := Nat.testBit_lt_two_pow (Nat.lt_of_lt_of_le hm (Nat.pow_le_pow_right (by omega) hi))
theorem R_zero : R_ n nb bt may G 0 s v ↔ s = 0 ∧ v = cw_ n G (fun _ => 0) := by
  constructor
  · rintro ⟨f, hf, rfl, rfl⟩
    have h0 : f = fun _ => 0 := by funext r; have := hf.2.1 r; omega
    subst h0
    exact ⟨msk_f (fun i _ => rfl), rfl⟩
  · rintro ⟨rfl, rfl⟩
    exact ⟨fun _ => 0, ⟨fun _ _ => rfl, fun _ => Nat.le_refl _, fun b hb => by omega⟩, msk_f (fun i _ => rfl), rfl⟩
theorem R_step (hG : ∀ r, G r 0 = 0) (hbt : ∀ i, i < nb → bt i < 2 ^ n) : R_ n nb bt may G (a + 1) s v ↔ R_ n nb bt may G a s v ∨ ∃ m s' v', leg_ n nb bt may a m ∧ R_ n nb bt may G a s' v' ∧ s' &&& m = 0 ∧ s = s' ||| m ∧ v = v' + pw_ n G a m := by
  constructor
  · rintro ⟨f, ⟨v1, v2, v3⟩, rfl, rfl⟩
    have hnone : prt_ n f a = 0 → ∀ r, f r ≤ a := by
      intro h r
      by_cases hr : r < n
      · have h1 : (prt_ n f a).testBit r = false := by rw [h, Nat.zero_testBit]
        rw [prt_bit, decide_eq_true hr, Bool.true_and, beq_eq_false_iff_ne] at h1
        have := v2 r
        omega
      · rw [v1 r (by omega)]; omega
    by_cases h0 : prt_ n f a = 0
    · exact Or.inl ⟨f, ⟨v1, hnone h0, fun b hb => v3 b (by omega)⟩, rfl, rfl⟩
    · have hl : leg_ n nb bt may a (prt_ n f a) := (v3 a (by omega)).resolve_left h0
      refine Or.inr ⟨prt_ n f a, ms_ n (fun r => if f r = a + 1 then 0 else f r), cw_ n G (fun r => if f r = a + 1 then 0 else f r), hl, ⟨_, ⟨fun r hr => ?_, fun r => ?_, fun b hb => ?_⟩, rfl, rfl⟩, ?_, ?_, ?_⟩
      · rw [v1 r hr, if_neg (by omega)]
      · have := v2 r
        split <;> omega
      · have e : prt_ n (fun r => if f r = a + 1 then 0 else f r) b = prt_ n f b := msk_congr (fun r _ => by
          dsimp only
          by_cases q : f r = a + 1
          · rw [if_pos q, q]
            have h1 : ((0 : Nat) == b + 1) = false := rfl
            have h2 : (a + 1 == b + 1) = false := beq_eq_false_iff_ne.mpr (by omega)
            rw [h1, h2]
          · rw [if_neg q])
        rw [e]
        exact v3 b (by omega)
      · apply Nat.eq_of_testBit_eq
        intro i
        rw [Nat.testBit_and, ms_bit, prt_bit, Nat.zero_testBit]
        by_cases q : f i = a + 1
        · simp [q]
        · simp [q]
      · apply Nat.eq_of_testBit_eq
        intro i
        rw [Nat.testBit_or, ms_bit, ms_bit, prt_bit]
        by_cases q : f i = a + 1
        · simp [q]
        · simp [q]
      · unfold cw_ pw_
        rw [← sm_add]
        apply sm_congr
        intro r hr
        rw [prt_bit, decide_eq_true hr, Bool.true_and]
        by_cases q : f r = a + 1
        · simp [q, hG]
        · simp [q]
  · rintro (⟨f, ⟨v1, v2, v3⟩, h1, h2⟩ | ⟨m, s', v', hl, ⟨g, ⟨v1, v2, v3⟩, rfl, rfl⟩, hd, rfl, rfl⟩)
    · refine ⟨f, ⟨v1, fun r => Nat.le_succ_of_le (v2 r), fun b hb => ?_⟩, h1, h2⟩
      by_cases q : b = a
      · left
        rw [q]
        exact msk_f (fun r _ => beq_eq_false_iff_ne.mpr (by have := v2 r; omega))
      · exact v3 b (by omega)
    · have hm := leg_lt hbt hl
      have hdis : ∀ r, m.testBit r = true → g r = 0 := by
        intro r hr
        have hrn : r < n := by
          rcases Nat.lt_or_ge r n with h | h
          · exact h
          · rw [bit_lt hm h] at hr; cases hr
        have h1 : (ms_ n g &&& m).testBit r = false := by rw [hd, Nat.zero_testBit]
        rw [Nat.testBit_and, hr, Bool.and_true, ms_bit, decide_eq_true hrn, Bool.true_and, bne_eq_false_iff_eq] at h1
        exact h1
      refine ⟨fun r => if m.testBit r = true then a + 1 else g r, ⟨fun r hr => ?_, fun r => ?_, fun b hb => ?_⟩, ?_, ?_⟩
      · dsimp only
        rw [bit_lt hm hr, if_neg (by decide)]
        exact v1 r hr
      · dsimp only
        have := v2 r
        split <;> omega
      · by_cases q : b = a
        · right
          have e : prt_ n (fun r => if m.testBit r = true then a + 1 else g r) b = m := by
            apply Nat.eq_of_testBit_eq
            intro i
            rw [prt_bit, q]
            by_cases hi : i < n
            · rw [decide_eq_true hi, Bool.true_and]
              cases hb : m.testBit i
              · simp only [Bool.false_eq_true, if_false]
                exact beq_eq_false_iff_ne.mpr (by have := v2 i; omega)
              · simp
            · rw [decide_eq_false hi, Bool.false_and, bit_lt hm (by omega)]
          rw [e, q]
          exact hl
        · have e : prt_ n (fun r => if m.testBit r = true then a + 1 else g r) b = prt_ n g b := msk_congr (fun r _ => by
            dsimp only
            cases hb : m.testBit r
            · simp
            · rw [if_pos rfl, hdis r hb]
              have h1 : ((0 : Nat) == b + 1) = false := rfl
              have h2 : (a + 1 == b + 1) = false := beq_eq_false_iff_ne.mpr (by omega)
              rw [h1, h2])
          rw [e]
          exact v3 b (by omega)
      · apply Nat.eq_of_testBit_eq
        intro i
        rw [Nat.testBit_or, ms_bit, ms_bit]
        by_cases hi : i < n
        · cases hb : m.testBit i
          · simp [hb]
          · simp [hb, hi]
        · rw [decide_eq_false hi, bit_lt hm (by omega)]; simp
      · unfold cw_ pw_
        rw [← sm_add]
        apply sm_congr
        intro r hr
        cases hb : m.testBit r
        · simp [hb]
        · simp [hb, hdis r hb, hG]
end CST
/-! the greatest of a set of numbers -/
def Mx_ (o : Option Nat) (S : Nat → Prop) : Prop := match o with
  | none => ∀ v, ¬ S v
  | some w => S w ∧ ∀ v, S v → v ≤ w
def Mn_ (x : Nat) (S : Nat → Prop) : Prop := (100 ≤ x ∧ ∀ v, ¬ S v) ∨ (x < 100 ∧ S x ∧ ∀ v, S v → x ≤ v)
theorem Mx_.iff {o : Option Nat} {S T : Nat → Prop} (h : ∀ v, S v ↔ T v) (k : Mx_ o S) : Mx_ o T := by
  cases o with
  | none => exact fun v hv => k v ((h v).mpr hv)
  | some w => exact ⟨(h w).mp k.1, fun v hv => k.2 v ((h v).mpr hv)⟩
theorem Mx_.uniq {o p : Option Nat} {S : Nat → Prop} (h : Mx_ o S) (k : Mx_ p S) : o = p := by
  cases o with
  | none => cases p with
    | none => rfl
    | some w => exact absurd k.1 (h w)
  | some w => cases p with
    | none => exact absurd h.1 (k w)
    | some u => have h1 := h.2 u k.1; have h2 := k.2 w h.1; rw [Nat.le_antisymm h1 h2]
/-- a submask's next lesser one -/
theorem sub_next : ∀ (s w x : Nat), s &&& w = s → x &&& w = x → x < s → x ≤ (s - 1) &&& w := by
  intro s
  induction s using Nat.strongRecOn with
  | ind s ih =>
    intro w x hs hx hlt
    have hs2 : (s / 2) &&& (w / 2) = s / 2 := by rw [← Nat.and_div_two, hs]
    have hx2 : (x / 2) &&& (w / 2) = x / 2 := by rw [← Nat.and_div_two, hx]
    have hsm : (s % 2) &&& (w % 2) = s % 2 := by
      have := Nat.and_mod_two_pow (a := s) (b := w) (n := 1)
      rw [hs, Nat.pow_one] at this
      exact this.symm
    have hxm : (x % 2) &&& (w % 2) = x % 2 := by
      have := Nat.and_mod_two_pow (a := x) (b := w) (n := 1)
      rw [hx, Nat.pow_one] at this
      exact this.symm
    have hd : ((s - 1) &&& w) / 2 = (s - 1) / 2 &&& w / 2 := Nat.and_div_two
    have hm : ((s - 1) &&& w) % 2 = (s - 1) % 2 &&& w % 2 := by
      have := Nat.and_mod_two_pow (a := s - 1) (b := w) (n := 1)
      rw [Nat.pow_one] at this
      exact this
    rcases Nat.mod_two_eq_zero_or_one s with h | h
    · -- even
      have e1 : (s - 1) / 2 = s / 2 - 1 := by omega
      have e2 : (s - 1) % 2 = 1 := by omega
      have hw : (1 : Nat) &&& (w % 2) = w % 2 := by rcases Nat.mod_two_eq_zero_or_one w with q | q <;> rw [q] <;> rfl
      have hxw : x % 2 ≤ w % 2 := by
        rcases Nat.mod_two_eq_zero_or_one w with q | q
        · rw [q] at hxm ⊢; rw [Nat.and_zero] at hxm; omega
        · rw [q]; have := Nat.mod_lt x (show 0 < 2 by omega); omega
      have := ih (s / 2) (by omega) (w / 2) (x / 2) hs2 hx2 (by omega)
      rw [e1] at hd
      rw [e2, hw] at hm
      omega
    · have e1 : (s - 1) / 2 = s / 2 := by omega
      rw [e1, hs2] at hd
      have := Nat.div_add_mod ((s - 1) &&& w) 2
      omega
