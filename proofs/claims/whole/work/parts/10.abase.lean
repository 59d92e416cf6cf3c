/-! numbers -/
theorem w_lt {a b : Nat} (ha : a < 2147483648) (hb : b < 2147483648) : (Int32.ofNat a < Int32.ofNat b) ↔ a < b := Int32.ofNat_lt_iff_lt ha hb
theorem w_le {a b : Nat} (ha : a < 2147483648) (hb : b < 2147483648) : (Int32.ofNat a ≤ Int32.ofNat b) ↔ a ≤ b := Int32.ofNat_le_iff_le ha hb
theorem w_eq {a b : Nat} (ha : a < 2147483648) (hb : b < 2147483648) : (Int32.ofNat a = Int32.ofNat b) ↔ a = b := by
  constructor
  · intro h
    have h1 := congrArg Int32.toInt h
    rw [Int32.toInt_ofNat_of_lt ha, Int32.toInt_ofNat_of_lt hb] at h1
    omega
  · intro h; rw [h]
theorem w_cl {a : Nat} (ha : a < 2147483648) : (Int32.ofNat a).toNatClampNeg = a := Int32.toNatClampNeg_ofNat_of_lt ha
theorem w_ti {a : Nat} (ha : a < 2147483648) : (Int32.ofNat a).toInt = (a : Int) := Int32.toInt_ofNat_of_lt ha
theorem w_s1 {a : Nat} : Int32.ofNat a + 1 = Int32.ofNat (a + 1) := by rw [Int32.ofNat_add]; rfl
theorem w_ix {a n : Nat} (ha : a < n) (hn : n ≤ 4096) : ix_ (Int32.ofNat a) n := by
  unfold ix_
  rw [w_ti (by omega)]
  omega
/-! loops -/
def it_ {α : Type} (f : Nat → α → α) : Nat → Nat → α → α
  | 0, _, x => x
  | k + 1, i, x => it_ f k (i + 1) (f i x)
theorem it_sn {α : Type} (f : Nat → α → α) : ∀ (k i : Nat) (x : α), it_ f (k + 1) i x = f (i + k) (it_ f k i x) := by
  intro k
  induction k with
  | zero => intro i x; rfl
  | succ k ih =>
    intro i x
    show it_ f (k + 1) (i + 1) (f i x) = _
    rw [ih]
    show _ = f (i + (k + 1)) (it_ f k (i + 1) (f i x))
    rw [show i + 1 + k = i + (k + 1) by omega]
theorem loop_ {α : Type} {P : Nat → α → Prop} {f : Nat → α → α} {n : Nat} (I : Nat → α → Prop) (hs : ∀ i x, i < n → I i x → (P i x ↔ P (i + 1) (f i x)) ∧ I (i + 1) (f i x)) : ∀ (k i : Nat) (x : α), i + k = n → I i x → (P i x ↔ P n (it_ f k i x)) ∧ I n (it_ f k i x) := by
  intro k
  induction k with
  | zero =>
    intro i x hk hi
    have : i = n := by omega
    subst this
    exact ⟨Iff.rfl, hi⟩
  | succ k ih =>
    intro i x hk hi
    obtain ⟨h1, h2⟩ := hs i x (by omega) hi
    obtain ⟨h3, h4⟩ := ih (i + 1) (f i x) (by omega) h2
    exact ⟨h1.trans h3, h4⟩
