/-! the week: the least order of a list of plays -/
def amL_ (g : Nat → Nat) (l : List Nat) : Nat × Nat := l.foldl (fun r x => if g x < r.2 then (x, g x) else r) (0, 1000000)
def gdy_ (w : Nat → Nat → Nat) : Nat → (Nat → Nat) → List Nat → Nat × List Nat
  | 0, _, _ => (0, [])
  | k + 1, c, L => ((amL_ (fun x => c x + (gdy_ w k (w x) (L.erase x)).1) L).2, (amL_ (fun x => c x + (gdy_ w k (w x) (L.erase x)).1) L).1 :: (gdy_ w k (w (amL_ (fun x => c x + (gdy_ w k (w x) (L.erase x)).1) L).1) (L.erase (amL_ (fun x => c x + (gdy_ w k (w x) (L.erase x)).1) L).1)).2)
section PLN
theorem amL_snoc {g : Nat → Nat} {l : List Nat} {x : Nat} : amL_ g (l ++ [x]) = if g x < (amL_ g l).2 then (x, g x) else amL_ g l := by
  unfold amL_
  rw [List.foldl_append]
  rfl
theorem mem_s {s n : Nat} : mem_ s (n + 1) = if s.testBit n = true then mem_ s n ++ [n] else mem_ s n := rfl
theorem am_amL {s : Nat} {g : Nat → Nat} : ∀ {n : Nat}, am_ s.testBit g n = amL_ g (mem_ s n) := by
  intro n
  induction n with
  | zero => rfl
  | succ n ih =>
    show (if s.testBit n = true ∧ g n < (am_ s.testBit g n).2 then (n, g n) else am_ s.testBit g n) = _
    rw [mem_s]
    by_cases q : s.testBit n = true
    · rw [if_pos q, amL_snoc, ih]
      by_cases q2 : g n < (amL_ g (mem_ s n)).2
      · rw [if_pos ⟨q, q2⟩, if_pos q2]
      · rw [if_neg (fun z => q2 z.2), if_neg q2]
    · rw [if_neg q, if_neg (fun z => q z.1), ih]
theorem mnl_am {s : Nat → Bool} {g : Nat → Nat} : ∀ {n : Nat}, mnl_ s g n = (am_ s g n).2 := by
  intro n
  induction n with
  | zero => rfl
  | succ n ih =>
    show (if s n = true then min (mnl_ s g n) (g n) else mnl_ s g n) = (if s n = true ∧ g n < (am_ s g n).2 then (n, g n) else am_ s g n).2
    rw [ih]
    by_cases q : s n = true
    · by_cases q2 : g n < (am_ s g n).2
      · rw [if_pos q, if_pos ⟨q, q2⟩]; dsimp only; omega
      · rw [if_pos q, if_neg (fun z => q2 z.2)]; omega
    · rw [if_neg q, if_neg (fun z => q z.1)]
theorem amL_congr {g g' : Nat → Nat} {l : List Nat} (h : ∀ x, x ∈ l → g x = g' x) : amL_ g l = amL_ g' l := by
  unfold amL_
  generalize (0, 1000000) = r
  induction l generalizing r with
  | nil => rfl
  | cons a l ih =>
    rw [List.foldl_cons, List.foldl_cons, h a List.mem_cons_self]
    exact ih (fun x hx => h x (List.mem_cons_of_mem _ hx)) _
/-- the least is below every value, and is 1000000 or reached -/
theorem amL_sp {g : Nat → Nat} {l : List Nat} : (∀ x, x ∈ l → (amL_ g l).2 ≤ g x) ∧ (amL_ g l).2 ≤ 1000000 ∧ ((amL_ g l).2 < 1000000 → (amL_ g l).1 ∈ l ∧ g (amL_ g l).1 = (amL_ g l).2) := by
  suffices H : ∀ (r : Nat × Nat), (∀ x, x ∈ l → (l.foldl (fun r x => if g x < r.2 then (x, g x) else r) r).2 ≤ g x) ∧ (l.foldl (fun r x => if g x < r.2 then (x, g x) else r) r).2 ≤ r.2 ∧ ((l.foldl (fun r x => if g x < r.2 then (x, g x) else r) r).2 < r.2 → (l.foldl (fun r x => if g x < r.2 then (x, g x) else r) r).1 ∈ l ∧ g (l.foldl (fun r x => if g x < r.2 then (x, g x) else r) r).1 = (l.foldl (fun r x => if g x < r.2 then (x, g x) else r) r).2) ∧ ((l.foldl (fun r x => if g x < r.2 then (x, g x) else r) r).2 = r.2 → (l.foldl (fun r x => if g x < r.2 then (x, g x) else r) r) = r) from
    ⟨(H _).1, (H _).2.1, (H _).2.2.1⟩
  induction l with
  | nil => intro r; exact ⟨fun x hx => absurd hx List.not_mem_nil, Nat.le_refl _, fun z => absurd z (Nat.lt_irrefl _), fun _ => rfl⟩
  | cons a l ih =>
    intro r
    rw [List.foldl_cons]
    by_cases q : g a < r.2
    · rw [if_pos q]
      obtain ⟨i1, i2, i3, i4⟩ := ih (a, g a)
      generalize l.foldl (fun r x => if g x < r.2 then (x, g x) else r) (a, g a) = y at i1 i2 i3 i4 ⊢
      dsimp only at i2 i3 i4
      refine ⟨fun x hx => ?_, by omega, fun _ => ?_, fun z => by omega⟩
      · rcases List.mem_cons.mp hx with z | z
        · rw [z]; exact i2
        · exact i1 x z
      · by_cases q2 : y.2 = g a
        · have := i4 q2
          rw [this]
          exact ⟨List.mem_cons_self, rfl⟩
        · obtain ⟨u, v⟩ := i3 (by omega)
          exact ⟨List.mem_cons_of_mem _ u, v⟩
    · rw [if_neg q]
      obtain ⟨i1, i2, i3, i4⟩ := ih r
      refine ⟨fun x hx => ?_, i2, fun z => ?_, i4⟩
      · rcases List.mem_cons.mp hx with z | z
        · rw [z]; omega
        · exact i1 x z
      · obtain ⟨u, v⟩ := i3 z
        exact ⟨List.mem_cons_of_mem _ u, v⟩
theorem amL_map {g : Nat → Nat} {f : Nat → Nat} {l : List Nat} : (amL_ g (l.map f)).2 = (amL_ (fun x => g (f x)) l).2 ∧ ((amL_ (fun x => g (f x)) l).2 < 1000000 → (amL_ g (l.map f)).1 = f (amL_ (fun x => g (f x)) l).1) := by
  suffices H : ∀ (r r' : Nat × Nat), r.2 = r'.2 → (r'.2 < 1000000 → r.1 = f r'.1) → ((l.map f).foldl (fun r x => if g x < r.2 then (x, g x) else r) r).2 = (l.foldl (fun r x => if g (f x) < r.2 then (x, g (f x)) else r) r').2 ∧ ((l.foldl (fun r x => if g (f x) < r.2 then (x, g (f x)) else r) r').2 < 1000000 → ((l.map f).foldl (fun r x => if g x < r.2 then (x, g x) else r) r).1 = f (l.foldl (fun r x => if g (f x) < r.2 then (x, g (f x)) else r) r').1) from
    H _ _ rfl (fun z => absurd z (Nat.lt_irrefl _))
  induction l with
  | nil => intro r r' h1 h2; exact ⟨h1, h2⟩
  | cons a l ih =>
    intro r r' h1 h2
    rw [List.map_cons, List.foldl_cons, List.foldl_cons]
    refine ih _ _ ?_ ?_
    · rw [h1]; split
      · rfl
      · exact h1
    · rw [h1]; split
      · intro _; rfl
      · exact h2
theorem mem_mem {s x : Nat} : ∀ {n : Nat}, x ∈ mem_ s n ↔ x < n ∧ s.testBit x = true := by
  intro n
  induction n with
  | zero => exact ⟨fun z => absurd z List.not_mem_nil, fun z => absurd z.1 (Nat.not_lt_zero _)⟩
  | succ n ih =>
    rw [mem_s]
    by_cases q : s.testBit n = true
    · rw [if_pos q, List.mem_append, ih, List.mem_singleton]
      constructor
      · rintro (z | z)
        · exact ⟨by omega, z.2⟩
        · rw [z]; exact ⟨by omega, q⟩
      · intro z
        by_cases e : x = n
        · exact Or.inr e
        · exact Or.inl ⟨by omega, z.2⟩
    · rw [if_neg q, ih]
      constructor
      · exact fun z => ⟨by omega, z.2⟩
      · intro z
        refine ⟨?_, z.2⟩
        have : x ≠ n := fun e => q (by rw [← e]; exact z.2)
        omega
theorem tb_xor {s p x : Nat} : (s ^^^ 2 ^ p).testBit x = (s.testBit x ^^ decide (p = x)) := by rw [Nat.testBit_xor, Nat.testBit_two_pow]
theorem mem_xor {s p : Nat} (hp : s.testBit p = true) : ∀ {n : Nat}, mem_ (s ^^^ 2 ^ p) n = (mem_ s n).erase p := by
  intro n
  induction n with
  | zero => rfl
  | succ n ih =>
    rw [mem_s, mem_s, tb_xor]
    by_cases e : p = n
    · subst e
      rw [hp, decide_eq_true rfl]
      have hn : p ∉ mem_ s p := fun z => absurd (mem_mem.mp z).1 (Nat.lt_irrefl _)
      rw [if_neg (by decide), if_pos rfl, ih, List.erase_append_right _ hn, List.erase_of_not_mem hn]
      rw [List.erase_cons_head, List.append_nil]
    · rw [decide_eq_false e, Bool.xor_false]
      by_cases q : s.testBit n = true
      · rw [if_pos q, if_pos q, ih, List.erase_append]
        split
        · rfl
        · rename_i hm
          rw [List.erase_of_not_mem hm, List.erase_of_not_mem (fun z => e (List.mem_singleton.mp z))]
      · rw [if_neg q, if_neg q, ih]
theorem map_erase {f : Nat → Nat} {n i : Nat} (hf : ∀ x y, x < n → y < n → f x = f y → x = y) (hi : i < n) : ∀ {l : List Nat}, (∀ x, x ∈ l → x < n) → (l.erase i).map f = (l.map f).erase (f i) := by
  intro l
  induction l with
  | nil => intro _; rfl
  | cons a l ih =>
    intro h
    have ha := h a List.mem_cons_self
    by_cases q : a = i
    · rw [q, List.erase_cons_head, List.map_cons, List.erase_cons_head]
    · rw [List.map_cons, List.erase_cons_tail (by simpa using q), List.erase_cons_tail (by simpa using fun z => q (hf a i ha hi z)), List.map_cons, ih (fun x hx => h x (List.mem_cons_of_mem _ hx))]
theorem mem_zero {s : Nat} : ∀ {n : Nat}, s < 2 ^ n → (mem_ s n = [] ↔ s = 0) := by
  intro n hs
  constructor
  · intro h
    apply Nat.eq_of_testBit_eq
    intro i
    rw [Nat.zero_testBit]
    cases hb : s.testBit i
    · rfl
    · exfalso
      have hi : i < n := by
        rcases Nat.lt_or_ge i n with z | z
        · exact z
        · rw [Nat.testBit_lt_two_pow (Nat.lt_of_lt_of_le hs (Nat.pow_le_pow_right (by omega) z))] at hb; cases hb
      have : i ∈ mem_ s n := mem_mem.mpr ⟨hi, hb⟩
      rw [h] at this
      exact absurd this List.not_mem_nil
  · intro h
    cases hm : mem_ s n with
    | nil => rfl
    | cons a l =>
      have : a ∈ mem_ s n := by rw [hm]; exact List.mem_cons_self
      have := (mem_mem.mp this).2
      rw [h, Nat.zero_testBit] at this
      cases this
/-- the least work is small -/
theorem gdy_le {w : Nat → Nat → Nat} {N : Nat} (hw : ∀ a b, a < N → b < N → w a b ≤ 102) : ∀ {k : Nat} {c : Nat → Nat} {L : List Nat}, L.length = k → (∀ x, x ∈ L → x < N) → (∀ x, x ∈ L → c x ≤ 102) → k ≤ 12 → (gdy_ w k c L).1 ≤ k * 102 := by
  intro k
  induction k with
  | zero => intro c L _ _ _ _; exact Nat.le_refl _
  | succ k ih =>
    intro c L hL hN hc hk
    show (amL_ (fun x => c x + (gdy_ w k (w x) (L.erase x)).1) L).2 ≤ _
    cases hLc : L with
    | nil => rw [hLc] at hL; cases hL
    | cons a l =>
      have ha : a ∈ L := by rw [hLc]; exact List.mem_cons_self
      rw [← hLc]
      refine Nat.le_trans (amL_sp.1 a ha) ?_
      have h1 := hc a ha
      have h2 := ih (c := w a) (L := L.erase a) (by rw [List.length_erase_of_mem ha, hL]; rfl) (fun x hx => hN x (List.mem_of_mem_erase hx)) (fun x hx => by have := hw a x (hN a ha) (hN x (List.mem_of_mem_erase hx)); omega) (by omega)
      omega
end PLN
