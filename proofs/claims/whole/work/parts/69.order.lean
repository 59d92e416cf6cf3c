/-! the week: the class's table and order -/
def wf_ (P : PS) (x : Nat) : Nat := nf_ P x 3
def mp_ (l : List Nat) (left : Nat) : List Nat := (mem_ left l.length).map (fun i => l.getD i 0)
def bhd_ (P : PS) (l : List Nat) (left first : Nat) : Nat := (gdy_ (wk_ P) ((mem_ left l.length).length - 1) (wk_ P (l.getD first 0)) ((mp_ l left).erase (l.getD first 0))).1
theorem gd_e {l : List Nat} {i : Nat} (h : i < l.length) : l.getD i 0 = l[i] := by
  rw [List.getD_eq_getElem?_getD, List.getElem?_eq_getElem h]
  rfl
section PL2
variable {P : PS} {l : List Nat} {left first : Nat}
theorem mem_inc {s : Nat} : ∀ {n i j : Nat}, i < j → j < (mem_ s n).length → (mem_ s n).getD i 0 < (mem_ s n).getD j 0 := by
  intro n
  induction n with
  | zero => intro i j _ hj; exact absurd hj (Nat.not_lt_zero _)
  | succ n ih =>
    intro i j hi hj
    rw [mem_s] at hj ⊢
    by_cases q : s.testBit n = true
    · rw [if_pos q] at hj ⊢
      rw [List.length_append] at hj
      have hj' : j < (mem_ s n).length + 1 := hj
      rw [gd_l (by omega)]
      by_cases e : j = (mem_ s n).length
      · rw [e, gd_r]
        have hm : (mem_ s n).getD i 0 ∈ mem_ s n := by
          rw [gd_e (by omega)]
          exact List.getElem_mem _
        exact (mem_mem.mp hm).1
      · rw [gd_l (by omega)]; exact ih hi (by omega)
    · rw [if_neg q] at hj ⊢; exact ih hi hj
theorem mem_inj {s n : Nat} : ∀ x y, x < (mem_ s n).length → y < (mem_ s n).length → (mem_ s n).getD x 0 = (mem_ s n).getD y 0 → x = y := by
  intro x y hx hy e
  rcases Nat.lt_trichotomy x y with z | z | z
  · have := mem_inc z hy; omega
  · exact z
  · have := mem_inc z hx; omega
theorem mem_all {m : Nat} : ∀ {n : Nat}, n ≤ m → mem_ (2 ^ m - 1) n = List.range n := by
  intro n
  induction n with
  | zero => intro _; rfl
  | succ n ih =>
    intro h
    rw [mem_s, Nat.testBit_two_pow_sub_one, decide_eq_true (by omega), if_pos rfl, ih (by omega), List.range_succ]
theorem mp_all : mp_ l (2 ^ l.length - 1) = l := by
  unfold mp_
  rw [mem_all (Nat.le_refl _)]
  apply List.ext_getElem
  · rw [List.length_map, List.length_range]
  · intro i h1 h2
    rw [List.getElem_map, List.getElem_range, gd_e h2]
theorem mp_len : (mp_ l left).length = (mem_ left l.length).length := List.length_map _
theorem mp_er (hinj : ∀ x y, x < l.length → y < l.length → l.getD x 0 = l.getD y 0 → x = y) (hf : first < l.length) (hb : left.testBit first = true) : mp_ l (left ^^^ 2 ^ first) = (mp_ l left).erase (l.getD first 0) := by
  unfold mp_
  rw [mem_xor hb]
  exact map_erase (f := fun i => l.getD i 0) hinj hf (fun x hx => (mem_mem.mp hx).1)
theorem xor_lt {n : Nat} (hl : left < 2 ^ n) (hf : first < n) : left ^^^ 2 ^ first < 2 ^ n := Nat.xor_lt_two_pow hl (Nat.pow_lt_pow_right (by omega) hf)
theorem mem_xl (hf : first < l.length) (hb : left.testBit first = true) : (mem_ (left ^^^ 2 ^ first) l.length).length = (mem_ left l.length).length - 1 := by
  rw [mem_xor hb, List.length_erase_of_mem (mem_mem.mpr ⟨hf, hb⟩)]
theorem mem_le {s : Nat} : ∀ {n : Nat}, (mem_ s n).length ≤ n := by
  intro n
  induction n with
  | zero => exact Nat.le_refl _
  | succ n ih =>
    rw [mem_s]
    split
    · rw [List.length_append]; show _ + 1 ≤ _; omega
    · omega
theorem mp_in (hq : ∀ j, j < l.length → l.getD j 0 < qn_ P) {x : Nat} (hx : x ∈ mp_ l left) : x < qn_ P := by
  obtain ⟨i, hi, e⟩ := List.mem_map.mp hx
  rw [← e]
  exact hq i (mem_mem.mp hi).1
theorem bhd_le (hB : PB_ P) (hl : l.length ≤ 8) (hq : ∀ j, j < l.length → l.getD j 0 < qn_ P) (hf : first < l.length) (hb : left.testBit first = true) : bhd_ P l left first ≤ 816 := by
  have hm : l.getD first 0 ∈ mp_ l left := List.mem_map.mpr ⟨first, mem_mem.mpr ⟨hf, hb⟩, rfl⟩
  have hle := mem_le (s := left) (n := l.length)
  have := gdy_le (w := wk_ P) (N := qn_ P) (fun a b ha hb => wk_le hB ha hb) (k := (mem_ left l.length).length - 1) (c := wk_ P (l.getD first 0)) (L := (mp_ l left).erase (l.getD first 0)) (by rw [List.length_erase_of_mem hm, mp_len]) (fun x hx => mp_in hq (List.mem_of_mem_erase hx)) (fun x hx => wk_le hB (hq _ hf) (mp_in hq (List.mem_of_mem_erase hx))) (by omega)
  unfold bhd_
  omega
/-- one choice -/
theorem gdy_pick {c : Nat → Nat} {k : Nat} (hB : PB_ P) (hl : l.length ≤ 8) (hq : ∀ j, j < l.length → l.getD j 0 < qn_ P) (hinj : ∀ x y, x < l.length → y < l.length → l.getD x 0 = l.getD y 0 → x = y) (hc : ∀ x, x < l.length → c (l.getD x 0) ≤ 102) (hk : (mem_ left l.length).length = k + 1) :
    (gdy_ (wk_ P) (k + 1) c (mp_ l left)).1 = (am_ left.testBit (fun x => c (l.getD x 0) + bhd_ P l left x) l.length).2 ∧ (am_ left.testBit (fun x => c (l.getD x 0) + bhd_ P l left x) l.length).2 ≤ 918 ∧ (am_ left.testBit (fun x => c (l.getD x 0) + bhd_ P l left x) l.length).1 < l.length ∧ left.testBit (am_ left.testBit (fun x => c (l.getD x 0) + bhd_ P l left x) l.length).1 = true ∧
    (gdy_ (wk_ P) (k + 1) c (mp_ l left)).2 = l.getD (am_ left.testBit (fun x => c (l.getD x 0) + bhd_ P l left x) l.length).1 0 :: (gdy_ (wk_ P) k (wk_ P (l.getD (am_ left.testBit (fun x => c (l.getD x 0) + bhd_ P l left x) l.length).1 0)) (mp_ l (left ^^^ 2 ^ (am_ left.testBit (fun x => c (l.getD x 0) + bhd_ P l left x) l.length).1))).2 := by
  rw [am_amL]
  have hm := amL_map (g := fun y => c y + (gdy_ (wk_ P) k (wk_ P y) ((mp_ l left).erase y)).1) (f := fun i => l.getD i 0) (l := mem_ left l.length)
  have hbb : ∀ x, bhd_ P l left x = (gdy_ (wk_ P) k (wk_ P (l.getD x 0)) ((mp_ l left).erase (l.getD x 0))).1 := by
    intro x; unfold bhd_; rw [hk]; rfl
  have hsame : amL_ (fun x => c (l.getD x 0) + bhd_ P l left x) (mem_ left l.length) = amL_ (fun x => c (l.getD x 0) + (gdy_ (wk_ P) k (wk_ P (l.getD x 0)) ((mp_ l left).erase (l.getD x 0))).1) (mem_ left l.length) := amL_congr (fun x _ => by rw [hbb])
  have hne : ∃ a, a ∈ mem_ left l.length := by
    cases hh : mem_ left l.length with
    | nil => rw [hh] at hk; cases hk
    | cons a t => exact ⟨a, List.mem_cons_self⟩
  obtain ⟨a, ha⟩ := hne
  obtain ⟨ha1, ha2⟩ := mem_mem.mp ha
  have hsp := amL_sp (g := fun x => c (l.getD x 0) + bhd_ P l left x) (l := mem_ left l.length)
  have hle : (amL_ (fun x => c (l.getD x 0) + bhd_ P l left x) (mem_ left l.length)).2 ≤ 918 := by
    refine Nat.le_trans (hsp.1 a ha) ?_
    have h1 := hc a ha1
    have h2 := bhd_le hB hl hq ha1 ha2
    omega
  obtain ⟨hin, -⟩ := hsp.2.2 (by omega)
  obtain ⟨hi1, hi2⟩ := mem_mem.mp hin
  have e1 : (gdy_ (wk_ P) (k + 1) c (mp_ l left)).1 = (amL_ (fun y => c y + (gdy_ (wk_ P) k (wk_ P y) ((mp_ l left).erase y)).1) (mp_ l left)).2 := rfl
  have e2 : (gdy_ (wk_ P) (k + 1) c (mp_ l left)).2 = (amL_ (fun y => c y + (gdy_ (wk_ P) k (wk_ P y) ((mp_ l left).erase y)).1) (mp_ l left)).1 :: (gdy_ (wk_ P) k (wk_ P (amL_ (fun y => c y + (gdy_ (wk_ P) k (wk_ P y) ((mp_ l left).erase y)).1) (mp_ l left)).1) ((mp_ l left).erase (amL_ (fun y => c y + (gdy_ (wk_ P) k (wk_ P y) ((mp_ l left).erase y)).1) (mp_ l left)).1)).2 := rfl
  have e3 : (amL_ (fun y => c y + (gdy_ (wk_ P) k (wk_ P y) ((mp_ l left).erase y)).1) (mp_ l left)).2 = (amL_ (fun x => c (l.getD x 0) + bhd_ P l left x) (mem_ left l.length)).2 := by rw [hsame]; exact hm.1
  have e4 : (amL_ (fun y => c y + (gdy_ (wk_ P) k (wk_ P y) ((mp_ l left).erase y)).1) (mp_ l left)).1 = l.getD (amL_ (fun x => c (l.getD x 0) + bhd_ P l left x) (mem_ left l.length)).1 0 := by rw [hsame]; exact hm.2 (by rw [← hsame]; omega)
  refine ⟨by rw [e1, e3], hle, hi1, hi2, ?_⟩
  rw [e2, e4, mp_er hinj hi1 hi2]
/-- the table's rows -/
theorem bhd_eq (hB : PB_ P) (hl : l.length ≤ 8) (hq : ∀ j, j < l.length → l.getD j 0 < qn_ P) (hinj : ∀ x y, x < l.length → y < l.length → l.getD x 0 = l.getD y 0 → x = y) (hlt : left < 2 ^ l.length) (hf : first < l.length) (hb : left.testBit first = true) : (if left ^^^ 2 ^ first = 0 then 0 else mnl_ (left ^^^ 2 ^ first).testBit (fun x => wl_ P l first x + bhd_ P l (left ^^^ 2 ^ first) x) l.length) = bhd_ P l left first := by
  have hx := xor_lt hlt hf
  have hlen := mem_xl (l := l) hf hb
  have e : bhd_ P l left first = (gdy_ (wk_ P) (mem_ (left ^^^ 2 ^ first) l.length).length (wk_ P (l.getD first 0)) (mp_ l (left ^^^ 2 ^ first))).1 := by
    unfold bhd_
    rw [hlen, mp_er hinj hf hb]
  by_cases q : left ^^^ 2 ^ first = 0
  · rw [if_pos q, e, (mem_zero hx).mpr q]
    rfl
  · rw [if_neg q, e, mnl_am]
    cases hk : (mem_ (left ^^^ 2 ^ first) l.length).length with
    | zero => exact absurd ((mem_zero hx).mp (List.eq_nil_of_length_eq_zero hk)) q
    | succ k => exact (gdy_pick (c := wk_ P (l.getD first 0)) hB hl hq hinj (fun x hx => wk_le hB (hq _ hf) (hq _ hx)) hk).1.symm
end PL2
