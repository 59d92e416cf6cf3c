/-! .. the constants' cells, the classes, at the entry -/
def ev_ (args : Array Value) (s : State) (t : Term) : Nat := match t.eval args s none [] s with
  | some (.ref a) => a
  | _ => 0
def cT_ (k : Nat) : Term := if k = 0 then .arg 0 else if k < 23 then tkT_ (k - 1) else if k = 23 then kaT_ else if k < 60 then stT_ (k - 24) else byT_ (k - 60)
def adS_ (args : Array Value) (s : State) : Nat → Nat := fun id => ev_ args s (cT_ (sr_ id))
theorem fq1_ : (List.range 22).all (fun i => match cR_ (tok_ i) 1 with | some b => sr_ b == 24 + i | none => false) = true := by decide +kernel
theorem fq2_ : strs_.all (fun b => decide (24 ≤ sr_ b) && (decide (sr_ b < 60) && match cR_ b 0 with | some c => sr_ c == sr_ b + 36 | none => false)) = true := by decide +kernel
theorem fq3_ : byts_.all (fun b => decide (60 ≤ sr_ b) && (decide (sr_ b < 96) && (decide (ln_ b = (txt_.getD (sr_ b - 60) []).length) && decide (b % 64 = 34)))) = true := by decide +kernel
theorem fq4_ : (List.range 36).all (fun i => decide ((txt_.getD i []).length < 100)) = true := by decide +kernel
def eq4_ (q : String × String × String × AV) (a b c : String) (v : AV) : Bool := decide (q.1 = a) && (decide (q.2.1 = b) && (decide (q.2.2.1 = c) && decide (q.2.2.2 = v)))
theorem eq4_eq {q : String × String × String × AV} {a b c : String} {v : AV} (h : eq4_ q a b c v = true) : q = (a, b, c, v) := by
  unfold eq4_ at h
  simp only [Bool.and_eq_true, decide_eq_true_iff] at h
  obtain ⟨q1, q2, q3, q4⟩ := q
  obtain ⟨rfl, rfl, rfl, rfl⟩ := h
  rfl
theorem fq5_ : stb_.all (fun q => ((List.range 22).any (fun i => eq4_ q RX6 (tkn_.getD i "") "LPlayCompany$Token;" (vA (some (tok_ i))))) || (eq4_ q "PlayCompany$TermReader" "TOKENS" "[LPlayCompany$Token;" (vA (some tka_)) || (eq4_ q "java/lang/String" "COMPACT_STRINGS" "Z" (vI 1) || eq4_ q "jdk/internal/util/Preconditions" "SIOOBE_FORMATTER" "Ljava/util/function/BiFunction;" (vX 1)))) = true := by decide +kernel
theorem cR_tka (j : Nat) : cR_ tka_ j = some (tok_ j) := by
  unfold cR_
  rw [if_neg (by decide), if_neg (by decide), if_pos (by decide)]
  rfl
section SRT
variable {args : Array Value} {s : State} {A : Nat → Prop}
theorem ev_eq {t : Term} {a : Nat} (h : t.eval args s none [] s = some (.ref a)) : ev_ args s t = a := by unfold ev_; rw [h]
theorem zfx_ {k : Nat} {w : Cond} (hs : ∀ w ∈ zfl_, w.before args s = true) (h : zfl_[k]? = some w) : w.before args s = true := hs w (List.mem_of_getElem? h)
theorem tx_ {k : Nat} {w : Cond} (ht : ∀ w ∈ lw_tbl, w.before args s = true) (h : lw_tbl[k]? = some w) : w.before args s = true := ht w (List.mem_of_getElem? h)
theorem eq_ref {t u : Term} {b : Nat} (h : (Cond.eq t u).before args s = true) (hu : u.eval args s none [] s = some (.ref b)) : t.eval args s none [] s = some (.ref b) := by
  cases hv : t.eval args s none [] s with
  | none => simp [Cond.before, Cond.holds, Cond.value, hv] at h
  | some w =>
    simp only [Cond.before, Cond.holds, Cond.value, hv, hu] at h
    cases w <;> simp_all
theorem isRef_ev {t : Term} (h : (Cond.isRef t).before args s = true) : ∃ v, t.eval args s none [] s = some v ∧ v.category = 1 := by
  cases hv : t.eval args s none [] s with
  | none => simp [Cond.before, Cond.holds, Cond.value, hv] at h
  | some w =>
    simp only [Cond.before, Cond.holds, Cond.value, hv] at h
    cases w <;> first | exact ⟨_, rfl, rfl⟩ | (simp at h; done)
theorem of_OF {t : Term} {o n d : String} {v : Value} {a : Nat} (hA : ∀ a : Nat, a < s.heap.size → ¬ A a) (ht : t.eval args s none [] s = some (.ref a)) (hv : (Term.field t o n d).eval args s none [] s = some v) : va_OF o n d v a A s s.heap := by
  cases hfo : s.fieldFound? o n d with
  | none =>
    rw [va_fe ht] at hv
    simp [State.fieldOf?, State.fieldNamed?, hfo] at hv
  | some x =>
    obtain ⟨cf, k, fi, f⟩ := x
    obtain ⟨g1, cell, g2, g3, -, -, g6⟩ := Term.field_spec hfo ht hv
    exact ⟨cf, k, fi, f, cell, hfo, g1, g2, g3, g6, hA _ (Array.getElem?_eq_some_iff.mp g2).1⟩
theorem tkv_ (hs : ∀ w ∈ zfl_, w.before args s = true) {i : Nat} (hi : i < 22) : (tkT_ i).eval args s none [] s = some (.ref (ev_ args s (tkT_ i))) := by
  have h := List.all_eq_true.mp fo1_ i (List.mem_range.mpr hi)
  simp only [Bool.and_eq_true, decide_eq_true_iff] at h
  obtain ⟨a, c, cell, k, q1, -⟩ := Cond.exactly_spec (args := args) (first := s) (o := none) (s := s) (idx := []) (t := tkT_ i) (cls := RX6) (zfx_ hs h.1)
  rw [q1, ev_eq q1]
theorem stv_ (hs : ∀ w ∈ zfl_, w.before args s = true) {i : Nat} (hi : i < 36) : (stT_ i).eval args s none [] s = some (.ref (ev_ args s (stT_ i))) := by
  have h := List.all_eq_true.mp fo2_ i (List.mem_range.mpr hi)
  simp only [Bool.and_eq_true, decide_eq_true_iff] at h
  obtain ⟨a, c, cell, k, q1, -⟩ := Cond.exactly_spec (args := args) (first := s) (o := none) (s := s) (idx := []) (t := stT_ i) (cls := RJ0) (zfx_ hs h.1)
  rw [q1, ev_eq q1]
theorem byv_ (hs : ∀ w ∈ zfl_, w.before args s = true) (hA : ∀ a : Nat, a < s.heap.size → ¬ A a) {i : Nat} (hi : i < 36) : (byT_ i).eval args s none [] s = some (.ref (ev_ args s (byT_ i))) ∧ va_T .byte (ev_ args s (byT_ i)) (txt_.getD i []).length (fun j => .int ((txt_.getD i []).getD j 0)) A s s.heap := by
  have h := List.all_eq_true.mp fo2_ i (List.mem_range.mpr hi)
  simp only [Bool.and_eq_true, decide_eq_true_iff] at h
  have h3 := List.all_eq_true.mp fo3_ i (List.mem_range.mpr hi)
  have h4 : (txt_.getD i []).length < 100 := by simpa using List.all_eq_true.mp fq4_ i (List.mem_range.mpr hi)
  obtain ⟨t, q1, q2⟩ := va_Tof (args := args) (s := s) (tm := byT_ i) (ty := .byte) (N := (txt_.getD i []).length) (f := fun j => .int ((txt_.getD i []).getD j 0)) (A := A) (Nat.lt_trans h4 (by decide)) (zfx_ hs h.2.2.1) (va_eqt (zfx_ hs h.2.2.2)) (fun j hj => by
    have h5 := List.all_eq_true.mp h3 j (List.mem_range.mpr hj)
    rw [decide_eq_true_iff] at h5
    exact va_eqt (zfx_ hs h5)) hA
  rw [ev_eq q1]
  exact ⟨q1, q2⟩
theorem kav_ (hs : ∀ w ∈ zfl_, w.before args s = true) (hA : ∀ a : Nat, a < s.heap.size → ¬ A a) : kaT_.eval args s none [] s = some (.ref (ev_ args s kaT_)) ∧ va_T (.object RX6) (ev_ args s kaT_) 22 (fun j => .ref (ev_ args s (tkT_ j))) A s s.heap := by
  have h := fo4_
  simp only [Bool.and_eq_true, decide_eq_true_iff] at h
  obtain ⟨t, q1, q2⟩ := va_Tof (args := args) (s := s) (tm := kaT_) (ty := .object RX6) (N := 22) (f := fun j => .ref (ev_ args s (tkT_ j))) (A := A) (by decide) (zfx_ hs h.1) (va_eqt (zfx_ hs h.2.1)) (fun j hj => by
    have h5 := List.all_eq_true.mp h.2.2 j (List.mem_range.mpr hj)
    rw [decide_eq_true_iff] at h5
    exact eq_ref (zfx_ hs h5) (tkv_ hs hj)) hA
  rw [ev_eq q1]
  exact ⟨q1, q2⟩
theorem adT_ {i : Nat} (hi : i < 22) : adS_ args s (tok_ i) = ev_ args s (tkT_ i) := by
  unfold adS_
  rw [show sr_ (tok_ i) = i + 1 by unfold sr_ tok_; omega]
  unfold cT_
  rw [if_neg (by omega), if_pos (by omega), Nat.add_sub_cancel]
theorem adX_ {b : Nat} (h1 : 24 ≤ sr_ b) (h2 : sr_ b < 60) : adS_ args s b = ev_ args s (stT_ (sr_ b - 24)) := by
  unfold adS_ cT_
  rw [if_neg (by omega), if_neg (by omega), if_neg (by omega), if_pos h2]
theorem adB_ {b : Nat} (h1 : 60 ≤ sr_ b) : adS_ args s b = ev_ args s (byT_ (sr_ b - 60)) := by
  unfold adS_ cT_
  rw [if_neg (by omega), if_neg (by omega), if_neg (by omega), if_neg (by omega)]
theorem adK_ : adS_ args s tka_ = ev_ args s kaT_ := by
  unfold adS_
  rw [show sr_ tka_ = 23 by decide]
  rfl
theorem KC_start {b L : Nat} {xs : Nat → Int32} {B0 : Nat} (hargs : args = #[.ref b]) (hL : L < 4096) (hB : B0 = s.heap.size) (hs : ∀ w ∈ zfl_, w.before args s = true) (ht : ∀ w ∈ lw_tbl, w.before args s = true) (hX : va_X b L xs s s.heap) (hbl : b < s.heap.size) :
    ∃ op : Value, KC_ L xs op (A_ B0) (adS_ args s) s s.heap := by
  have hA : ∀ a : Nat, a < s.heap.size → ¬ A_ B0 a := fun a ha z => by unfold A_ at z; omega
  obtain ⟨op, hop, hcat⟩ := isRef_ev (zfx_ hs fo8_.2.1)
  refine ⟨op, ⟨?_, ?_, ?_, ?_, ?_, ?_, ?_, ?_⟩, ⟨?_, ?_, ?_, ?_, ?_, ?_, ?_⟩, ?_, hcat⟩
  · intro q hq
    have h := List.all_eq_true.mp fq5_ q hq
    simp only [Bool.or_eq_true, List.any_eq_true] at h
    rcases h with ⟨i, hi, h0⟩ | h0 | h0 | h0
    · have hi22 := List.mem_range.mp hi
      have h7 := List.all_eq_true.mp fo7_ i hi
      rw [decide_eq_true_iff] at h7
      rw [eq4_eq h0]
      show va_Z RX6 (tkn_.getD i "") "LPlayCompany$Token;" (.ref (adS_ args s (tok_ i))) _ _ _
      rw [adT_ hi22]
      exact va_Zref (tx_ ht h7) (tx_ ht foi_.2.2.2.2) (tkv_ hs hi22) hA
    · rw [eq4_eq h0]
      show va_Z "PlayCompany$TermReader" "TOKENS" "[LPlayCompany$Token;" (.ref (adS_ args s tka_)) _ _ _
      rw [adK_]
      exact va_Zref (tx_ ht fo9_.2.2.1) (tx_ ht foi_.2.2.1) (kav_ hs hA).1 hA
    · rw [eq4_eq h0]
      exact va_Zof (tx_ ht fo9_.1) (tx_ ht foi_.1) (va_eqi (zfx_ hs fo8_.1)) hA
    · rw [eq4_eq h0]
      exact va_Zof (tx_ ht fo9_.2.1) (tx_ ht foi_.2.1) hop hA
  · intro i hi
    have h := List.all_eq_true.mp fo1_ i (List.mem_range.mpr hi)
    simp only [Bool.and_eq_true, decide_eq_true_iff] at h
    rw [adT_ hi]
    refine ⟨va_Oof (zfx_ hs h.1) (tkv_ hs hi) hA, of_OF hA (tkv_ hs hi) (va_eqt (zfx_ hs h.2.1)), of_OF hA (tkv_ hs hi) ?_⟩
    have h1 := List.all_eq_true.mp fq1_ i (List.mem_range.mpr hi)
    cases hc : cR_ (tok_ i) 1 with
    | none => rw [hc] at h1; cases h1
    | some b9 =>
      rw [hc] at h1
      have h2 : sr_ b9 = 24 + i := by simpa using h1
      show _ = some (Value.ref (adS_ args s b9))
      rw [adX_ (by omega) (by omega), h2, Nat.add_sub_cancel_left]
      exact eq_ref (zfx_ hs h.2.2) (stv_ hs (by omega))
  · intro b9 hb9
    have h1 := List.all_eq_true.mp fq2_ b9 hb9
    simp only [Bool.and_eq_true, decide_eq_true_iff] at h1
    obtain ⟨h2, h3, h4⟩ := h1
    have h36 : sr_ b9 - 24 < 36 := by omega
    have h := List.all_eq_true.mp fo2_ (sr_ b9 - 24) (List.mem_range.mpr h36)
    simp only [Bool.and_eq_true, decide_eq_true_iff] at h
    rw [adX_ h2 h3]
    refine ⟨va_Oof (zfx_ hs h.1) (stv_ hs h36) hA, of_OF hA (stv_ hs h36) ?_, of_OF hA (stv_ hs h36) (va_eqt (zfx_ hs h.2.1))⟩
    cases hc : cR_ b9 0 with
    | none => rw [hc] at h4; cases h4
    | some c9 =>
      rw [hc] at h4
      have h5 : sr_ c9 = sr_ b9 + 36 := by simpa using h4
      show _ = some (Value.ref (adS_ args s c9))
      rw [adB_ (by omega), h5, show sr_ b9 + 36 - 60 = sr_ b9 - 24 by omega]
      exact (byv_ hs hA h36).1
  · intro b9 hb9
    have h1 := List.all_eq_true.mp fq3_ b9 hb9
    simp only [Bool.and_eq_true, decide_eq_true_iff] at h1
    obtain ⟨h2, h3, h4, h5⟩ := h1
    rw [adB_ h2, h4]
    refine va_T.congr (fun j hj => ?_) (byv_ hs hA (show sr_ b9 - 60 < 36 by omega)).2
    unfold cI_
    rw [if_neg (by omega), if_pos h5]
    rfl
  · rw [adK_]
    refine va_T.congr (fun j hj => ?_) (kav_ hs hA).2
    rw [cR_tka]
    show Value.ref _ = Value.ref (adS_ args s (tok_ j))
    rw [adT_ hj]
  · have e : adS_ args s (scr_ L) = b := by
      unfold adS_
      rw [show sr_ (scr_ L) = 0 by unfold sr_ scr_; omega]
      refine ev_eq ?_
      rw [hargs]
      rfl
    rw [e]
    obtain ⟨cell, h1, h2, h3, h4, h5⟩ := hX
    exact ⟨cell, h1, h2, h3, by omega, by rw [h4] <;> rfl, h5, hA b hbl⟩
  · exact vx_Zqof (tx_ ht fo9_.2.2.2.1) (tx_ ht foi_.2.2.2.1) (zfx_ hs fo8_.2.2.1) hA
  · exact vx_Zqof (tx_ ht fo9_.2.2.2.2) (tx_ ht foi_.2.2.2.1) (zfx_ hs fo8_.2.2.2) hA
  · intro q hq
    obtain ⟨i, hi⟩ := List.getElem?_of_mem hq
    have hi14 : i < 14 := (List.getElem?_eq_some_iff.mp hi).1
    have h := List.all_eq_true.mp for_ i (List.mem_range.mpr hi14)
    simp only [Bool.and_eq_true, decide_eq_true_iff, List.getD_eq_getElem?_getD, hi] at h
    obtain ⟨⟨h1, h2⟩, -, h3, h4⟩ := h
    have h5 : Term.string q.1 q.2.1 = stT_ (sr_ q.2.2.2 - 24) := Option.some.inj h2
    have h3' : 24 ≤ sr_ q.2.2.2 := h3
    have h4' : sr_ q.2.2.2 < 60 := h4
    refine vk_R.of (A := args) (tx_ ht (k := frt_[i]?.getD 0) h1) ?_
    rw [h5, adX_ h3' h4']
    exact stv_ hs (by omega)
  · intro q hq
    obtain ⟨i, hi⟩ := List.getElem?_of_mem hq
    have hi3 : i < 3 := (List.getElem?_eq_some_iff.mp hi).1
    have h := List.all_eq_true.mp fon_ i (List.mem_range.mpr hi3)
    simp only [decide_eq_true_iff, List.getD_eq_getElem?_getD, hi] at h
    exact va_Nw.of rfl (tx_ ht h)
  · exact va_AO.of (tx_ ht foa_.1)
  · exact va_AO.of (tx_ ht foa_.2.1)
  · exact va_AO.of (tx_ ht foa_.2.2.1)
  · intro x hx
    rcases List.mem_cons.mp hx with rfl | hx
    · exact va_Nw.of rfl (tx_ ht fod_.1)
    rcases List.mem_cons.mp hx with rfl | hx
    · exact va_Nw.of rfl (tx_ ht fod_.2.1)
    rcases List.mem_cons.mp hx with rfl | hx
    · exact va_Nw.of rfl (tx_ ht fod_.2.2.1)
    · cases hx
  · exact va_Nw.of rfl (tx_ ht fod_.2.2.2)
  · intro i j hi hj h
    rw [adT_ hi, adT_ hj] at h
    by_cases hij : i = j
    · exact hij
    · exfalso
      have h6 := List.all_eq_true.mp (List.all_eq_true.mp fo6_ i (List.mem_range.mpr hi)) j (List.mem_range.mpr hj)
      simp only [Bool.or_eq_true, Bool.and_eq_true, beq_iff_eq, List.any_eq_true, hij, false_or] at h6
      obtain ⟨q, hq, h7⟩ := h6
      have h5 := List.all_eq_true.mp fo5_ q hq
      rw [decide_eq_true_iff] at h5
      have h8 := zfx_ hs h5
      rcases h7 with ⟨e1, e2⟩ | ⟨e1, e2⟩
      · rw [e1, e2] at h8
        exact va_neR h8 (tkv_ hs hi) (tkv_ hs hj) h
      · rw [e1, e2] at h8
        exact va_neR h8 (tkv_ hs hj) (tkv_ hs hi) h.symm
theorem ar_of {ty : FieldType} (hp : ∀ cA, s.vm.findClass ("[" ++ ty.toString) = some cA → va_RA s cA ty) (h : (Cond.arrayClass ty).before args s = true) : ∃ cA, ArrOfT s cA ty ∧ va_RA s cA ty := by
  obtain ⟨c, k, comp, h1, h2, h3⟩ := Cond.arrayClass_spec h
  exact ⟨c, fun n z => ⟨fun k9 h9 => (by cases h9), k, h2, comp, h3⟩, hp c h1⟩
theorem ar_ov {C : String} (h : (Cond.arrayOver (.object C)).before args s = true) : ∃ cA, ArrOfT s cA (.object C) ∧ va_RA s cA (.object C) := by
  obtain ⟨comp, c, k, h1, -, h2, h3, h4⟩ := Cond.arrayOver_spec h
  exact ⟨c, fun n z => ⟨fun k9 h9 => (by cases h9), k, h2, comp, h3⟩, k, comp, h2, h3, h1, h4⟩
theorem K_start (ht : ∀ w ∈ lw_tbl, w.before args s = true) : ∃ (dC : Nat → ClassId) (dI : Nat → Nat → Nat) (cy : Nat → ClassId), va_K (dC, dI) vwCl (tys_ cy) s := by
  have hg : ∀ w ∈ gtb_, w.before args s = true := fun w hw => ht w (List.mem_filter.mp hw).1
  have h0 : ∀ k : Nat, ∃ z : ClassId × (Nat → Nat), ∀ q : vw_C, vwCl[k]? = some q → u_Kn s q.1 q.2.1 q.2.2 z.1 z.2 := by
    intro k
    by_cases hk : k < 9
    · have hc := List.all_eq_true.mp foc_ k (List.mem_range.mpr hk)
      split at hc
      · rename_i C n9 hw
        have hC : C = clnm_ k := by simpa using hc
        subst hC
        obtain ⟨cC, iS, hu⟩ := u_known (n := n9) hg (lay_in hk) (tx_ ht hw)
        exact ⟨(cC, iS), fun q hq => by cases (vw_at hk).symm.trans hq; exact hu⟩
      · cases hc
    · exact ⟨(0, fun _ => 0), fun q hq => by
        rw [List.getElem?_eq_none (by show 9 ≤ k; omega)] at hq
        cases hq⟩
  obtain ⟨f, hf⟩ := Classical.axiomOfChoice h0
  obtain ⟨c16, a16⟩ := ar_of (ty := .int) (fun cA h => h) (tx_ ht foa_.2.2.2.1)
  obtain ⟨c17, a17⟩ := ar_of (ty := .byte) (fun cA h => h) (tx_ ht foa_.2.2.2.2.1)
  obtain ⟨c18, a18⟩ := ar_of (ty := .boolean) (fun cA h => h) (tx_ ht foa_.2.2.2.2.2.1)
  obtain ⟨c19, a19⟩ := ar_of (ty := .long) (fun cA h => h) (tx_ ht foa_.2.2.2.2.2.2)
  obtain ⟨c20, a20⟩ := ar_ov (tx_ ht foa_.1)
  obtain ⟨c21, a21⟩ := ar_ov (tx_ ht foa_.2.1)
  obtain ⟨c22, a22⟩ := ar_ov (tx_ ht foa_.2.2.1)
  refine ⟨fun k => (f k).1, fun k => (f k).2, fun k => if k = 16 then c16 else if k = 17 then c17 else if k = 18 then c18 else if k = 19 then c19 else if k = 20 then c20 else if k = 21 then c21 else c22, fun k q hq => hf k q hq, fun k q hq => ?_⟩
  match k, hq with
  | 0, hq => cases hq; exact a16
  | 1, hq => cases hq; exact a17
  | 2, hq => cases hq; exact a18
  | 3, hq => cases hq; exact a19
  | 4, hq => cases hq; exact a20
  | 5, hq => cases hq; exact a21
  | 6, hq => cases hq; exact a22
  | k + 7, hq =>
    rw [List.getElem?_eq_none (by show 7 ≤ k + 7; omega)] at hq
    cases hq
end SRT
