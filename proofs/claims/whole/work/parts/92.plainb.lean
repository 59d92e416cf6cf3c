/-! plain instructions, second part: arithmetic, stores, jumps -/
section PL2
variable {p : Program} {l : Launch} {e : Env} {R : Room} {s : State} {m : MethodId} {args : Array Value} {below : List Frame} {meth : Method} {c : Code} {dC : Nat → ClassId} {dI : Nat → Nat → Nat} {cy : Nat → ClassId} {op : Value} {B0 L : Nat} {xs : Nat → Int32} {ad0 : Nat → Nat} {n0 s0 : Nat} {Q : State → Prop} {q pc len : Nat} {ls st ls' st' : List AV} {h : AH} {i : Instr} {v : AV}
theorem sd_exa (C : Cx_ p l R s m args meth c dC dI cy op B0 L xs q) (hd : decode (cod_ q) pc = .ok (i, len)) (hk : lok_ i len = true) (hv : exa_ i st = some st') (K : Sm_ p l e R s m args below meth c dC dI cy op B0 L xs ad0 n0 s0 Q q (pc + len) ls st' h) : Sm_ p l e R s m args below meth c dC dI cy op B0 L xs ad0 n0 s0 Q q pc ls st h := by
  obtain ⟨⟨hx, hb, hml, ho, ht⟩, hK0, hB, hlk, hrt, hnm, hst⟩ := C
  intro ad la H locs e1 hR hKC hL hc1 hc2 hF hS hn hs
  have hc3 : ∀ w ∈ st', vc_ L h w := fun w hw => (exa_mem hv w hw).elim (hc2 w) (fun z b hb => absurd hb (z b))
  have k := K ad la H locs e1 hR hKC hL hc1 hc3 hF hS hn hs
  have hop : op.category = 1 := hKC.2.2.2
  unfold exa_ at hv
  split at hv
  case h_1 => cases lok_eq hk; obtain ⟨x, y, r, rfl, rfl⟩ := bI_eq hv; exact lv_iadd hx hb hd k
  case h_2 => cases lok_eq hk; obtain ⟨x, y, r, rfl, rfl⟩ := bI_eq hv; exact lv_isub hx hb hd k
  case h_3 => cases lok_eq hk; obtain ⟨x, y, r, rfl, rfl⟩ := bI_eq hv; exact lv_imul hx hb hd k
  case h_4 => cases lok_eq hk; obtain ⟨x, y, r, rfl, rfl⟩ := bI_eq hv; exact lv_iand hx hb hd k
  case h_5 => cases lok_eq hk; obtain ⟨x, y, r, rfl, rfl⟩ := bI_eq hv; exact lv_ior hx hb hd k
  case h_6 => cases lok_eq hk; obtain ⟨x, y, r, rfl, rfl⟩ := bI_eq hv; exact lv_ixor hx hb hd k
  case h_7 => cases lok_eq hk; obtain ⟨x, y, r, rfl, rfl⟩ := bI_eq hv; exact lv_ishl hx hb hd k
  case h_8 => cases lok_eq hk; obtain ⟨x, y, r, rfl, rfl⟩ := bI_eq hv; exact lv_ishr hx hb hd k
  case h_9 => cases lok_eq hk; obtain ⟨x, y, r, rfl, rfl⟩ := bI_eq hv; exact lv_iushr hx hb hd rfl k
  case h_10 =>
    cases lok_eq hk
    split at hv
    · split at hv
      · cases hv
      · rename_i hy; cases hv; exact lv_idiv hx hb hd hy k
    · cases hv
  case h_11 =>
    cases lok_eq hk
    split at hv
    · split at hv
      · cases hv
      · rename_i hy; cases hv; exact lv_irem hx hb hd hy k
    · cases hv
  case h_12 =>
    cases lok_eq hk
    split at hv
    · cases hv; exact lv_ineg hx hb hd k
    · cases hv
  case h_13 => cases lok_eq hk; obtain ⟨x, y, r, rfl, rfl⟩ := bL_eq hv; exact lv_ladd hx hb hd k
  case h_14 => cases lok_eq hk; obtain ⟨x, y, r, rfl, rfl⟩ := bL_eq hv; exact lv_lsub hx hb hd k
  case h_15 => cases lok_eq hk; obtain ⟨x, y, r, rfl, rfl⟩ := bL_eq hv; exact lv_lmul hx hb hd k
  case h_16 => cases lok_eq hk; obtain ⟨x, y, r, rfl, rfl⟩ := bL_eq hv; exact lv_land hx hb hd k
  case h_17 => cases lok_eq hk; obtain ⟨x, y, r, rfl, rfl⟩ := bL_eq hv; exact lv_lor hx hb hd k
  case h_18 => cases lok_eq hk; obtain ⟨x, y, r, rfl, rfl⟩ := bL_eq hv; exact lv_lxor hx hb hd k
  case h_19 =>
    cases lok_eq hk
    split at hv
    · split at hv
      · cases hv
      · rename_i hy; cases hv; exact lv_ldiv hx hb hd hy k
    · cases hv
  case h_20 =>
    cases lok_eq hk
    split at hv
    · cases hv; exact lv_lneg hx hb hd k
    · cases hv
  case h_21 =>
    cases lok_eq hk
    split at hv
    · cases hv; exact lv_lushr hx hb hd rfl k
    · cases hv
  case h_22 =>
    cases lok_eq hk
    split at hv
    · cases hv; exact lv_lshl hx hb hd rfl k
    · cases hv
  case h_23 =>
    cases lok_eq hk
    split at hv
    · cases hv; exact W.lcmp hx hb hd k
    · cases hv
  case h_24 =>
    cases lok_eq hk
    split at hv
    · cases hv; exact lv_i2l hx hb hd rfl k
    · cases hv
  case h_25 =>
    cases lok_eq hk
    split at hv
    · cases hv; exact lv_l2i hx hb hd rfl k
    · cases hv
  case h_26 =>
    cases lok_eq hk
    split at hv
    · cases hv; exact lv_i2b hx hb hd rfl k
    · cases hv
  case h_27 =>
    cases lok_eq hk
    split at hv
    · cases hv; exact lv_i2c hx hb hd rfl k
    · cases hv
  case h_28 =>
    cases lok_eq hk
    split at hv
    · split at hv
      · rename_i h1; cases hv; exact lv_dup hx hb hd (by rw [cv_cat hop]; exact h1) k
      · cases hv
    · cases hv
  case h_29 =>
    cases lok_eq hk
    split at hv
    · split at hv
      · rename_i h1; cases hv; exact lv_pop hx hb hd (by rw [cv_cat hop]; exact h1) k
      · cases hv
    · cases hv
  case h_30 =>
    cases lok_eq hk
    split at hv
    · split at hv
      · rename_i h1; cases hv; exact lv_dup_x1 hx hb hd (by rw [cv_cat hop]; exact h1.1) (by rw [cv_cat hop]; exact h1.2) k
      · cases hv
    · cases hv
  case h_31 =>
    cases lok_eq hk
    split at hv
    · split at hv
      · rename_i h1; cases hv; exact lv_dup2_11 hx hb hd (by rw [cv_cat hop]; exact h1.1) (by rw [cv_cat hop]; exact h1.2) k
      · cases hv
    · cases hv
  case h_32 => cases hv
/-- what is known of the locals, as a list -/
def lvs_ (ad : Nat → Nat) (op : Value) (ls : List AV) : List (Nat × Value) := (List.range ls.length).filterMap (fun i => (ls[i]?).bind (fun v => if v = vX 0 then none else some (i, cv_ ad op v)))
theorem lvs_mem {ad : Nat → Nat} {i : Nat} {w : Value} : (i, w) ∈ lvs_ ad op ls ↔ ∃ v, ls[i]? = some v ∧ v ≠ vX 0 ∧ w = cv_ ad op v := by
  unfold lvs_
  rw [List.mem_filterMap]
  constructor
  · rintro ⟨j, -, hj⟩
    cases hl : ls[j]? with
    | none => rw [hl] at hj; cases hj
    | some v =>
      rw [hl] at hj
      dsimp only [Option.bind_some] at hj
      split at hj
      · cases hj
      · rename_i hv
        cases hj
        exact ⟨v, hl, hv, rfl⟩
  · rintro ⟨v, h1, h2, rfl⟩
    refine ⟨i, List.mem_range.mpr (List.getElem?_eq_some_iff.mp h1).1, ?_⟩
    rw [h1]
    dsimp only [Option.bind_some]
    rw [if_neg h2]
theorem Lr_.has {ad : Nat → Nat} {nL : Nat} {la : Array Slot} (hL : Lr_ ad op nL ls la) : lv_has la nL (lvs_ ad op ls) := by
  refine ⟨hL.1, hL.2.1, ?_⟩
  rintro ⟨i, w⟩ hq
  obtain ⟨v, h1, h2, rfl⟩ := lvs_mem.mp hq
  exact hL.2.2.2 i v h1 h2
theorem cat2 {ad : Nat → Nat} (hop : op.category = 1) {v : AV} (h2 : (cv_ ad op v).category = 2) : ∃ x, v = vJ x := by
  rw [cv_cat hop] at h2
  rcases v with x | x | x | x
  · cases h2
  · exact ⟨x, rfl⟩
  · cases h2
  · cases h2
/-- behind a store of a word -/
theorem Lr_.sto {ad : Nat → Nat} {nL k : Nat} {la la' : Array Slot} (hop : op.category = 1) (hL : Lr_ ad op nL ls la) (hF : ∀ (i : Nat) (x : Int64), ls[i]? = some (vJ x) → i ∈ lgs_ q) (hk : k < ls.length ∧ (k = 0 ∨ ¬ (k - 1) ∈ lgs_ q))
    (h' : lv_has la' nL ((k, cv_ ad op v) :: (lvs_ ad op ls).filter (fun q => !(q.1 == k) && !(q.1 + 1 == k && q.2.category == 2)))) : Lr_ ad op nL (ls.set k v) la' := by
  refine ⟨h'.1, h'.2.1, by rw [List.length_set]; exact hL.2.2.1, fun j w hj hw => ?_⟩
  rw [List.getElem?_set] at hj
  split at hj
  · rename_i e9
    rw [if_pos (by omega)] at hj
    cases hj
    subst e9
    exact h'.2.2 _ List.mem_cons_self
  · rename_i hne
    refine h'.2.2 (j, cv_ ad op w) (List.mem_cons_of_mem _ (List.mem_filter.mpr ⟨lvs_mem.mpr ⟨w, hj, hw, rfl⟩, ?_⟩))
    simp only [Bool.and_eq_true, Bool.not_eq_true', beq_eq_false_iff_ne, Bool.and_eq_false_iff]
    refine ⟨fun z => hne z.symm, ?_⟩
    by_cases hc : (cv_ ad op w).category = 2
    · obtain ⟨x, rfl⟩ := cat2 hop hc
      left
      intro z
      have := hF j x hj
      rcases hk.2 with h0 | h0
      · omega
      · exact h0 (by rw [← z]; simpa using this)
    · right; exact hc
theorem Lr_.stl {ad : Nat → Nat} {nL k : Nat} {la la' : Array Slot} (hop : op.category = 1) (hL : Lr_ ad op nL ls la) (hF : ∀ (i : Nat) (x : Int64), ls[i]? = some (vJ x) → i ∈ lgs_ q) (hk : k + 1 < ls.length ∧ k ∈ lgs_ q ∧ (k = 0 ∨ ¬ (k - 1) ∈ lgs_ q))
    (h' : lv_has la' nL ((k, cv_ ad op v) :: (lvs_ ad op ls).filter (fun q => !(q.1 == k) && (!(q.1 == k + 1) && !(q.1 + 1 == k && q.2.category == 2))))) : Lr_ ad op nL ((ls.set k v).set (k + 1) (vX 0)) la' := by
  refine ⟨h'.1, h'.2.1, by rw [List.length_set, List.length_set]; exact hL.2.2.1, fun j w hj hw => ?_⟩
  rw [List.getElem?_set] at hj
  split at hj
  · rename_i e9
    rw [if_pos (by rw [List.length_set]; omega)] at hj
    cases hj
    exact absurd rfl hw
  · rename_i hne1
    rw [List.getElem?_set] at hj
    split at hj
    · rename_i e9
      rw [if_pos (by omega)] at hj
      cases hj
      subst e9
      exact h'.2.2 _ List.mem_cons_self
    · rename_i hne
      refine h'.2.2 (j, cv_ ad op w) (List.mem_cons_of_mem _ (List.mem_filter.mpr ⟨lvs_mem.mpr ⟨w, hj, hw, rfl⟩, ?_⟩))
      simp only [Bool.and_eq_true, Bool.not_eq_true', beq_eq_false_iff_ne, Bool.and_eq_false_iff]
      refine ⟨fun z => hne z.symm, fun z => hne1 z.symm, ?_⟩
      by_cases hc : (cv_ ad op w).category = 2
      · obtain ⟨x, rfl⟩ := cat2 hop hc
        left
        intro z
        have := hF j x hj
        rcases hk.2.2 with h0 | h0
        · omega
        · exact h0 (by rw [← z]; simpa using this)
      · right; exact hc
theorem set_mem {α : Type} {l : List α} {k : Nat} {v w : α} (hw : w ∈ l.set k v) : w = v ∨ w ∈ l := by
  rcases List.mem_or_eq_of_mem_set hw with h | h
  · exact Or.inr h
  · exact Or.inl h
theorem sto_F {k : Nat} (hF : ∀ (i : Nat) (x : Int64), ls[i]? = some (vJ x) → i ∈ lgs_ q) (hv : ∀ x, v ≠ vJ x) : ∀ (i : Nat) (x : Int64), (ls.set k v)[i]? = some (vJ x) → i ∈ lgs_ q := by
  intro i x hi
  rw [List.getElem?_set] at hi
  split at hi
  · split at hi
    · cases hi; exact absurd rfl (hv x)
    · cases hi
  · exact hF i x hi
theorem sto_eq {lg : List Nat} {k : Nat} (hs : sto_ lg ls k v = some ls') : (k < ls.length ∧ (k = 0 ∨ ¬ (k - 1) ∈ lg)) ∧ ls' = ls.set k v := by
  unfold sto_ at hs
  split at hs
  · cases hs; exact ⟨by assumption, rfl⟩
  · cases hs
theorem stl_eq {lg : List Nat} {k : Nat} (hs : stl_ lg ls k v = some ls') : (k + 1 < ls.length ∧ k ∈ lg ∧ (k = 0 ∨ ¬ (k - 1) ∈ lg)) ∧ ls' = (ls.set k v).set (k + 1) (vX 0) := by
  unfold stl_ at hs
  split at hs
  · cases hs; exact ⟨by assumption, rfl⟩
  · cases hs
theorem omap_some {α β : Type} {o : Option α} {f : α → β} {r : β} (h : o.map f = some r) : ∃ a, o = some a ∧ f a = r := by
  cases o with
  | none => cases h
  | some a => exact ⟨a, rfl, Option.some.inj h⟩
theorem sd_exs (C : Cx_ p l R s m args meth c dC dI cy op B0 L xs q) (hd : decode (cod_ q) pc = .ok (i, len)) (hk : lok_ i len = true) (hv : exs_ (lgs_ q) i ls st = some (ls', st')) (K : Sm_ p l e R s m args below meth c dC dI cy op B0 L xs ad0 n0 s0 Q q (pc + len) ls' st' h) : Sm_ p l e R s m args below meth c dC dI cy op B0 L xs ad0 n0 s0 Q q pc ls st h := by
  obtain ⟨⟨hx, hb, hml, ho, ht⟩, hK0, hB, hlk, hrt, hnm, hst⟩ := C
  intro ad la H locs e1 hR hKC hL hc1 hc2 hF hS hn hs
  have hop : op.category = 1 := hKC.2.2.2
  have tl : ∀ {w : AV} {r : List AV}, st = w :: r → ∀ z ∈ r, vc_ L h z := fun hh z hz => hc2 z (by rw [hh]; exact List.mem_cons_of_mem _ hz)
  have hd1 : ∀ {w : AV} {r : List AV}, st = w :: r → vc_ L h w := fun hh => hc2 _ (by rw [hh]; exact List.mem_cons_self)
  have one : ∀ {k : Nat} {w : AV} {r : List AV} {la' : Array Slot}, (k < ls.length ∧ (k = 0 ∨ ¬ (k - 1) ∈ lgs_ q)) → (∀ x, w ≠ vJ x) → vc_ L h w → ls' = ls.set k w → (∀ z ∈ r, vc_ L h z) → st' = r →
      lv_has la' (mxl_ q) ((k, cv_ ad op w) :: (lvs_ ad op ls).filter (fun q => !(q.1 == k) && !(q.1 + 1 == k && q.2.category == 2))) → W p l e R s m args below meth c H locs (nx_ h - n0) (sl_ h - s0) Q (F0 m (pc + len) la' (r.map (cv_ ad op))) := by
    intro k w r la' h1 h2 h3 h4 h5 h6 h7
    subst h4 h6
    exact K ad la' H locs e1 hR hKC (Lr_.sto hop hL hF h1 h7) (fun z hz => (set_mem hz).elim (fun zz => zz ▸ h3) (hc1 z)) h5 (sto_F hF h2) hS hn hs
  have two : ∀ {k : Nat} {x : Int64} {r : List AV} {la' : Array Slot}, (k + 1 < ls.length ∧ k ∈ lgs_ q ∧ (k = 0 ∨ ¬ (k - 1) ∈ lgs_ q)) → ls' = (ls.set k (vJ x)).set (k + 1) (vX 0) → (∀ z ∈ r, vc_ L h z) → st' = r →
      lv_has la' (mxl_ q) ((k, cv_ ad op (vJ x)) :: (lvs_ ad op ls).filter (fun q => !(q.1 == k) && (!(q.1 == k + 1) && !(q.1 + 1 == k && q.2.category == 2)))) → W p l e R s m args below meth c H locs (nx_ h - n0) (sl_ h - s0) Q (F0 m (pc + len) la' (r.map (cv_ ad op))) := by
    intro k x r la' h1 h4 h5 h6 h7
    subst h4 h6
    refine K ad la' H locs e1 hR hKC (Lr_.stl hop hL hF h1 h7) (fun z hz => ?_) h5 (fun j y hj => ?_) hS hn hs
    · rcases set_mem hz with rfl | hz
      · exact vcX
      · rcases set_mem hz with rfl | hz
        · exact vcJ
        · exact hc1 z hz
    · rw [List.getElem?_set] at hj
      split at hj
      · split at hj
        · cases hj
        · cases hj
      · rw [List.getElem?_set] at hj
        split at hj
        · rename_i e9
          rw [← e9]
          exact h1.2.1
        · exact hF j y hj
  have hlen : ∀ {k : Nat}, k < ls.length → k < mxl_ q := fun hh => by rw [← hL.2.2.1]; exact hh
  unfold exs_ at hv
  split at hv
  case h_1 k =>
    cases lok_eq hk
    split at hv
    · obtain ⟨l9, h9, e9⟩ := omap_some hv
      cases e9
      obtain ⟨g1, g2⟩ := sto_eq h9
      exact lv_istore hx hb hd hL.has (hlen g1.1) rfl (fun la' hla => one g1 (by intro x z; cases z) vcI g2 (tl rfl) rfl hla)
    · cases hv
  case h_2 k =>
    cases lok_eq hk
    split at hv
    · obtain ⟨l9, h9, e9⟩ := omap_some hv
      cases e9
      obtain ⟨g1, g2⟩ := sto_eq h9
      exact lv_istore_n hx hb hd rfl hL.has (hlen g1.1) rfl (fun la' hla => one g1 (by intro x z; cases z) vcI g2 (tl rfl) rfl hla)
    · cases hv
  case h_3 k =>
    cases lok_eq hk
    split at hv
    · obtain ⟨l9, h9, e9⟩ := omap_some hv
      cases e9
      obtain ⟨g1, g2⟩ := stl_eq h9
      exact lv_lstore hx hb hd hL.has (hlen g1.1) rfl (fun la' hla => two g1 g2 (tl rfl) rfl hla)
    · cases hv
  case h_4 k =>
    cases lok_eq hk
    split at hv
    · obtain ⟨l9, h9, e9⟩ := omap_some hv
      cases e9
      obtain ⟨g1, g2⟩ := stl_eq h9
      exact lv_lstore_n hx hb hd rfl hL.has (hlen g1.1) rfl (fun la' hla => two g1 g2 (tl rfl) rfl hla)
    · cases hv
  case h_5 k =>
    cases lok_eq hk
    split at hv
    · rename_i x r
      obtain ⟨l9, h9, e9⟩ := omap_some hv
      cases e9
      obtain ⟨g1, g2⟩ := sto_eq h9
      cases x with
      | none => exact lv_astoreN hx hb hd hL.has (hlen g1.1) rfl (fun la' hla => one g1 (by intro x z; cases z) (hd1 rfl) g2 (tl rfl) rfl hla)
      | some x => exact lv_astore hx hb hd hL.has (hlen g1.1) rfl (fun la' hla => one g1 (by intro x z; cases z) (hd1 rfl) g2 (tl rfl) rfl hla)
    · cases hv
  case h_6 k =>
    cases lok_eq hk
    split at hv
    · rename_i x r
      obtain ⟨l9, h9, e9⟩ := omap_some hv
      cases e9
      obtain ⟨g1, g2⟩ := sto_eq h9
      cases x with
      | none => exact lv_astore_nN hx hb hd rfl hL.has (hlen g1.1) rfl (fun la' hla => one g1 (by intro x z; cases z) (hd1 rfl) g2 (tl rfl) rfl hla)
      | some x => exact lv_astore_n hx hb hd rfl hL.has (hlen g1.1) rfl (fun la' hla => one g1 (by intro x z; cases z) (hd1 rfl) g2 (tl rfl) rfl hla)
    · cases hv
  case h_7 k n =>
    cases lok_eq hk
    split at hv
    · rename_i x hg
      obtain ⟨l9, h9, e9⟩ := omap_some hv
      cases e9
      obtain ⟨g1, g2⟩ := sto_eq h9
      obtain ⟨j, hj⟩ := List.getElem?_of_mem (lvs_mem (ad := ad) (op := op) (ls := ls) (i := k) (w := .int x) |>.mpr ⟨_, hg, (by intro z; cases z), rfl⟩)
      exact lv_iinc hx hb hd hL.has hj rfl (hlen g1.1) rfl (fun la' hla => one g1 (by intro x z; cases z) vcI g2 hc2 rfl hla)
    · cases hv
  case h_8 => cases hv
theorem tk_eq {pc : Nat} {o : Int} (h : tk_ pc o = true) : (pc : Int) + o = ((tg_ pc o : Nat) : Int) := by
  unfold tk_ at h
  unfold tg_
  rw [Int.toNat_of_nonneg (by simpa using h)]
end PL2
