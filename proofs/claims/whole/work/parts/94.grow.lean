/-! heaps grow; returns; entries -/
def Gw_ (h h' : AH) : Prop := nx_ h ≤ nx_ h' ∧ sl_ h ≤ sl_ h' ∧ ∀ a ∈ ids_ h, a ∈ ids_ h'
theorem Gw_.rf {h : AH} : Gw_ h h := ⟨Nat.le_refl _, Nat.le_refl _, fun _ z => z⟩
theorem Gw_.tr {h h' h'' : AH} (g1 : Gw_ h h') (g2 : Gw_ h' h'') : Gw_ h h'' := ⟨Nat.le_trans g1.1 g2.1, Nat.le_trans g1.2.1 g2.2.1, fun a z => g2.2.2 a (g1.2.2 a z)⟩
theorem exh_grow {xs : Nat → Int32} {k : Nat} {ini : Bool} {i : Instr} {st st' : List AV} {h h' : AH} (hv : exh_ xs k ini i st h = some (st', h')) : Gw_ h h' := by
  unfold exh_ at hv
  split at hv
  all_goals first | (cases hv; done) | skip
  all_goals (repeat' (split at hv <;> try (cases hv; done)))
  all_goals (cases hv; first | exact Gw_.rf | exact ⟨Nat.le_refl _, Nat.le_refl _, fun _ z => z⟩ | exact ⟨Nat.le_succ _, Nat.le_add_right _ _, fun _ z => List.mem_append_left _ z⟩)
theorem ex_grow {xs : Nat → Int32} {q pc len : Nat} {i : Instr} {ls st ls' st' : List AV} {h h' : AH} {pc' : Nat} (hv : ex_ xs q pc len i ls st h = some (pc', ls', st', h')) : Gw_ h h' := by
  unfold ex_ at hv
  repeat' (split at hv)
  all_goals first | (cases hv; exact Gw_.rf) | (cases hv; done) | skip
  all_goals (cases hv; exact exh_grow (by assumption))
theorem cal_grow {rn : Nat → Nat → Nat → List AV → List AV → AH → Option (OU_ × AH)} (H : ∀ d m pc ls st h o h', rn d m pc ls st h = some (o, h') → Gw_ h h') {d m pc : Nat} {ls st : List AV} {h h' : AH} {c : Option (Nat × Nat × Nat)} {ct : Nat} {o : OU_} (hc : cal_ rn d m pc ls st h c ct = some (o, h')) : Gw_ h h' := by
  unfold cal_ at hc
  split at hc
  · cases hc
  · split at hc
    · split at hc
      · split at hc
        · exact H _ _ _ _ _ _ _ _ hc
        · cases hc
      · cases hc
    · split at hc
      · cases hc
      · split at hc
        · split at hc
          · rename_i h1
            have a1 := H _ _ _ _ _ _ _ _ h1
            have a2 := H _ _ _ _ _ _ _ _ hc
            exact a1.tr a2
          · rename_i h1
            have a1 := H _ _ _ _ _ _ _ _ h1
            have a2 := H _ _ _ _ _ _ _ _ hc
            exact a1.tr a2
          · rename_i h1
            have a1 := H _ _ _ _ _ _ _ _ h1
            split at hc
            · have a2 := H _ _ _ _ _ _ _ _ hc
              exact a1.tr a2
            · cases hc
          · cases hc
        · cases hc
theorem run_grow {xs : Nat → Int32} : ∀ (n d m pc : Nat) (ls st : List AV) (h : AH) (o : OU_) (h' : AH), run_ xs n d m pc ls st h = some (o, h') → Gw_ h h' := by
  intro n
  induction n with
  | zero => intro d m pc ls st h o h' hr; unfold run_ at hr; cases hr
  | succ n ih =>
    intro d m pc ls st h o h' hr
    unfold run_ at hr
    split at hr
    · cases hr
    · split at hr
      · split at hr
        all_goals first | exact cal_grow (fun d m pc ls st h o h' => ih d m pc ls st h o h') hr | skip
        all_goals (repeat' (split at hr <;> try (cases hr; done)))
        all_goals first
          | (cases hr; exact Gw_.rf)
          | (cases hr; exact ⟨Nat.le_succ _, Nat.le_add_right _ _, fun _ z => z⟩)
          | (have a1 := ex_grow (by assumption); have a2 := ih _ _ _ _ _ _ _ _ hr; exact a1.tr a2)
      · cases hr
/-- the arguments at the entry -/
theorem plc_args {ad : Nat → Nat} {op : Value} (hop : op.category = 1) : ∀ (as : List AV) (k i : Nat) (v : AV), (plc_ as)[i]? = some v → v ≠ vX 0 → (k + i, cv_ ad op v) ∈ lv_args k (as.map (cv_ ad op)) := by
  intro as
  induction as with
  | nil => intro k i v hv; cases hv
  | cons w r ih =>
    intro k i v hv hne
    have hcat := cv_cat (ad := ad) hop w
    have gen : acat_ w = 1 → (plc_ (w :: r)) = w :: plc_ r → (k + i, cv_ ad op v) ∈ lv_args k ((w :: r).map (cv_ ad op)) := by
      intro h1 h2
      rw [h2] at hv
      rw [List.map_cons]
      unfold lv_args
      rw [hcat, h1, if_neg (by decide)]
      cases i with
      | zero => cases hv; exact List.mem_cons_self
      | succ i =>
        refine List.mem_cons_of_mem _ ?_
        have := ih (k + 1) i v hv hne
        rwa [show k + 1 + i = k + (i + 1) by omega] at this
    rcases w with x | x | x | x
    · exact gen rfl rfl
    · have h2 : plc_ ((.inr (.inl x) :: r) : List AV) = .inr (.inl x) :: vX 0 :: plc_ r := rfl
      rw [h2] at hv
      rw [List.map_cons]
      unfold lv_args
      rw [hcat, if_pos (show acat_ (Sum.inr (Sum.inl x)) = 2 from rfl)]
      cases i with
      | zero => cases hv; exact List.mem_cons_self
      | succ i =>
        cases i with
        | zero => cases hv; exact absurd rfl hne
        | succ i =>
          refine List.mem_cons_of_mem _ ?_
          have := ih (k + 2) i v hv hne
          rwa [show k + 2 + i = k + (i + 1 + 1) by omega] at this
    · exact gen rfl rfl
    · exact gen rfl rfl
theorem sl_len {ad : Nat → Nat} {op : Value} (hop : op.category = 1) : ∀ as : List AV, (lg_sl (as.map (cv_ ad op))).length = (plc_ as).length := by
  intro as
  induction as with
  | nil => rfl
  | cons w r ih =>
    have hcat := cv_cat (ad := ad) hop w
    have e9 : lg_sl ((w :: r).map (cv_ ad op)) = (if (cv_ ad op w).category = 2 then [.val (cv_ ad op w), .second] else [.val (cv_ ad op w)]) ++ lg_sl (r.map (cv_ ad op)) := rfl
    rw [e9, List.length_append, ih, hcat]
    rcases w with x | x | x | x <;> (unfold acat_; simp [plc_]; try omega)
theorem Lr_entry {ad : Nat → Nat} {op : Value} (hop : op.category = 1) {as : List AV} {n : Nat} (hn : (plc_ as).length ≤ n) : Lr_ ad op n (ent_ as n) ((lg_sl (as.map (cv_ ad op)) ++ List.replicate (n - (lg_sl (as.map (cv_ ad op))).length) Slot.unset).toArray) := by
  have h1 := lv_entry (as.map (cv_ ad op)) (n := n) (by rw [sl_len hop]; exact hn)
  refine ⟨h1.1, h1.2.1, ?_, fun i v hi hv => ?_⟩
  · unfold ent_
    rw [List.length_append, List.length_replicate]
    omega
  · unfold ent_ at hi
    by_cases hl : i < (plc_ as).length
    · rw [List.getElem?_append_left hl] at hi
      have := h1.2.2 _ (plc_args (ad := ad) hop as 0 i v hi hv)
      rwa [show 0 + i = i by omega] at this
    · rw [List.getElem?_append_right (by omega), List.getElem?_replicate] at hi
      split at hi
      · cases hi; exact absurd rfl hv
      · cases hi
theorem pok_F {q : Nat} {as : List AV} {n : Nat} (hpk : pok_ q as = true) : ∀ (i : Nat) (x : Int64), (ent_ as n)[i]? = some (vJ x) → i ∈ lgs_ q := by
  intro i x hi
  unfold pok_ at hpk
  rw [Bool.and_eq_true] at hpk
  unfold ent_ at hi
  by_cases hl : i < (plc_ as).length
  · rw [List.getElem?_append_left hl] at hi
    have := List.all_eq_true.mp hpk.2 i (List.mem_range.mpr hl)
    rw [hi] at this
    simpa using this
  · rw [List.getElem?_append_right (by omega), List.getElem?_replicate] at hi
    split at hi
    · cases hi
    · cases hi
theorem ent_vc {L : Nat} {h : AH} : ∀ {as : List AV} {n : Nat}, (∀ w ∈ as, vc_ L h w) → ∀ w ∈ ent_ as n, vc_ L h w := by
  intro as n has w hw
  unfold ent_ at hw
  rcases List.mem_append.mp hw with h1 | h1
  · clear hw
    induction as with
    | nil => cases h1
    | cons v r ih =>
      have hr : ∀ w ∈ r, vc_ L h w := fun w hw => has w (List.mem_cons_of_mem _ hw)
      have gen : plc_ (v :: r) = v :: plc_ r → vc_ L h w := by
        intro h2
        rw [h2] at h1
        rcases List.mem_cons.mp h1 with rfl | h3
        · exact has _ List.mem_cons_self
        · exact ih hr h3
      rcases v with x | x | x | x
      · exact gen rfl
      · have h2 : plc_ ((.inr (.inl x) :: r) : List AV) = .inr (.inl x) :: vX 0 :: plc_ r := rfl
        rw [h2] at h1
        rcases List.mem_cons.mp h1 with rfl | h3
        · exact vcJ
        · rcases List.mem_cons.mp h3 with rfl | h4
          · exact vcX
          · exact ih hr h4
      · exact gen rfl
      · exact gen rfl
  · rw [(List.mem_replicate.mp h1).2]
    exact vcX
