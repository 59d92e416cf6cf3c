/-! plain instructions: the small machine's step is the machine's -/
section PLN
variable {p : Program} {l : Launch} {e : Env} {R : Room} {s : State} {m : MethodId} {args : Array Value} {below : List Frame} {meth : Method} {c : Code} {dC : Nat → ClassId} {dI : Nat → Nat → Nat} {cy : Nat → ClassId} {op : Value} {B0 L : Nat} {xs : Nat → Int32} {ad0 : Nat → Nat} {n0 s0 : Nat} {Q : State → Prop} {q pc len : Nat} {ls st ls' st' : List AV} {h : AH} {i : Instr} {v : AV}
theorem vcI {x : Int32} : vc_ L h (.inl x) := fun b hb => by cases hb
theorem vcJ {x : Int64} : vc_ L h (.inr (.inl x)) := fun b hb => by cases hb
theorem vcN : vc_ L h (.inr (.inr (.inl none))) := fun b hb => by cases hb
theorem vcX {n : Nat} : vc_ L h (.inr (.inr (.inr n))) := fun b hb => by cases hb
theorem lok_eq {n : Nat} (hk : (len == n) = true) : len = n := by simpa using hk
theorem all_cons {P : AV → Prop} (h1 : P v) (h2 : ∀ w ∈ st, P w) : ∀ w ∈ v :: st, P w := fun w hw => (List.mem_cons.mp hw).elim (fun z => z ▸ h1) (h2 w)
theorem sd_exc (C : Cx_ p l R s m args meth c dC dI cy op B0 L xs q) (hd : decode (cod_ q) pc = .ok (i, len)) (hk : lok_ i len = true) (hv : exc_ i = some v) (K : Sm_ p l e R s m args below meth c dC dI cy op B0 L xs ad0 n0 s0 Q q (pc + len) ls (v :: st) h) : Sm_ p l e R s m args below meth c dC dI cy op B0 L xs ad0 n0 s0 Q q pc ls st h := by
  obtain ⟨⟨hx, hb, hml, ho, ht⟩, hK0, hB, hlk, hrt, hnm, hst⟩ := C
  intro ad la H locs e1 hR hKC hL hc1 hc2 hF hS hn hs
  have hvc : vc_ L h v := by
    cases i <;> first | (cases hv; done) | (cases hv; intro b hb; cases hb)
  have k := K ad la H locs e1 hR hKC hL hc1 (all_cons hvc hc2) hF hS hn hs
  cases i <;> first | (cases hv; done) | skip
  case aconst_null => cases lok_eq hk; cases hv; exact lv_null hx hb hd k
  case bipush n => cases lok_eq hk; cases hv; exact lv_bipush hx hb hd rfl k
  case iconst n => cases lok_eq hk; cases hv; exact lv_iconst hx hb hd rfl k
  case lconst n => cases lok_eq hk; cases hv; exact lv_lconst hx hb hd rfl k
  case sipush n => cases lok_eq hk; cases hv; exact lv_sipush hx hb hd rfl k
theorem ldI_eq {k : Nat} (hv : ldI_ ls k = some v) : ∃ x, v = .inl x ∧ ls[k]? = some (.inl x) := by
  unfold ldI_ at hv
  split at hv
  · cases hv; exact ⟨_, rfl, by assumption⟩
  · cases hv
theorem ldL_eq {k : Nat} (hv : ldL_ ls k = some v) : ∃ x, v = .inr (.inl x) ∧ ls[k]? = some (.inr (.inl x)) := by
  unfold ldL_ at hv
  split at hv
  · cases hv; exact ⟨_, rfl, by assumption⟩
  · cases hv
theorem ldA_eq {k : Nat} (hv : ldA_ ls k = some v) : ∃ x, v = .inr (.inr (.inl x)) ∧ ls[k]? = some (.inr (.inr (.inl x))) := by
  unfold ldA_ at hv
  split at hv
  · cases hv; exact ⟨_, rfl, by assumption⟩
  · cases hv
theorem sd_exl (C : Cx_ p l R s m args meth c dC dI cy op B0 L xs q) (hd : decode (cod_ q) pc = .ok (i, len)) (hk : lok_ i len = true) (hv : exl_ i ls = some v) (K : Sm_ p l e R s m args below meth c dC dI cy op B0 L xs ad0 n0 s0 Q q (pc + len) ls (v :: st) h) : Sm_ p l e R s m args below meth c dC dI cy op B0 L xs ad0 n0 s0 Q q pc ls st h := by
  obtain ⟨⟨hx, hb, hml, ho, ht⟩, hK0, hB, hlk, hrt, hnm, hst⟩ := C
  intro ad la H locs e1 hR hKC hL hc1 hc2 hF hS hn hs
  have hin : v ∈ ls := by
    cases i <;> first | (cases hv; done) | (obtain ⟨x, rfl, hg⟩ := ldI_eq hv; exact List.mem_of_getElem? hg) | (obtain ⟨x, rfl, hg⟩ := ldL_eq hv; exact List.mem_of_getElem? hg) | (obtain ⟨x, rfl, hg⟩ := ldA_eq hv; exact List.mem_of_getElem? hg)
  have k := K ad la H locs e1 hR hKC hL hc1 (all_cons (hc1 v hin) hc2) hF hS hn hs
  cases i <;> first | (cases hv; done) | skip
  case iload n => cases lok_eq hk; obtain ⟨x, rfl, hg⟩ := ldI_eq hv; exact lv_iload hx hb hd (hL.2.2.2 _ _ hg (by intro z; cases z)) k
  case iload_n n => cases lok_eq hk; obtain ⟨x, rfl, hg⟩ := ldI_eq hv; exact lv_iload_n hx hb hd rfl (hL.2.2.2 _ _ hg (by intro z; cases z)) k
  case lload n => cases lok_eq hk; obtain ⟨x, rfl, hg⟩ := ldL_eq hv; exact lv_lload hx hb hd (hL.2.2.2 _ _ hg (by intro z; cases z)) k
  case lload_n n => cases lok_eq hk; obtain ⟨x, rfl, hg⟩ := ldL_eq hv; exact lv_lload_n hx hb hd rfl (hL.2.2.2 _ _ hg (by intro z; cases z)) k
  case aload n =>
    cases lok_eq hk
    obtain ⟨x, rfl, hg⟩ := ldA_eq hv
    cases x with
    | none => exact lv_aloadN hx hb hd (hL.2.2.2 _ _ hg (by intro z; cases z)) k
    | some x => exact lv_aload hx hb hd (hL.2.2.2 _ _ hg (by intro z; cases z)) k
  case aload_n n =>
    cases lok_eq hk
    obtain ⟨x, rfl, hg⟩ := ldA_eq hv
    cases x with
    | none => exact lv_aload_nN hx hb hd rfl (hL.2.2.2 _ _ hg (by intro z; cases z)) k
    | some x => exact lv_aload_n hx hb hd rfl (hL.2.2.2 _ _ hg (by intro z; cases z)) k
theorem bI_eq {f : Int32 → Int32 → Int32} (hv : bI_ f st = some st') : ∃ x y r, st = .inl y :: .inl x :: r ∧ st' = .inl (f x y) :: r := by
  unfold bI_ at hv
  split at hv
  · cases hv; exact ⟨_, _, _, rfl, rfl⟩
  · cases hv
theorem bL_eq {f : Int64 → Int64 → Int64} (hv : bL_ f st = some st') : ∃ x y r, st = .inr (.inl y) :: .inr (.inl x) :: r ∧ st' = .inr (.inl (f x y)) :: r := by
  unfold bL_ at hv
  split at hv
  · cases hv; exact ⟨_, _, _, rfl, rfl⟩
  · cases hv
theorem exa_mem (hv : exa_ i st = some st') : ∀ w ∈ st', w ∈ st ∨ ∀ b, w ≠ .inr (.inr (.inl (some b))) := by
  intro w hw
  unfold exa_ at hv
  split at hv
  all_goals first
    | (obtain ⟨x, y, r, rfl, rfl⟩ := bI_eq hv; rcases List.mem_cons.mp hw with rfl | hw <;> first | (right; intro b z; cases z; done) | (left; simp [hw]))
    | (obtain ⟨x, y, r, rfl, rfl⟩ := bL_eq hv; rcases List.mem_cons.mp hw with rfl | hw <;> first | (right; intro b z; cases z; done) | (left; simp [hw]))
    | (split at hv <;> first
        | (cases hv; done)
        | (cases hv; rcases List.mem_cons.mp hw with rfl | hw <;> first | (right; intro b z; cases z; done) | (left; simp [hw]))
        | (split at hv <;> first
            | (cases hv; done)
            | (cases hv; rcases List.mem_cons.mp hw with rfl | hw <;> first | (right; intro b z; cases z; done) | (left; simp [hw]; done))
            | (cases hv; left; simp at hw ⊢; first | exact hw | (rcases hw with rfl | rfl | hw <;> simp_all) | (rcases hw with rfl | rfl | rfl | hw <;> simp_all) | (rcases hw with rfl | rfl | rfl | rfl | hw <;> simp_all) | simp_all)))
    | (cases hv; done)
end PLN
