/-! V: the small machine comes to an end with Q; its rules -/
def V_ (xs : Nat → Int32) (d m pc : Nat) (ls st : List AV) (h : AH) (Q : OU_ → AH → Prop) : Prop := ∃ (n : Nat) (o : OU_) (h' : AH), run_ xs n d m pc ls st h = some (o, h') ∧ Q o h'
theorem cal_le {rn rn' : Nat → Nat → Nat → List AV → List AV → AH → Option (OU_ × AH)} (H : ∀ d d' m pc ls st h r, d ≤ d' → rn d m pc ls st h = some r → rn' d' m pc ls st h = some r) {d d' m pc : Nat} {ls st : List AV} {h : AH} {c : Option (Nat × Nat × Nat)} {ct : Nat} {r : OU_ × AH} (hd : d ≤ d') (hc : cal_ rn d m pc ls st h c ct = some r) : cal_ rn' d' m pc ls st h c ct = some r := by
  unfold cal_ at hc ⊢
  cases c with
  | none => cases hc
  | some c =>
    obtain ⟨q, j, nst⟩ := c
    dsimp only at hc ⊢
    by_cases hq : q = 1000
    · rw [if_pos hq] at hc ⊢
      split at hc
      · split at hc
        · rename_i hh
          rw [if_pos ⟨hh.1, hh.2.1, hh.2.2.1, Nat.lt_of_lt_of_le hh.2.2.2 hd⟩]
          exact H _ _ _ _ _ _ _ _ hd hc
        · cases hc
      · cases hc
    · rw [if_neg hq] at hc ⊢
      cases d with
      | zero => cases hc
      | succ d =>
        cases d' with
        | zero => omega
        | succ d' =>
          have hd' : d ≤ d' := by omega
          dsimp only at hc ⊢
          split at hc
          · rename_i hh
            rw [if_pos hh]
            cases hr : rn d q 0 (ent_ (st.take (nar_ q)).reverse (mxl_ q)) [] h with
            | none => rw [hr] at hc; cases hc
            | some r1 =>
              rw [hr] at hc
              rw [H _ _ _ _ _ _ _ _ hd' hr]
              obtain ⟨o, h'⟩ := r1
              cases o with
              | none =>
                dsimp only at hc ⊢
                split at hc
                · exact H _ _ _ _ _ _ _ _ hd hc
                · cases hc
              | some o =>
                cases o with
                | none => exact H _ _ _ _ _ _ _ _ hd hc
                | some v => exact H _ _ _ _ _ _ _ _ hd hc
          · cases hc
theorem run_le {xs : Nat → Int32} : ∀ (n n' d d' m pc : Nat) (ls st : List AV) (h : AH) (r : OU_ × AH), n ≤ n' → d ≤ d' → run_ xs n d m pc ls st h = some r → run_ xs n' d' m pc ls st h = some r := by
  intro n
  induction n with
  | zero => intro n' d d' m pc ls st h r _ _ hr; unfold run_ at hr; cases hr
  | succ n ih =>
    intro n' d d' m pc ls st h r hn hd hr
    cases n' with
    | zero => omega
    | succ n' =>
      have hn' : n ≤ n' := by omega
      have H : ∀ d d' m pc ls st h r, d ≤ d' → run_ xs n d m pc ls st h = some r → run_ xs n' d' m pc ls st h = some r := fun d d' m pc ls st h r q1 q2 => ih n' d d' m pc ls st h r hn' q1 q2
      unfold run_ at hr ⊢
      cases hdc : decode (cod_ m) pc with
      | error e => rw [hdc] at hr; cases hr
      | ok il =>
        obtain ⟨i, len⟩ := il
        rw [hdc] at hr
        dsimp only at hr ⊢
        by_cases hk : lok_ i len = true
        · rw [if_pos hk] at hr ⊢
          split at hr <;> first | exact hr | exact cal_le H hd hr | skip
          split at hr
          · rename_i ht
            rw [if_pos ht]
            exact hr
          · rename_i ht
            rw [if_neg ht]
            split at hr
            · exact H _ _ _ _ _ _ _ _ hd hr
            · cases hr
        · rw [if_neg hk] at hr
          cases hr
theorem V_le {xs : Nat → Int32} {d d' m pc : Nat} {ls st : List AV} {h : AH} {Q : OU_ → AH → Prop} (hd : d ≤ d') (hv : V_ xs d m pc ls st h Q) : V_ xs d' m pc ls st h Q := by
  obtain ⟨n, o, h', h1, h2⟩ := hv
  exact ⟨n, o, h', run_le n n d d' m pc ls st h _ (Nat.le_refl _) hd h1, h2⟩
theorem V_mono {xs : Nat → Int32} {d m pc : Nat} {ls st : List AV} {h : AH} {Q Q' : OU_ → AH → Prop} (hv : V_ xs d m pc ls st h Q) (hq : ∀ o h', Q o h' → Q' o h') : V_ xs d m pc ls st h Q' := by
  obtain ⟨n, o, h', h1, h2⟩ := hv
  exact ⟨n, o, h', h1, hq _ _ h2⟩
/-- an instruction that is no return and no call -/
def pln_ (i : Instr) : Bool := match i with
  | .ireturn => false
  | .lreturn => false
  | .areturn => false
  | .return_ => false
  | .invokestatic _ => false
  | .invokevirtual _ => false
  | .invokespecial _ => false
  | _ => true
theorem run_pln {xs : Nat → Int32} {n d m pc len : Nat} {i : Instr} {ls st : List AV} {h : AH} (hd : decode (cod_ m) pc = .ok (i, len)) (hk : lok_ i len = true) (hp : pln_ i = true) (ht : thr_ m pc = false) : run_ xs (n + 1) d m pc ls st h = (match ex_ xs m pc len i ls st h with
        | some (pc', ls', st', h') => run_ xs n d m pc' ls' st' h'
        | none => none) := by
  conv => lhs; unfold run_
  rw [hd]
  dsimp only
  rw [if_pos hk]
  cases i <;> first | (cases hp; done) | (dsimp only; rw [ht]; rfl)
theorem V_ex {xs : Nat → Int32} {d m pc len : Nat} {i : Instr} {ls st : List AV} {h : AH} {Q : OU_ → AH → Prop} {pc' : Nat} {ls' st' : List AV} {h' : AH} (hd : decode (cod_ m) pc = .ok (i, len)) (hk : lok_ i len = true) (hp : pln_ i = true) (ht : thr_ m pc = false) (he : ex_ xs m pc len i ls st h = some (pc', ls', st', h')) : V_ xs d m pc ls st h Q ↔ V_ xs d m pc' ls' st' h' Q := by
  constructor
  · rintro ⟨n, o, hh, h1, h2⟩
    cases n with
    | zero => unfold run_ at h1; cases h1
    | succ n =>
      rw [run_pln hd hk hp ht, he] at h1
      exact ⟨n, o, hh, h1, h2⟩
  · rintro ⟨n, o, hh, h1, h2⟩
    exact ⟨n + 1, o, hh, by rw [run_pln hd hk hp ht, he]; exact h1, h2⟩
theorem V_exN {xs : Nat → Int32} {d m pc len : Nat} {i : Instr} {ls st : List AV} {h : AH} {Q : OU_ → AH → Prop} (hd : decode (cod_ m) pc = .ok (i, len)) (hk : lok_ i len = true) (hp : pln_ i = true) (ht : thr_ m pc = false) (he : ex_ xs m pc len i ls st h = none) : V_ xs d m pc ls st h Q ↔ False := by
  constructor
  · rintro ⟨n, o, hh, h1, h2⟩
    cases n with
    | zero => unfold run_ at h1; cases h1
    | succ n =>
      rw [run_pln hd hk hp ht, he] at h1
      cases h1
  · exact False.elim
theorem thr_no {m pc len : Nat} {i : Instr} (hd : decode (cod_ m) pc = .ok (i, len)) (hn : ∀ x, i ≠ .new x) : thr_ m pc = false := by
  unfold thr_
  rw [hd]
  split
  · rename_i e1 e2 e3 e4
    cases e1
    exact absurd rfl (hn _)
  · rfl
/-- one step of the machine, whatever it is -/
theorem V_one {xs : Nat → Int32} {d m pc : Nat} {ls st : List AV} {h : AH} {Q : OU_ → AH → Prop} : V_ xs d m pc ls st h Q ↔ ∃ n o h', run_ xs (n + 1) d m pc ls st h = some (o, h') ∧ Q o h' := by
  constructor
  · rintro ⟨n, o, hh, h1, h2⟩
    exact ⟨n, o, hh, run_le n (n + 1) d d m pc ls st h _ (by omega) (Nat.le_refl _) h1, h2⟩
  · rintro ⟨n, o, hh, h1, h2⟩
    exact ⟨n + 1, o, hh, h1, h2⟩
theorem V_iret {xs : Nat → Int32} {d m pc : Nat} {ls : List AV} {h : AH} {Q : OU_ → AH → Prop} {x : Int32} (hd : decode (cod_ m) pc = .ok (.ireturn, 1)) : V_ xs d m pc ls [.inl x] h Q ↔ (rb_ (rty_ m) x = true ∧ Q (some (some (.inl x))) h) := by
  rw [V_one]
  unfold run_
  rw [hd]
  constructor
  · rintro ⟨n, o, hh, h1, h2⟩
    dsimp only at h1
    rw [if_pos (show lok_ .ireturn 1 = true from rfl)] at h1
    split at h1
    · rename_i hr
      cases h1
      exact ⟨hr, h2⟩
    · cases h1
  · rintro ⟨h1, h2⟩
    exact ⟨0, _, _, by dsimp only; rw [if_pos (show lok_ .ireturn 1 = true from rfl), if_pos h1], h2⟩
theorem V_lret {xs : Nat → Int32} {d m pc : Nat} {ls : List AV} {h : AH} {Q : OU_ → AH → Prop} {x : Int64} (hd : decode (cod_ m) pc = .ok (.lreturn, 1)) (hr : rty_ m = some .long) : V_ xs d m pc ls [.inr (.inl x)] h Q ↔ Q (some (some (.inr (.inl x)))) h := by
  rw [V_one]
  unfold run_
  rw [hd]
  constructor
  · rintro ⟨n, o, hh, h1, h2⟩
    dsimp only at h1
    rw [if_pos (show lok_ .lreturn 1 = true from rfl)] at h1
    rw [if_pos hr] at h1
    cases h1
    exact h2
  · intro h2
    exact ⟨0, _, _, by dsimp only; rw [if_pos (show lok_ .lreturn 1 = true from rfl), if_pos hr], h2⟩
theorem V_aret {xs : Nat → Int32} {d m pc : Nat} {ls : List AV} {h : AH} {Q : OU_ → AH → Prop} {x : Option Nat} {c : String} (hd : decode (cod_ m) pc = .ok (.areturn, 1)) (hr : rty_ m = some (.object c)) : V_ xs d m pc ls [.inr (.inr (.inl x))] h Q ↔ Q (some (some (.inr (.inr (.inl x))))) h := by
  rw [V_one]
  unfold run_
  rw [hd]
  constructor
  · rintro ⟨n, o, hh, h1, h2⟩
    dsimp only at h1
    rw [if_pos (show lok_ .areturn 1 = true from rfl)] at h1
    rw [hr] at h1
    cases h1
    exact h2
  · intro h2
    exact ⟨0, _, _, by dsimp only; rw [if_pos (show lok_ .areturn 1 = true from rfl), hr], h2⟩
theorem V_vret {xs : Nat → Int32} {d m pc : Nat} {ls : List AV} {h : AH} {Q : OU_ → AH → Prop} (hd : decode (cod_ m) pc = .ok (.return_, 1)) (hr : rty_ m = none) : V_ xs d m pc ls [] h Q ↔ Q (some none) h := by
  rw [V_one]
  unfold run_
  rw [hd]
  constructor
  · rintro ⟨n, o, hh, h1, h2⟩
    dsimp only at h1
    rw [if_pos (show lok_ .return_ 1 = true from rfl)] at h1
    rw [if_pos hr] at h1
    cases h1
    exact h2
  · intro h2
    exact ⟨0, _, _, by dsimp only; rw [if_pos (show lok_ .return_ 1 = true from rfl), if_pos hr], h2⟩
/-- what goes on behind a call (pc: the place behind it) -/
def K_ (xs : Nat → Int32) (d m pc : Nat) (ls st : List AV) (Q : OU_ → AH → Prop) : OU_ → AH → Prop := fun o h' => match o with
  | some (some v) => V_ xs d m pc ls (v :: st) h' Q
  | some none => V_ xs d m pc ls st h' Q
  | none => match hnd_ m (pc - 3) with
    | some pc' => V_ xs d m pc' ls [.inr (.inr (.inl (some (mk_ (nx_ h' - 1) 40 0))))] h' Q
    | none => False
theorem V_cal {xs : Nat → Int32} {d m pc : Nat} {ls st : List AV} {h : AH} {Q : OU_ → AH → Prop} {q j z ct : Nat} (h1 : ∀ n, run_ xs (n + 1) d m pc ls st h = cal_ (run_ xs n) d m pc ls st h (some (q, j, z)) ct) (hq : q < 200) (hc : cty_ ct q = true) (hn : nar_ q ≤ st.length) (hpk : pok_ q (st.take (nar_ q)).reverse = true) :
    V_ xs d m pc ls st h Q ↔ (0 < d ∧ ((st.drop (nar_ q)).map acat_).sum ≤ 8 ∧ rok_ (rcv_ q) st (nar_ q) = true ∧ V_ xs (d - 1) q 0 (ent_ (st.take (nar_ q)).reverse (mxl_ q)) [] h (K_ xs d m (pc + 3) ls (st.drop (nar_ q)) Q)) := by
  rw [V_one]
  simp only [h1]
  have hq' : ¬ q = 1000 := by omega
  constructor
  · rintro ⟨n, o, hh, h2, h3⟩
    unfold cal_ at h2
    dsimp only at h2
    rw [if_neg hq'] at h2
    cases d with
    | zero => cases h2
    | succ d =>
      dsimp only at h2
      split at h2
      · rename_i hok
        refine ⟨by omega, hok.2.2.1, hok.2.2.2.1, ?_⟩
        rw [show d + 1 - 1 = d by omega]
        split at h2
        · rename_i v h' hr
          exact ⟨n, _, _, hr, n, o, hh, h2, h3⟩
        · rename_i h' hr
          exact ⟨n, _, _, hr, n, o, hh, h2, h3⟩
        · rename_i h' hr
          refine ⟨n, _, _, hr, ?_⟩
          show (match hnd_ m (pc + 3 - 3) with
            | some pc' => V_ xs (d + 1) m pc' ls [.inr (.inr (.inl (some (mk_ (nx_ h' - 1) 40 0))))] h' Q
            | none => False)
          rw [show pc + 3 - 3 = pc by omega]
          split at h2
          · rename_i pc' he
            rw [he]
            exact ⟨n, o, hh, h2, h3⟩
          · cases h2
        · cases h2
      · cases h2
  · rintro ⟨h0, hs, hr, hv⟩
    cases d with
    | zero => omega
    | succ d =>
      rw [show d + 1 - 1 = d by omega] at hv
      obtain ⟨n, o, h', g1, g2⟩ := hv
      have fin : ∀ {pc' : Nat} {st' : List AV}, V_ xs (d + 1) m pc' ls st' h' Q → ∃ n' o' h'', n ≤ n' ∧ run_ xs n' (d + 1) m pc' ls st' h' = some (o', h'') ∧ Q o' h'' := by
        rintro pc' st' ⟨n2, o2, h2, k1, k2⟩
        exact ⟨max n n2, o2, h2, by omega, run_le n2 _ _ _ _ _ _ _ _ _ (by omega) (Nat.le_refl _) k1, k2⟩
      have hok : q < 200 ∧ nar_ q ≤ st.length ∧ ((st.drop (nar_ q)).map acat_).sum ≤ 8 ∧ rok_ (rcv_ q) st (nar_ q) = true ∧ cty_ ct q = true ∧ pok_ q (st.take (nar_ q)).reverse = true := ⟨hq, hn, hs, hr, hc, hpk⟩
      have go : ∀ {n' : Nat}, n ≤ n' → run_ xs n' d q 0 (ent_ (st.take (nar_ q)).reverse (mxl_ q)) [] h = some (o, h') := fun hnn => run_le n _ _ _ _ _ _ _ _ _ hnn (Nat.le_refl _) g1
      cases o with
      | none =>
        have g3 : (match hnd_ m (pc + 3 - 3) with
            | some pc' => V_ xs (d + 1) m pc' ls [.inr (.inr (.inl (some (mk_ (nx_ h' - 1) 40 0))))] h' Q
            | none => False) := g2
        rw [show pc + 3 - 3 = pc by omega] at g3
        cases hh : hnd_ m pc with
        | none => rw [hh] at g3; exact g3.elim
        | some pc' =>
          rw [hh] at g3
          obtain ⟨n', o', h'', k0, k1, k2⟩ := fin g3
          refine ⟨n', o', h'', ?_, k2⟩
          unfold cal_
          dsimp only
          rw [if_neg hq', if_pos hok, go k0]
          dsimp only
          rw [hh]
          exact k1
      | some o =>
        cases o with
        | none =>
          obtain ⟨n', o', h'', k0, k1, k2⟩ := fin (pc' := pc + 3) (st' := st.drop (nar_ q)) g2
          refine ⟨n', o', h'', ?_, k2⟩
          unfold cal_
          dsimp only
          rw [if_neg hq', if_pos hok, go k0]
          exact k1
        | some v =>
          obtain ⟨n', o', h'', k0, k1, k2⟩ := fin (pc' := pc + 3) (st' := v :: st.drop (nar_ q)) g2
          refine ⟨n', o', h'', ?_, k2⟩
          unfold cal_
          dsimp only
          rw [if_neg hq', if_pos hok, go k0]
          exact k1
