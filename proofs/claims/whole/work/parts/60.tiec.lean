/-! casts: class and model find the same one -/
section TIC
variable {P : PS} {na : Nat} {F G : Nat → Nat → Int32} {σ p c : Nat} {Hs O : Nat → Int32} {f g : Nat → Nat} {o : Option (Nat × Nat)} {y : Int64}
theorem fdiff : ∀ {n : Nat}, (∀ r, r < n → f r = g r) ∨ ∃ r, r < n ∧ f r ≠ g r ∧ ∀ j, j < r → f j = g j := by
  intro n
  induction n with
  | zero => exact Or.inl (fun r hr => absurd hr (Nat.not_lt_zero _))
  | succ n ih =>
    rcases ih with h | ⟨r, h1, h2, h3⟩
    · by_cases q : f n = g n
      · left
        intro r hr
        by_cases e : r = n
        · rw [e]; exact q
        · exact h r (by omega)
      · exact Or.inr ⟨n, by omega, q, h⟩
    · exact Or.inr ⟨r, by omega, h2, h3⟩
theorem agr_up {r a j : Nat} (hj : j < r + 1) (h1 : ∀ j, j < r → agr_ (Hs j) (f j)) (h2 : f r = a + 1) : agr_ (up1_ Hs r (Int32.ofNat a) j) (f j) := by
  unfold up1_
  by_cases q : j = r
  · rw [if_pos q, q, h2]; exact Or.inr ⟨a, rfl, rfl⟩
  · rw [if_neg q]; exact h1 j (by omega)
theorem ok_of {b k r a : Nat} (hv : PV_ P) (hna : na ≤ 12) (hr : r < qr_ P p) (hf : CC_ F G P p na f) (hx : b = cw_ 8 (gm_ O) f + hc_ P p O (ms_ 8 f) (qr_ P p)) (hk : k = pc_ (ms_ 8 f)) (h1 : ∀ j, j < r → agr_ (Hs j) (f j)) (h2 : f r = a + 1) : a < na ∧ okc_ F G P p O na b k Hs r a := by
  obtain ⟨o1, o2, o3⟩ := Val_own hf.1 (show f r ≠ 0 by omega)
  rw [h2] at o2 o3
  rw [show a + 1 - 1 = a by omega] at o2 o3
  refine ⟨o2, ?_, (EL_iff hv hna (by omega)).mpr ⟨f, hf, fun j hj => agr_up hj h1 h2, hx, hk⟩⟩
  unfold cm_ at o3
  exact (Bool.and_eq_true_iff.mp o3).2
theorem tie_all {b k : Nat} (hv : PV_ P) (hna : na ≤ 12) (h0 : EL_ F G P p 0 Hs O na (2 ^ qr_ P p) b k) (hfc : ∀ r, r < qr_ P p → fc_ F G P p O na b k Hs r) : ∀ σ, σ ≤ qr_ P p → EL_ F G P p σ Hs O na (2 ^ qr_ P p) b k := by
  intro σ
  induction σ with
  | zero => intro _; exact h0
  | succ σ ih =>
    intro hσ
    rcases hfc σ (by omega) with ⟨a, h1, h2, h3, h4⟩ | ⟨h1, h2⟩
    · exact (EL_congr (fun j hj => by
        unfold up1_
        by_cases q : j = σ
        · rw [if_pos q, q, h2]
        · rw [if_neg q])).mp h3.2
    · obtain ⟨f, g1, g2, g3, g4⟩ := (EL_iff hv hna (by omega)).mp (ih (by omega))
      refine (EL_iff hv hna hσ).mpr ⟨f, g1, fun r hr => ?_, g3, g4⟩
      by_cases q : r = σ
      · rw [q]
        cases hfe : f σ with
        | zero => exact Or.inl ⟨rfl, h1⟩
        | succ a =>
          obtain ⟨e1, e2⟩ := ok_of hv hna (show σ < qr_ P p by omega) g1 g3 g4 g2 hfe
          exact absurd e2 (h2 a e1)
      · exact g2 r (by omega)
theorem tie (hv : PV_ P) (hna : na ≤ 12) (hO : OC_ c (qr_ P p) O) (hy : LX_ y (BS_ F G P na p c)) (hR : CR_ F G P p na O o Hs) : (o = none → y = -1) ∧ (∀ b k, o = some (b, k) → y ≠ -1 ∧ ∃ f, CC_ F G P p na f ∧ (∀ r, r < qr_ P p → agr_ (Hs r) (f r)) ∧ y = Int64.ofNat (cw_ 8 (gw_ c) f) ∧ fl_ f 8 = k ∧ b + kp_ c f 8 = co_ O) := by
  have h8 := hv.2.2.1 p
  obtain ⟨hB, hC⟩ := hR
  have hbd : ∀ v, BS_ F G P na p c v → v < 9223372036854775808 := fun v hvv => by
    obtain ⟨f, -, rfl⟩ := (BS_iff hv).mp hvv
    have := cw_bd (c := c) (f := f)
    omega
  have hf12 : ∀ f, CC_ F G P p na f → ∀ r, f r ≤ 12 := fun f hf r => by have := hf.1.2.1 r; omega
  have hE0 : ∀ f, CC_ F G P p na f → EL_ F G P p 0 Hs O na (2 ^ qr_ P p) (cw_ 8 (gm_ O) f + hc_ P p O (ms_ 8 f) (qr_ P p)) (fl_ f 8) := fun f hf => (EL_iff hv hna (Nat.zero_le _)).mpr ⟨f, hf, fun r hr => absurd hr (Nat.not_lt_zero _), rfl, pc_ms.symm⟩
  refine ⟨fun e => ?_, fun b k e => ?_⟩
  · rw [e] at hB
    refine (hy.m1 hbd).mpr (fun v hvv => ?_)
    obtain ⟨f, hf, -⟩ := (BS_iff hv).mp hvv
    exact hB _ _ (hE0 f hf)
  · rw [e] at hB
    obtain ⟨-, -, hfc⟩ := hC b k e
    obtain ⟨f, f1, f2, f3, f4⟩ := (EL_iff hv hna (Nat.le_refl _)).mp (tie_all hv hna hB.1 hfc (qr_ P p) (Nat.le_refl _))
    have hk : fl_ f 8 = k := by rw [f4, pc_ms]
    have hb : b + kp_ c f 8 = co_ O := by rw [f3]; exact hands_eq h8 hO (hf12 f f1)
    have hmax : ∀ g, CC_ F G P p na g → cw_ 8 (gw_ c) g ≤ cw_ 8 (gw_ c) f := by
      intro g hg
      have e1 := hands_eq h8 hO (hf12 g hg)
      have e2 := hB.2 _ _ (hE0 g hg)
      have d1 := dig_lt8 (f := f)
      have d2 := dig_lt8 (f := g)
      have l1 := fl_le (f := f) (n := 8)
      have l2 := fl_le (f := g) (n := 8)
      rw [cw_split, cw_split]
      by_cases q : kp_ c g 8 = kp_ c f 8 ∧ fl_ g 8 = fl_ f 8
      · have hxg : b = cw_ 8 (gm_ O) g + hc_ P p O (ms_ 8 g) (qr_ P p) := by omega
        have hkg : k = pc_ (ms_ 8 g) := by rw [pc_ms]; omega
        rcases fdiff (f := f) (g := g) (n := 8) with hall | ⟨r, r1, r2, r3⟩
        · have : dig_ f 8 = dig_ g 8 := by
            unfold dig_
            apply sm_congr
            intro r hr
            rw [hall r hr]
          omega
        · have hrq : r < qr_ P p := by
            by_cases z : f r = 0
            · have hgr : g r ≠ 0 := fun e => r2 (by rw [z, e])
              obtain ⟨-, -, o3⟩ := Val_own hg.1 hgr
              unfold cm_ at o3
              exact of_decide_eq_true (Bool.and_eq_true_iff.mp o3).1
            · obtain ⟨-, -, o3⟩ := Val_own f1.1 z
              unfold cm_ at o3
              exact of_decide_eq_true (Bool.and_eq_true_iff.mp o3).1
          have hag : ∀ j, j < r → agr_ (Hs j) (g j) := fun j hj => by rw [← r3 j hj]; exact f2 j (by omega)
          have hlt : dd_ (g r) < dd_ (f r) := by
            have hfr := hf12 f f1 r
            have hgr := hf12 g hg r
            rcases hfc r hrq with ⟨a, a1, a2, a3, a4⟩ | ⟨a1, a2⟩
            · have hfa : f r = a + 1 := by
                rcases f2 r hrq with ⟨z1, z2⟩ | ⟨b', z1, z2⟩
                · rw [a2] at z2; exact absurd z2 (w_nm1 (by omega))
                · rw [a2] at z2
                  have := (w_eq (by omega) (by omega)).mp z2
                  omega
              cases hga : g r with
              | zero => rw [hfa]; unfold dd_; rw [if_pos rfl, if_neg (by omega)]; omega
              | succ a' =>
                obtain ⟨e3, e4⟩ := ok_of hv hna hrq hg hxg hkg hag hga
                have : ¬ (a' < a) := fun z => a4 a' z e4
                rw [hfa]; unfold dd_; rw [if_neg (by omega), if_neg (by omega)]; omega
            · have hfa : f r = 0 := by
                rcases f2 r hrq with ⟨z1, z2⟩ | ⟨b', z1, z2⟩
                · exact z1
                · rw [a1] at z2; exact absurd z2.symm (w_nm1 (by omega))
              cases hga : g r with
              | zero => exact absurd (by rw [hfa, hga]) r2
              | succ a' =>
                obtain ⟨e3, e4⟩ := ok_of hv hna hrq hg hxg hkg hag hga
                exact absurd e4 (a2 a' e3)
          have := dig_cmp r1 r3 hlt
          omega
      · omega
    have hS : BS_ F G P na p c (cw_ 8 (gw_ c) f) := (BS_iff hv).mpr ⟨f, f1, rfl⟩
    refine ⟨fun z => (hy.m1 hbd).mp z _ hS, f, f1, f2, ?_, hk, hb⟩
    obtain ⟨o', rfl, hM⟩ := hy
    have : Mx_ (some (cw_ 8 (gw_ c) f)) (BS_ F G P na p c) := ⟨hS, fun v hvv => by
      obtain ⟨g, hg, rfl⟩ := (BS_iff hv).mp hvv
      exact hmax g hg⟩
    rw [hM.uniq this]
    rfl
end TIC
