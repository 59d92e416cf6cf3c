/-! the two sides, call by call -/
def PUR_ (na : Nat) (F : Nat → Nat → Int32) (P : PS) (tl : Nat) (T : Nat → Int32) (hp : Option Nat) (Hd : Nat → Int32) (c : Nat) (L : List Trm_) : Prop := PD_ P ∧ PB_ P ∧ (∀ i, i < na → (F i 3 = 0 ∨ F i 3 = 1) ∧ (F i 4 = 0 ∨ F i 4 = 1)) ∧ (∀ i, i < tl → nb_ 4 (T i) = true) ∧ TL_ L ∧ c < 9223372036854775808 ∧ (hp = none → OC_ c 0 Hd) ∧ (∀ p, hp = some p → p < qn_ P ∧ OC_ c (qr_ P p) Hd ∧ (us_ (Int64.ofNat c) 32).toInt32 &&& 15 = Int32.ofNat (co_ Hd))
def IV_ (n : Nat) (h : AH) : Prop := ∃ (na : Nat) (F G : Nat → Nat → Int32) (P : PS) (nf : Nat) (Lf : Nat → Nat → Int32) (tl : Nat) (T : Nat → Int32) (hp : Option Nat) (Hd : Nat → Int32) (c wn : Nat) (Od : Nat → Int32) (L : List Trm_), CLS_ na F G P nf Lf tl T hp c wn Od L h ∧ MOD_ na F G P nf Lf tl T hp Hd wn Od L h ∧ PUR_ na F P tl T hp Hd c L ∧ nx_ h ≤ 164 + 4 * n ∧ sl_ h ≤ 100000 + 29 * n
def OK2_ (xs : Nat → Int32) (d mx : Nat) (ax : List AV) (mm : Nat) (am : List AV) (n : Nat) (h : AH) : Prop := ∃ res h1 h2, Do_ xs d mx ax h (some (some (vI res))) h1 ∧ Do_ xs d mm am h1 (some (some (vI res))) h2 ∧ IV_ (n + 1) h2
theorem HC_.of {P : PS} {hp : Option Nat} {Hd : Nat → Int32} {c : Nat} (h1 : c < 9223372036854775808) (h2 : hp = none → OC_ c 0 Hd) (h3 : ∀ p, hp = some p → OC_ c (qr_ P p) Hd) : HC_ hp Hd c := by
  refine ⟨h1, ?_⟩
  cases hp with
  | none => rw [if_pos rfl]; exact h2 rfl
  | some p =>
    rw [if_neg (by intro z; cases z)]
    exact ⟨(h3 p rfl).1, fun r q1 q2 => by omega⟩
theorem fixn {W : List Nat} (hW : ∀ a ∈ W, 164 ≤ sr_ a) {b : Nat} (hb : sr_ b < 164) : b ∉ W := fun z => by have := hW b z; omega
section OPS
variable {xs : Nat → Int32} {d n : Nat} {h : AH}
/-- a call of the model that only says that nothing was thrown -/
theorem MOD_.u0 {na : Nat} {F G : Nat → Nat → Int32} {P : PS} {nf : Nat} {Lf : Nat → Nat → Int32} {tl : Nat} {T : Nat → Int32} {hp : Option Nat} {Hd : Nat → Int32} {wn : Nat} {Od : Nat → Int32} {L : List Trm_} {v : Int32} (H : MOD_ na F G P nf Lf tl T hp Hd wn Od L h) : MOD_ na F G P nf Lf tl T hp Hd wn Od L (uI_ h 33554440 (st_ (hI_ h 33554440) 0 v)) ∧ CK_ h (uI_ h 33554440 (st_ (hI_ h 33554440) 0 v)) := by
  have f : FM_ [] [0] h (uI_ h 33554440 (st_ (hI_ h 33554440) 0 v)) := FM_.rf.uM (by decide)
  obtain ⟨m1, m2, m3, m4, m5, m6, m7, m8, m9⟩ := H
  exact ⟨⟨f.MS m1, m2.wf f.wf (by decide) (by decide), m3.wf f.wf (by decide) (by decide), m4.wf f.wf (by decide) (by decide), m5.wf f.wf (by decide) (by decide), m6.wf f.wf (by decide) (by decide), m7.wf f.wf (by decide) (by decide), m8.wf f.wf (by decide) (by decide), m9.wf f.wf ⟨rfl, rfl⟩ (by decide) (by decide)⟩, f.ck (by decide)⟩
/-- a call of the model that leaves the model as it is -/
theorem MOD_.kh {na : Nat} {F G : Nat → Nat → Int32} {P : PS} {nf : Nat} {Lf : Nat → Nat → Int32} {tl : Nat} {T : Nat → Int32} {hp : Option Nat} {Hd : Nat → Int32} {wn : Nat} {Od : Nat → Int32} {L : List Trm_} {h1 : AH} (f : KH_ [] hoJ_ h h1) (H : MOD_ na F G P nf Lf tl T hp Hd wn Od L h) : MOD_ na F G P nf Lf tl T hp Hd wn Od L h1 := by
  obtain ⟨m1, m2, m3, m4, m5, m6, m7, m8, m9⟩ := H
  exact ⟨f.ms m1, m2.wf f.wf (by decide) (by decide), m3.wf f.wf (by decide) (by decide), m4.wf f.wf (by decide) (by decide), m5.wf f.wf (by decide) (by decide), m6.wf f.wf (by decide) (by decide), m7.wf f.wf (by decide) (by decide), m8.wf f.wf (by decide) (by decide), m9.wf f.wf ⟨f.2.2.2.2.1 24 (by decide), f.2.2.2.2.1 25 (by decide)⟩ (by decide) (by decide)⟩
/-- a call of the class that leaves the class as it is -/
theorem CLS_.fx {na : Nat} {F G : Nat → Nat → Int32} {P : PS} {nf : Nat} {Lf : Nat → Nat → Int32} {tl : Nat} {T : Nat → Int32} {hp : Option Nat} {c wn : Nat} {Od : Nat → Int32} {L : List Trm_} {h1 : AH} {W : List Nat} (f : FX_ W [] h h1) (hW : ∀ a ∈ W, sr_ a < 164 ∧ a ≠ 25428756 ∧ a ≠ 25690901 ∧ a ≠ 28311555 ∧ a ≠ 28586512 ∧ a ≠ 28848656 ∧ a ≠ 29110800 ∧ a ≠ 29673489 ∧ a ≠ 27000838 ∧ a ≠ 28049936 ∧ a ∉ [30932993, 31195798, 31457936, 31720080, 32032784, 32243713, 32506518, 32768656, 33030800, 33343504]) (hR : ∀ a ∈ [25952258, 27000838, 28311555, 29884421, 30932993, 32243713], a ∉ W ∨ hR_ h1 a = hR_ h a) (H : CLS_ na F G P nf Lf tl T hp c wn Od L h) : CLS_ na F G P nf Lf tl T hp c wn Od L h1 := by
  obtain ⟨c1, ⟨sa, c2⟩, ⟨sp, c3⟩, c4, c5, c6, c7, c8, c9⟩ := H
  obtain ⟨d1, d2⟩ := dfix (W := W) (fun a ha => (hW a ha).1)
  refine ⟨c1.fx f c9 hR, ⟨sa, c2.fx f c9 (by decide) (fun z => (hW _ z).2.1 rfl) d1⟩, ⟨sp, c3.fx f c9 (by decide) (fun z => (hW _ z).2.2.1 rfl) d2⟩, c4.fx f c9 (fun a ha z => ?_), c5.fx f c9 (by decide) (fun z => (hW _ z).2.2.2.2.2.2.2.1 rfl), c6.fx f (by decide), c7.fx f c9 ⟨fun z => (hW _ z).2.2.2.2.2.2.2.2.1 rfl, fun z => (hW _ z).2.2.2.2.2.2.2.2.2.1 rfl⟩, c8.fx f c9 (fun a ha z => (hW _ z).2.2.2.2.2.2.2.2.2.2 ha), Nat.le_trans c9 f.2.2.2.2⟩
  have hw := hW a z
  simp only [List.mem_cons, List.not_mem_nil, or_false] at ha
  rcases ha with q | q | q | q
  · exact hw.2.2.2.1 q
  · exact hw.2.2.2.2.1 q
  · exact hw.2.2.2.2.2.1 q
  · exact hw.2.2.2.2.2.2.1 q
theorem o_actor {a b e g : Int32} (hg : g = 0 ∨ g = 1) (I : IV_ n h) (hd : 50 ≤ d) : OK2_ xs d 63 [vA (some 25165831), vI a, vI b, vI e, vI g] 109 [vA (some 33554440), vI a, vI b, vI e, vI g, vX 0] n h := by
  obtain ⟨na, F, G, P, nf, Lf, tl, T, hp, Hd, c, wn, Od, L, hC, hM, hp', hx, hs⟩ := I
  obtain ⟨c1, ⟨sa, c2⟩, ⟨sp, c3⟩, c4, c5, c6, c7, c8, c9⟩ := id hC
  obtain ⟨h1, f, x1, x2, x3⟩ := x_actor (xs := xs) (d := d) (fee := a) (birth := b) (joined := e) (g := g) c1 c2 c9 hg (by omega)
  obtain ⟨dA, dP⟩ := dfix (W := [25428756]) (by decide)
  obtain ⟨m1, m2, m3, m4, m5, m6, m7, m8, m9⟩ := hM.mk (f.mk c9 (by decide))
  obtain ⟨h2, k, -, y3⟩ := m_actor (xs := xs) (d := d) (fee := a) (birth := b) (joined := e) (g := g) m1 m2 hg (by omega)
  have ck := k.ck (by decide)
  have hcls : ∀ na' F' G', (∃ sa, CA_ na' sa F' G' h1) → CLS_ na' F' G' P nf Lf tl T hp c wn Od L h2 := fun na' F' G' hA => CLS_.ck ck ⟨c1.fx f c9 (fun a ha => Or.inl (by revert a; decide)), hA, ⟨sp, c3.fx f c9 (by decide) (by decide) dP⟩, c4.fx f c9 (by decide), c5.fx f c9 (by decide) (by decide), c6.fx f (by decide), c7.fx f c9 (by decide), c8.fx f c9 (by decide), Nat.le_trans c9 f.2.2.2.2⟩
  have hmod : ∀ na' F' G', MA_ na' F' G' h2 → MOD_ na' F' G' P nf Lf tl T hp Hd wn Od L h2 := fun na' F' G' hA => ⟨k.MS m1, hA, m3.wf k.wf (by decide) (by decide), m4.wf k.wf (by decide) (by decide), m5.wf k.wf (by decide) (by decide), m6.wf k.wf (by decide) (by decide), m7.wf k.wf (by decide) (by decide), m8.wf k.wf (by decide) (by decide), m9.wf k.wf ⟨by rw [k.2.1], by rw [k.2.1]⟩ (by decide) (by decide)⟩
  have bd : nx_ h2 ≤ 164 + 4 * (n + 1) ∧ sl_ h2 ≤ 100000 + 29 * (n + 1) := by rw [ck.2.1, ck.2.2]; omega
  by_cases q : na < 12 ∧ okA_t a b e = true
  · rw [if_pos q] at x3 y3
    refine ⟨_, h1, h2, x3.1, y3.1, na + 1, _, _, P, nf, Lf, tl, T, hp, Hd, c, wn, Od, L, hcls _ _ _ ⟨_, x3.2⟩, hmod _ _ _ y3.2, ?_, bd⟩
    obtain ⟨p1, p2, p3, p4⟩ := hp'
    refine ⟨p1, p2, fun i hi => ?_, p4⟩
    unfold upF_
    by_cases qi : i = na
    · rw [if_pos qi, if_pos qi]
      exact ⟨by rcases hg with z | z <;> simp [fa_, z], by simp [fa_]⟩
    · rw [if_neg qi, if_neg qi]; exact p3 i (by omega)
  · rw [if_neg q] at x3 y3
    exact ⟨_, h1, h2, x3.1, y3.1, na, F, G, P, nf, Lf, tl, T, hp, Hd, c, wn, Od, L, hcls _ _ _ ⟨_, x3.2⟩, hmod _ _ _ y3.2, hp', bd⟩
theorem o_plays {a k' g : Int32} (I : IV_ n h) (hd : 50 ≤ d) : OK2_ xs d 64 [vA (some 25165831), vI a, vI k', vI g, vX 0] 113 [vA (some 33554440), vI a, vI k', vI g] n h := by
  obtain ⟨na, F, G, P, nf, Lf, tl, T, hp, Hd, c, wn, Od, L, hC, hM, hp', hx, hs⟩ := I
  obtain ⟨c1, ⟨sa, c2⟩, ⟨sp, c3⟩, c4, c5, c6, c7, c8, c9⟩ := id hC
  obtain ⟨h1, s, s1, f, x1, x2, x3⟩ := x_plays (xs := xs) (d := d) (a := a) (k := k') (g := g) c1 c2 (by omega)
  have hsr : ∀ a ∈ [mk_ s 16 12], 164 ≤ sr_ a := fun a ha => by rw [List.mem_singleton.mp ha, sr_mk (by decide) (by decide)]; exact s1
  have hni : ∀ a ∈ [mk_ s 16 12], ¬ inM_ a := fun a ha z => by have := hsr a ha; have := z.2; omega
  have dP : dP_ [mk_ s 16 12] := fun t _ => ⟨fun z => by have := List.mem_singleton.mp z; unfold mk_ at this; omega, fun z => by have := List.mem_singleton.mp z; unfold mk_ at this; omega, fun z => by have := List.mem_singleton.mp z; unfold mk_ at this; omega⟩
  obtain ⟨m1, m2, m3, m4, m5, m6, m7, m8, m9⟩ := hM.mk (f.mk c9 hni)
  obtain ⟨h2, k, -, y3⟩ := m_plays (xs := xs) (d := d) (a := a) (k := k') (g := g) m1 m2 (by omega)
  have ck := k.ck (by decide)
  have fx : ∀ b, sr_ b < 164 → b ∉ [mk_ s 16 12] := fun b hb => fixn hsr hb
  have hcls : ∀ F' G', (∃ sa, CA_ na sa F' G' h1) → CLS_ na F' G' P nf Lf tl T hp c wn Od L h2 := fun F' G' hA => CLS_.ck ck ⟨c1.fx f c9 (fun a ha => Or.inl (fx a (by revert a; decide))), hA, ⟨sp, c3.fx f c9 (by decide) (fx _ (by decide)) dP⟩, c4.fx f c9 (fun a ha => fx a (by revert a; decide)), c5.fx f c9 (by decide) (fx _ (by decide)), c6.fx f (by decide), c7.fx f c9 ⟨fx _ (by decide), fx _ (by decide)⟩, c8.fx f c9 (fun a ha => fx a (by revert a; decide)), Nat.le_trans c9 f.2.2.2.2⟩
  have hmod : ∀ F' G', MA_ na F' G' h2 → MOD_ na F' G' P nf Lf tl T hp Hd wn Od L h2 := fun F' G' hA => ⟨k.MS m1, hA, m3.wf k.wf (by decide) (by decide), m4.wf k.wf (by decide) (by decide), m5.wf k.wf (by decide) (by decide), m6.wf k.wf (by decide) (by decide), m7.wf k.wf (by decide) (by decide), m8.wf k.wf (by decide) (by decide), m9.wf k.wf ⟨by rw [k.2.1], by rw [k.2.1]⟩ (by decide) (by decide)⟩
  have bd : nx_ h2 ≤ 164 + 4 * (n + 1) ∧ sl_ h2 ≤ 100000 + 29 * (n + 1) := by rw [ck.2.1, ck.2.2]; omega
  by_cases q : okG_ na a k' g = true
  · rw [if_pos q] at x3 y3
    exact ⟨_, h1, h2, x3.1, y3.1, na, _, _, P, nf, Lf, tl, T, hp, Hd, c, wn, Od, L, hcls _ _ ⟨_, x3.2⟩, hmod _ _ y3.2, hp', bd⟩
  · rw [if_neg q] at x3 y3
    exact ⟨_, h1, h2, x3.1, y3.1, na, F, G, P, nf, Lf, tl, T, hp, Hd, c, wn, Od, L, hcls _ _ ⟨_, x3.2⟩, hmod _ _ y3.2, hp', bd⟩
theorem o_comes {a g : Int32} (hg : g = 0 ∨ g = 1) (I : IV_ n h) (hd : 50 ≤ d) : OK2_ xs d 65 [vA (some 25165831), vI a, vI g, vX 0] 114 [vA (some 33554440), vI a, vI g] n h := by
  obtain ⟨na, F, G, P, nf, Lf, tl, T, hp, Hd, c, wn, Od, L, hC, hM, hp', hx, hs⟩ := I
  obtain ⟨c1, ⟨sa, c2⟩, ⟨sp, c3⟩, c4, c5, c6, c7, c8, c9⟩ := id hC
  obtain ⟨h1, s, s1, f, x1, x2, x3⟩ := x_comes (xs := xs) (d := d) (a := a) (g := g) c1 c2 hg (by omega)
  have hsr : ∀ a ∈ [mk_ s 0 0], 164 ≤ sr_ a := fun a ha => by rw [List.mem_singleton.mp ha, sr_mk (by decide) (by decide)]; exact s1
  have hni : ∀ a ∈ [mk_ s 0 0], ¬ inM_ a := fun a ha z => by have := hsr a ha; have := z.2; omega
  have dP : dP_ [mk_ s 0 0] := fun t _ => ⟨fun z => by have := List.mem_singleton.mp z; unfold mk_ at this; omega, fun z => by have := List.mem_singleton.mp z; unfold mk_ at this; omega, fun z => by have := List.mem_singleton.mp z; unfold mk_ at this; omega⟩
  obtain ⟨m1, m2, m3, m4, m5, m6, m7, m8, m9⟩ := hM.mk (f.mk c9 hni)
  obtain ⟨h2, k, -, y3⟩ := m_comes (xs := xs) (d := d) (a := a) (g := g) m1 m2 hg (by omega)
  have ck := k.ck (by decide)
  have fx : ∀ b, sr_ b < 164 → b ∉ [mk_ s 0 0] := fun b hb => fixn hsr hb
  have hcls : ∀ F' G', (∃ sa, CA_ na sa F' G' h1) → CLS_ na F' G' P nf Lf tl T hp c wn Od L h2 := fun F' G' hA => CLS_.ck ck ⟨c1.fx f c9 (fun a ha => Or.inl (fx a (by revert a; decide))), hA, ⟨sp, c3.fx f c9 (by decide) (fx _ (by decide)) dP⟩, c4.fx f c9 (fun a ha => fx a (by revert a; decide)), c5.fx f c9 (by decide) (fx _ (by decide)), c6.fx f (by decide), c7.fx f c9 ⟨fx _ (by decide), fx _ (by decide)⟩, c8.fx f c9 (fun a ha => fx a (by revert a; decide)), Nat.le_trans c9 f.2.2.2.2⟩
  have hmod : ∀ F' G', MA_ na F' G' h2 → MOD_ na F' G' P nf Lf tl T hp Hd wn Od L h2 := fun F' G' hA => ⟨k.MS m1, hA, m3.wf k.wf (by decide) (by decide), m4.wf k.wf (by decide) (by decide), m5.wf k.wf (by decide) (by decide), m6.wf k.wf (by decide) (by decide), m7.wf k.wf (by decide) (by decide), m8.wf k.wf (by decide) (by decide), m9.wf k.wf ⟨by rw [k.2.1], by rw [k.2.1]⟩ (by decide) (by decide)⟩
  have bd : nx_ h2 ≤ 164 + 4 * (n + 1) ∧ sl_ h2 ≤ 100000 + 29 * (n + 1) := by rw [ck.2.1, ck.2.2]; omega
  by_cases q : 0 ≤ a.toInt ∧ a.toInt < na
  · rw [if_pos q] at x3 y3
    refine ⟨_, h1, h2, x3.1, y3.1, na, _, _, P, nf, Lf, tl, T, hp, Hd, c, wn, Od, L, hcls _ _ ⟨_, x3.2⟩, hmod _ _ y3.2, ?_, bd⟩
    obtain ⟨p1, p2, p3, p4⟩ := hp'
    refine ⟨p1, p2, fun i hi => ?_, p4⟩
    unfold up2_
    refine ⟨by rw [if_neg (fun z => by have := z.2; omega)]; exact (p3 i hi).1, ?_⟩
    by_cases qi : i = a.toNatClampNeg
    · rw [if_pos ⟨qi, rfl⟩]; exact hg
    · rw [if_neg (fun z => qi z.1)]; exact (p3 i hi).2
  · rw [if_neg q] at x3 y3
    exact ⟨_, h1, h2, x3.1, y3.1, na, F, G, P, nf, Lf, tl, T, hp, Hd, c, wn, Od, L, hcls _ _ ⟨_, x3.2⟩, hmod _ _ y3.2, hp', bd⟩
end OPS
