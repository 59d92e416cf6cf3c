/-! plays -/
theorem PB_play {P : PS} {mi ta st we : Int32} (hB : PB_ P) (h : okP_t mi ta st we = true) : PB_ (qn_ P + 1, upF_ (qf_ P) (qn_ P) (fp_ mi ta st we), P.2.2) := by
  unfold okP_t at h
  rw [Bool.and_eq_true, Bool.and_eq_true, Bool.and_eq_true] at h
  obtain ⟨h1, h2, h3, h4⟩ := h
  have r : ∀ {v : Int32} {a b : Int32}, wi_ v a b = true → 0 ≤ a.toInt → v = Int32.ofNat v.toNatClampNeg ∧ a.toInt ≤ (v.toNatClampNeg : Int) ∧ (v.toNatClampNeg : Int) ≤ b.toInt := by
    intro v a b hv ha
    obtain ⟨v1, v2⟩ := wi_t.mp hv
    obtain ⟨k, rfl, e2, e3⟩ := w_of (x := v) (by omega)
    rw [w_cl e3]
    exact ⟨rfl, by omega, by omega⟩
  intro p hp
  show (∀ j, j < 4 → upF_ (qf_ P) (qn_ P) (fp_ mi ta st we) p j = Int32.ofNat ((upF_ (qf_ P) (qn_ P) (fp_ mi ta st we) p j).toNatClampNeg)) ∧ 1 ≤ (upF_ (qf_ P) (qn_ P) (fp_ mi ta st we) p 0).toNatClampNeg ∧ (upF_ (qf_ P) (qn_ P) (fp_ mi ta st we) p 0).toNatClampNeg ≤ 240 ∧ (upF_ (qf_ P) (qn_ P) (fp_ mi ta st we) p 1).toNatClampNeg ≤ 1000 ∧ (upF_ (qf_ P) (qn_ P) (fp_ mi ta st we) p 2).toNatClampNeg ≤ 11 ∧ (upF_ (qf_ P) (qn_ P) (fp_ mi ta st we) p 3).toNatClampNeg ≤ 30
  by_cases q : p = qn_ P
  · have e : ∀ j, upF_ (qf_ P) (qn_ P) (fp_ mi ta st we) p j = fp_ mi ta st we j := fun j => by unfold upF_; rw [if_pos q]
    obtain ⟨a1, a2, a3⟩ := r h1 (by decide)
    obtain ⟨b1, b2, b3⟩ := r h2 (by decide)
    obtain ⟨c1, c2, c3⟩ := r h3 (by decide)
    obtain ⟨d1, d2, d3⟩ := r h4 (by decide)
    have k1 : (1 : Int32).toInt = 1 := by decide
    have k2 : (240 : Int32).toInt = 240 := by decide
    have k3 : (1000 : Int32).toInt = 1000 := by decide
    have k4 : (11 : Int32).toInt = 11 := by decide
    have k5 : (30 : Int32).toInt = 30 := by decide
    have f0 : fp_ mi ta st we 0 = mi := rfl
    have f1 : fp_ mi ta st we 1 = ta := rfl
    have f2 : fp_ mi ta st we 2 = st := rfl
    have f3 : fp_ mi ta st we 3 = we := rfl
    rw [e, e, e, e, f0, f1, f2, f3]
    refine ⟨fun j hj => ?_, by omega, by omega, by omega, by omega, by omega⟩
    rw [e]
    rcases (show j = 0 ∨ j = 1 ∨ j = 2 ∨ j = 3 by omega) with z | z | z | z <;> rw [z]
    · exact a1
    · exact b1
    · exact c1
    · exact d1
  · have e : ∀ j, upF_ (qf_ P) (qn_ P) (fp_ mi ta st we) p j = qf_ P p j := fun j => by unfold upF_; rw [if_neg q]
    have hp' : p < qn_ P := by
      have : p < qn_ P + 1 := hp
      omega
    have := hB p hp'
    rw [e, e, e, e]
    refine ⟨fun j hj => by rw [e]; exact this.1 j hj, this.2⟩
section OPP
variable {xs : Nat → Int32} {d n : Nat} {h : AH}
theorem o_play {a b e g : Int32} (I : IV_ n h) (hd : 50 ≤ d) : OK2_ xs d 66 [vA (some 25165831), vI a, vI b, vI e, vI g] 115 [vA (some 33554440), vI a, vI b, vI e, vI g] n h := by
  obtain ⟨na, F, G, P, nf, Lf, tl, T, hp, Hd, c, wn, Od, L, hC, hM, hp', hx, hs⟩ := I
  obtain ⟨c1, ⟨sa, c2⟩, ⟨sp, c3⟩, c4, c5, c6, c7, c8, c9⟩ := id hC
  obtain ⟨h1, f, x1, x2, x3⟩ := x_play (xs := xs) (d := d) (mi := a) (ta := b) (st := e) (we := g) c1 c3 c9 (by omega)
  obtain ⟨dA, dP⟩ := dfix (W := [25690901]) (by decide)
  obtain ⟨m1, m2, m3, m4, m5, m6, m7, m8, m9⟩ := hM.mk (f.mk c9 (by decide))
  obtain ⟨h2, k, -, y3⟩ := m_play (xs := xs) (d := d) (mi := a) (ta := b) (st := e) (we := g) m1 m3 (by omega)
  have ck := k.ck (by decide)
  have hcls : ∀ P', (∃ sp, CP_ P' sp h1) → CLS_ na F G P' nf Lf tl T hp c wn Od L h2 := fun P' hP => CLS_.ck ck ⟨c1.fx f c9 (fun a ha => Or.inl (by revert a; decide)), ⟨sa, c2.fx f c9 (by decide) (by decide) dA⟩, hP, c4.fx f c9 (by decide), c5.fx f c9 (by decide) (by decide), c6.fx f (by decide), c7.fx f c9 (by decide), c8.fx f c9 (by decide), Nat.le_trans c9 f.2.2.2.2⟩
  have hmod : ∀ P', MP_ P' h2 → MOD_ na F G P' nf Lf tl T hp Hd wn Od L h2 := fun P' hP => ⟨k.MS m1, m2.wf k.wf (by decide) (by decide), hP, m4.wf k.wf (by decide) (by decide), m5.wf k.wf (by decide) (by decide), m6.wf k.wf (by decide) (by decide), m7.wf k.wf (by decide) (by decide), m8.wf k.wf (by decide) (by decide), m9.wf k.wf ⟨by rw [k.2.1], by rw [k.2.1]⟩ (by decide) (by decide)⟩
  have bd : nx_ h2 ≤ 164 + 4 * (n + 1) ∧ sl_ h2 ≤ 100000 + 29 * (n + 1) := by rw [ck.2.1, ck.2.2]; omega
  by_cases q : qn_ P < 12 ∧ okP_t a b e g = true
  · rw [if_pos q] at x3 y3
    refine ⟨_, h1, h2, x3.1, y3.1, na, F, G, _, nf, Lf, tl, T, hp, Hd, c, wn, Od, L, hcls _ ⟨_, x3.2⟩, hmod _ y3.2, ?_, bd⟩
    obtain ⟨p1, p2, p3, p4, p5, p6, p7, p8⟩ := hp'
    exact ⟨p1, PB_play p2 q.2, p3, p4, p5, p6, p7, fun p hp => ⟨Nat.lt_succ_of_lt (p8 p hp).1, (p8 p hp).2⟩⟩
  · rw [if_neg q] at x3 y3
    exact ⟨_, h1, h2, x3.1, y3.1, na, F, G, P, nf, Lf, tl, T, hp, Hd, c, wn, Od, L, hcls _ ⟨_, x3.2⟩, hmod _ y3.2, hp', bd⟩
/-- a call that changes one play's cells -/
theorem o_PW {na : Nat} {F G : Nat → Nat → Int32} {P : PS} {nf : Nat} {Lf : Nat → Nat → Int32} {tl : Nat} {T : Nat → Int32} {hp : Option Nat} {c wn : Nat} {Od : Nat → Int32} {L : List Trm_} {sp : Nat → Nat} {h1 : AH} (H : CLS_ na F G P nf Lf tl T hp c wn Od L h) (hP : CP_ P sp h) (f : h1 = h ∨ ∃ i, i < qn_ P ∧ FX_ (PW_ sp i) [] h h1) : MK_ h h1 ∧ ∀ P', (∃ sp, CP_ P' sp h1) → CLS_ na F G P' nf Lf tl T hp c wn Od L h1 := by
  obtain ⟨c1, ⟨sa, c2⟩, -, c4, c5, c6, c7, c8, c9⟩ := id H
  rcases f with rfl | ⟨i, hi, f⟩
  · exact ⟨fun a _ => ⟨rfl, rfl, rfl⟩, fun P' hP => ⟨c1, ⟨sa, c2⟩, hP, c4, c5, c6, c7, c8, c9⟩⟩
  · have hsp := (hP.2.2.1 i hi).2.1
    have hmem : ∀ a, a ∈ PW_ sp i → a = mk_ (sp i) 4 0 ∨ a = mk_ (sp i + 1) 16 8 ∨ a = mk_ (sp i + 2) 16 8 ∨ a = mk_ (sp i + 3) 16 3 := by
      intro a ha
      unfold PW_ at ha
      simp only [List.mem_cons, List.not_mem_nil, or_false] at ha
      exact ha
    have hsr : ∀ a ∈ PW_ sp i, 164 ≤ sr_ a := fun a ha => by
      rcases hmem a ha with z | z | z | z <;> rw [z, sr_mk (by decide) (by decide)] <;> omega
    have hni : ∀ a ∈ PW_ sp i, ¬ inM_ a := fun a ha z => by have := hsr a ha; have := z.2; omega
    have fx : ∀ b, sr_ b < 164 → b ∉ PW_ sp i := fun b hb => fixn hsr hb
    have dA : dA_ (PW_ sp i) := fun t _ => ⟨fun z => by rcases hmem _ z with y | y | y | y <;> unfold mk_ at y <;> omega, fun z => by rcases hmem _ z with y | y | y | y <;> unfold mk_ at y <;> omega⟩
    exact ⟨f.mk c9 hni, fun P' hP => ⟨c1.fx f c9 (fun a ha => Or.inl (fx a (by revert a; decide))), ⟨sa, c2.fx f c9 (by decide) (fx _ (by decide)) dA⟩, hP, c4.fx f c9 (fun a ha => fx a (by revert a; decide)), c5.fx f c9 (by decide) (fx _ (by decide)), c6.fx f (by decide), c7.fx f c9 ⟨fx _ (by decide), fx _ (by decide)⟩, c8.fx f c9 (fun a ha => fx a (by revert a; decide)), Nat.le_trans c9 f.2.2.2.2⟩⟩
theorem o_role {p k' g ne : Int32} (hne : ne = 0 ∨ ne = 1) (I : IV_ n h) (hd : 50 ≤ d) : OK2_ xs d 67 [vA (some 25165831), vI p, vI k', vI g, vI ne, vX 0] 116 [vA (some 33554440), vI p, vI k', vI g, vI ne, vX 0] n h := by
  obtain ⟨na, F, G, P, nf, Lf, tl, T, hp, Hd, c, wn, Od, L, hC, hM, hp', hx, hs⟩ := I
  obtain ⟨c1, ⟨sa, c2⟩, ⟨sp, c3⟩, c4, c5, c6, c7, c8, c9⟩ := id hC
  obtain ⟨h1, f, x1, x2, x3⟩ := x_role (xs := xs) (d := d) (p := p) (k := k') (g := g) (ne := ne) c1 c3 hne (by omega)
  obtain ⟨mk, hcl⟩ := o_PW hC c3 f
  obtain ⟨m1, m2, m3, m4, m5, m6, m7, m8, m9⟩ := hM.mk mk
  obtain ⟨h2, k, -, y3⟩ := m_role (xs := xs) (d := d) (p := p) (k := k') (g := g) (ne := ne) m1 m3 hne (by omega)
  have ck := k.ck (by decide)
  have hmod : ∀ P', MP_ P' h2 → MOD_ na F G P' nf Lf tl T hp Hd wn Od L h2 := fun P' hP => ⟨k.MS m1, m2.wf k.wf (by decide) (by decide), hP, m4.wf k.wf (by decide) (by decide), m5.wf k.wf (by decide) (by decide), m6.wf k.wf (by decide) (by decide), m7.wf k.wf (by decide) (by decide), m8.wf k.wf (by decide) (by decide), m9.wf k.wf ⟨by rw [k.2.1], by rw [k.2.1]⟩ (by decide) (by decide)⟩
  have bd : nx_ h2 ≤ 164 + 4 * (n + 1) ∧ sl_ h2 ≤ 100000 + 29 * (n + 1) := by rw [ck.2.1, ck.2.2]; omega
  by_cases q : okR_ P p k' g = true
  · rw [if_pos q] at x3 y3
    refine ⟨_, h1, h2, x3.1, y3.1, na, F, G, _, nf, Lf, tl, T, hp, Hd, c, wn, Od, L, CLS_.ck ck (hcl _ ⟨_, x3.2⟩), hmod _ y3.2, ?_, bd⟩
    obtain ⟨p1, p2, p3, p4, p5, p6, p7, p8⟩ := hp'
    have hq : ∀ i, qr_ P i ≤ qr_ (addR_ P p.toNatClampNeg k' g ne) i := by
      intro i
      show qr_ P i ≤ up1_ (qr_ P) p.toNatClampNeg (qr_ P p.toNatClampNeg + 1) i
      unfold up1_
      by_cases qi : i = p.toNatClampNeg
      · rw [if_pos qi, qi]; omega
      · rw [if_neg qi]; exact Nat.le_refl _
    refine ⟨fun i j hj => ?_, p2, p3, p4, p5, p6, p7, fun i hi => ⟨(p8 i hi).1, ⟨(p8 i hi).2.1.1, fun r hr hr2 => (p8 i hi).2.1.2 r (Nat.le_trans (hq i) hr) hr2⟩, (p8 i hi).2.2⟩⟩
    obtain ⟨a, b, e1, e2, e3⟩ := p1 i j hj
    exact ⟨a, b, e1, Nat.lt_of_lt_of_le e2 (hq i), e3⟩
  · rw [if_neg q] at x3 y3
    exact ⟨_, h1, h2, x3.1, y3.1, na, F, G, P, nf, Lf, tl, T, hp, Hd, c, wn, Od, L, CLS_.ck ck (hcl _ ⟨_, x3.2⟩), hmod _ y3.2, hp', bd⟩
theorem o_does {p r k' : Int32} (I : IV_ n h) (hd : 50 ≤ d) : OK2_ xs d 68 [vA (some 25165831), vI p, vI r, vI k', vX 0] 117 [vA (some 33554440), vI p, vI r, vI k', vX 0] n h := by
  obtain ⟨na, F, G, P, nf, Lf, tl, T, hp, Hd, c, wn, Od, L, hC, hM, hp', hx, hs⟩ := I
  obtain ⟨c1, ⟨sa, c2⟩, ⟨sp, c3⟩, c4, c5, c6, c7, c8, c9⟩ := id hC
  obtain ⟨h1, f, x1, x2, x3⟩ := x_does (xs := xs) (d := d) (p := p) (r := r) (k := k') c1 c3 (by omega)
  obtain ⟨mk, hcl⟩ := o_PW hC c3 f
  obtain ⟨m1, m2, m3, m4, m5, m6, m7, m8, m9⟩ := hM.mk mk
  obtain ⟨h2, k, -, y3⟩ := m_does (xs := xs) (d := d) (p := p) (r := r) (k := k') m1 m3 (by omega)
  have ck := k.ck (by decide)
  have hmod : ∀ P', MP_ P' h2 → MOD_ na F G P' nf Lf tl T hp Hd wn Od L h2 := fun P' hP => ⟨k.MS m1, m2.wf k.wf (by decide) (by decide), hP, m4.wf k.wf (by decide) (by decide), m5.wf k.wf (by decide) (by decide), m6.wf k.wf (by decide) (by decide), m7.wf k.wf (by decide) (by decide), m8.wf k.wf (by decide) (by decide), m9.wf k.wf ⟨by rw [k.2.1], by rw [k.2.1]⟩ (by decide) (by decide)⟩
  have bd : nx_ h2 ≤ 164 + 4 * (n + 1) ∧ sl_ h2 ≤ 100000 + 29 * (n + 1) := by rw [ck.2.1, ck.2.2]; omega
  by_cases q : isR_ P p r = true ∧ wi_ k' 0 11 = true ∧ kb_ (qk_ P p.toNatClampNeg r.toNatClampNeg) k' = false
  · rw [if_pos q] at x3 y3
    exact ⟨_, h1, h2, x3.1, y3.1, na, F, G, _, nf, Lf, tl, T, hp, Hd, c, wn, Od, L, CLS_.ck ck (hcl _ ⟨_, x3.2⟩), hmod _ y3.2, hp', bd⟩
  · rw [if_neg q] at x3 y3
    exact ⟨_, h1, h2, x3.1, y3.1, na, F, G, P, nf, Lf, tl, T, hp, Hd, c, wn, Od, L, CLS_.ck ck (hcl _ ⟨_, x3.2⟩), hmod _ y3.2, hp', bd⟩
theorem bts_nat {a b : Nat} (ha : a < 8) (hb : b < 8) : bts_ (Int32.ofNat a) (Int32.ofNat b) = Int32.ofNat (2 ^ a ||| 2 ^ b) := by
  unfold bts_
  rw [w_shl a (by omega), w_shl b (by omega), w_or]
theorem o_doubles {p a b : Int32} (I : IV_ n h) (hd : 50 ≤ d) : OK2_ xs d 69 [vA (some 25165831), vI p, vI a, vI b, vX 0] 118 [vA (some 33554440), vI p, vI a, vI b, vX 0, vX 0] n h := by
  obtain ⟨na, F, G, P, nf, Lf, tl, T, hp, Hd, c, wn, Od, L, hC, hM, hp', hx, hs⟩ := I
  obtain ⟨c1, ⟨sa, c2⟩, ⟨sp, c3⟩, c4, c5, c6, c7, c8, c9⟩ := id hC
  obtain ⟨h1, f, x1, x2, x3⟩ := x_doubles (xs := xs) (d := d) (p := p) (a := a) (b := b) c1 c3 (by omega)
  obtain ⟨mk, hcl⟩ := o_PW hC c3 f
  obtain ⟨m1, m2, m3, m4, m5, m6, m7, m8, m9⟩ := hM.mk mk
  obtain ⟨h2, k, -, y3⟩ := m_doubles (xs := xs) (d := d) (p := p) (a := a) (b := b) m1 m3 (by omega)
  have ck := k.ck (by decide)
  have hmod : ∀ P', MP_ P' h2 → MOD_ na F G P' nf Lf tl T hp Hd wn Od L h2 := fun P' hP => ⟨k.MS m1, m2.wf k.wf (by decide) (by decide), hP, m4.wf k.wf (by decide) (by decide), m5.wf k.wf (by decide) (by decide), m6.wf k.wf (by decide) (by decide), m7.wf k.wf (by decide) (by decide), m8.wf k.wf (by decide) (by decide), m9.wf k.wf ⟨by rw [k.2.1], by rw [k.2.1]⟩ (by decide) (by decide)⟩
  have bd : nx_ h2 ≤ 164 + 4 * (n + 1) ∧ sl_ h2 ≤ 100000 + 29 * (n + 1) := by rw [ck.2.1, ck.2.2]; omega
  by_cases q : okD_ P p a b = true
  · rw [if_pos q] at x3 y3
    refine ⟨_, h1, h2, x3.1, y3.1, na, F, G, _, nf, Lf, tl, T, hp, Hd, c, wn, Od, L, CLS_.ck ck (hcl _ ⟨_, x3.2⟩), hmod _ y3.2, ?_, bd⟩
    obtain ⟨p1, p2, p3, p4, p5, p6, p7, p8⟩ := hp'
    refine ⟨fun i j hj => ?_, p2, p3, p4, p5, p6, p7, p8⟩
    have h8 := c3.2.1.2.2.1 p.toNatClampNeg
    unfold okD_ at q
    rw [Bool.and_eq_true, Bool.and_eq_true, Bool.and_eq_true] at q
    obtain ⟨q1, q2, q3, -⟩ := q
    unfold isR_ at q1 q2
    have q1 := of_decide_eq_true q1
    have q2 := of_decide_eq_true q2
    have hab : a ≠ b := by
      intro z
      rw [decide_eq_true z] at q3
      cases q3
    obtain ⟨a', rfl, ea, ea2⟩ := w_of (x := a) (by omega)
    obtain ⟨b', rfl, eb, eb2⟩ := w_of (x := b) (by omega)
    have ha : a' < qr_ P p.toNatClampNeg := by omega
    have hb : b' < qr_ P p.toNatClampNeg := by omega
    have hne : a' ≠ b' := fun z => hab (by rw [z])
    show ∃ x y, x < y ∧ y < qr_ P i ∧ up2_ (qt_ P) p.toNatClampNeg (qb_ P p.toNatClampNeg) (bts_ (Int32.ofNat a') (Int32.ofNat b')) i j = Int32.ofNat (2 ^ x ||| 2 ^ y)
    have hj' : j < up1_ (qb_ P) p.toNatClampNeg (qb_ P p.toNatClampNeg + 1) i := hj
    unfold up1_ at hj'
    unfold up2_
    by_cases qi : i = p.toNatClampNeg
    · rw [if_pos qi] at hj'
      by_cases qj : j = qb_ P p.toNatClampNeg
      · rw [if_pos ⟨qi, qj⟩, bts_nat (by omega) (by omega), qi]
        rcases Nat.lt_or_ge a' b' with z | z
        · exact ⟨a', b', z, hb, rfl⟩
        · exact ⟨b', a', by omega, ha, by rw [Nat.or_comm]⟩
      · rw [if_neg (fun z => qj z.2)]
        exact p1 i j (by rw [qi]; omega)
    · rw [if_neg qi] at hj'
      rw [if_neg (fun z => qi z.1)]
      exact p1 i j hj'
  · rw [if_neg q] at x3 y3
    exact ⟨_, h1, h2, x3.1, y3.1, na, F, G, P, nf, Lf, tl, T, hp, Hd, c, wn, Od, L, CLS_.ck ck (hcl _ ⟨_, x3.2⟩), hmod _ y3.2, hp', bd⟩
end OPP
