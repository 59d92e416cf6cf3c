/-! casts, weeks, facts, tape -/
section OPC
variable {xs : Nat → Int32} {d n : Nat} {h : AH}
theorem MK_.tr {h1 h2 : AH} (f : MK_ h h1) (g : MK_ h1 h2) : MK_ h h2 := fun a ha => ⟨(g a ha).1.trans (f a ha).1, (g a ha).2.1.trans (f a ha).2.1, (g a ha).2.2.trans (f a ha).2.2⟩
theorem MK_.rf : MK_ h h := fun _ _ => ⟨rfl, rfl, rfl⟩
/-- the cast at hand changes -/
theorem CLS_.ch {na : Nat} {F G : Nat → Nat → Int32} {P : PS} {nf : Nat} {Lf : Nat → Nat → Int32} {tl : Nat} {T : Nat → Int32} {hp hp' : Option Nat} {c c' wn : Nat} {Od : Nat → Int32} {L : List Trm_} {h1 : AH} (H : CLS_ na F G P nf Lf tl T hp c wn Od L h) (e1 : ∀ a, a ≠ 25165831 → hI_ h1 a = hI_ h a) (e2 : ∀ j, j ≠ 5 → hI_ h1 25165831 j = hI_ h 25165831 j) (e3 : hR_ h1 = hR_ h) (e4 : nx_ h1 = nx_ h) (e5 : CH_ hp' (Int64.ofNat c') h1) : CLS_ na F G P nf Lf tl T hp' c' wn Od L h1 := by
  obtain ⟨c1, ⟨sa, c2⟩, ⟨sp, c3⟩, c4, c5, c6, c7, c8, c9⟩ := H
  have hm : ∀ s k n, 164 ≤ s → k < 64 → n < 4096 → mk_ s k n ≠ 25165831 := fun s k n hs hk hn z => by
    have := sr_mk (s := s) hk hn
    rw [z] at this
    have h2 : sr_ 25165831 = 96 := by decide
    omega
  have hAG : ∀ cG cW cN cP cT, cG ≠ 25165831 → cN ≠ 25165831 → cP ≠ 25165831 → cT ≠ 25165831 → AG_ cG cW cN cP cT L h → AG_ cG cW cN cP cT L h1 := by
    intro cG cW cN cP cT q1 q3 q4 q5 H
    unfold AG_ at H ⊢
    rw [e1 cG q1, e3, e1 cN q3, e1 cP q4, e1 cT q5]
    exact H
  refine ⟨by unfold CS_ at c1 ⊢; rw [e3]; exact c1, ⟨sa, c2.fr (e2 1 (by decide)) (by rw [e3]) (fun s hs _ => ⟨e1 _ (hm s 0 0 hs (by decide) (by decide)), by rw [e3], e1 _ (hm s 16 12 hs (by decide) (by decide))⟩) (by rw [e4]; exact Nat.le_refl _)⟩, ⟨sp, c3.fr (e2 3 (by decide)) (by rw [e3]) (fun s hs _ => ⟨e1 _ (hm s 4 0 hs (by decide) (by decide)), by rw [e3], e1 _ (hm s 16 8 hs (by decide) (by decide)), e1 _ (hm s 16 3 hs (by decide) (by decide))⟩) (by rw [e4]; exact Nat.le_refl _)⟩, CL_.eq (e1 _ (by decide)) (e1 _ (by decide)) (e1 _ (by decide)) (e1 _ (by decide)) c4, CT_.eq (e2 10 (by decide)) (e1 _ (by decide)) c5, e5, CW_.eq (e1 _ (by decide)) (e1 _ (by decide)) c7, ?_, by rw [e4]; exact c9⟩
  rcases c8 with ⟨a1, a2, a3⟩ | ⟨a1, a2, a3⟩
  · exact Or.inl ⟨by rw [e3]; exact a1, by rw [e3]; exact a2, hAG _ _ _ _ _ (by decide) (by decide) (by decide) (by decide) a3⟩
  · exact Or.inr ⟨by rw [e3]; exact a1, by rw [e3]; exact a2, hAG _ _ _ _ _ (by decide) (by decide) (by decide) (by decide) a3⟩
theorem CLS_.kf {na : Nat} {F G : Nat → Nat → Int32} {P : PS} {nf : Nat} {Lf : Nat → Nat → Int32} {tl : Nat} {T : Nat → Int32} {hp : Option Nat} {c wn : Nat} {Od : Nat → Int32} {L : List Trm_} {h1 : AH} (f : KF_ h h1) (H : CLS_ na F G P nf Lf tl T hp c wn Od L h) : CLS_ na F G P nf Lf tl T hp c wn Od L h1 ∧ MK_ h h1 ∧ nx_ h1 = nx_ h ∧ sl_ h1 = sl_ h := ⟨H.fx f.fx (by decide) (fun a ha => Or.inr (by rw [f.2.1])), f.fx.mk H.2.2.2.2.2.2.2.2 (by decide), f.2.2.1, f.2.2.2⟩
theorem MOD_.km {na : Nat} {F G : Nat → Nat → Int32} {P : PS} {nf : Nat} {Lf : Nat → Nat → Int32} {tl : Nat} {T : Nat → Int32} {hp hp' : Option Nat} {Hd Hd' : Nat → Int32} {wn : Nat} {Od : Nat → Int32} {L : List Trm_} {h1 : AH} (f : KM_ [38535696, 38273552, 38011408] [0, 19, 22, 26, 27, 32, 33] h h1) (hc : MCe_ h1) (hH : MH2_ hp' Hd' h1) (H : MOD_ na F G P nf Lf tl T hp Hd wn Od L h) : MOD_ na F G P nf Lf tl T hp' Hd' wn Od L h1 ∧ CK_ h h1 := by
  obtain ⟨m1, m2, m3, m4, m5, m6, m7, m8, m9⟩ := H
  exact ⟨⟨f.ms m1, m2.wf f.wf (by decide) (by decide), m3.wf f.wf (by decide) (by decide), m4.wf f.wf (by decide) (by decide), m5.wf f.wf (by decide) (by decide), hH, m7.wf f.wf (by decide) (by decide), m8.wf f.wf (by decide) (by decide), hc⟩, f.ck (by decide)⟩
theorem o_can {a p r : Int32} (I : IV_ n h) (hd : 50 ≤ d) : OK2_ xs d 70 [vA (some 25165831), vI a, vI p, vI r, vX 0, vX 0] 120 [vA (some 33554440), vI a, vI p, vI r] n h := by
  obtain ⟨na, F, G, P, nf, Lf, tl, T, hp, Hd, c, wn, Od, L, hC, hM, hp', hx, hs⟩ := I
  obtain ⟨c1, ⟨sa, c2⟩, ⟨sp, c3⟩, -⟩ := id hC
  obtain ⟨m1, m2, m3, -⟩ := id hM
  have D1 := x_can (xs := xs) (d := d) (a := a) (p := p) (r := r) c1 c2 c3 (by omega)
  have D2 := m_can (xs := xs) (d := d) (a := a) (p := p) (r := r) m1 m2 m3 (by omega)
  obtain ⟨hM2, ck⟩ := hM.u0 (v := 0)
  exact ⟨_, h, _, D1, D2, na, F, G, P, nf, Lf, tl, T, hp, Hd, c, wn, Od, L, hC.ck ck, hM2, hp', by rw [ck.2.1]; omega, by rw [ck.2.2]; omega⟩
theorem o_hand {r : Int32} (I : IV_ n h) (hd : 50 ≤ d) : OK2_ xs d 73 [vA (some 25165831), vI r] 134 [vA (some 33554440), vI r] n h := by
  obtain ⟨na, F, G, P, nf, Lf, tl, T, hp, Hd, c, wn, Od, L, hC, hM, hp', hx, hs⟩ := I
  obtain ⟨c1, ⟨sa, c2⟩, ⟨sp, c3⟩, c4, c5, c6, -⟩ := id hC
  obtain ⟨m1, m2, m3, m4, m5, m6, -⟩ := id hM
  obtain ⟨p1, p2, p3, p4, p5, p6, p7, p8⟩ := id hp'
  have D1 := x_hand (xs := xs) (d := d) (r := r) c6 (by omega)
  obtain ⟨Hm, mh, hHm⟩ := m6.one
  have D2 := m_hand (xs := xs) (d := d) (r := r) m1 m3 mh
  have eh : hnd9_ P hp Hm r = hnd9_ P hp Hd r := by
    cases hp with
    | none => rfl
    | some p => rw [hHm (fun z => nomatch z)]
  rw [eh] at D2
  have e : (if wi_ r 0 7 = true then ain_ (Int64.ofNat c) r else -1) = hnd9_ P hp Hd r := by
    have hall : ∀ i, i < 8 → ain_ (Int64.ofNat c) (Int32.ofNat i) = Hd i := by
      intro i hi
      cases hp with
      | none => exact ain_oc p6 (p7 rfl) hi
      | some p => exact ain_oc p6 (p8 p rfl).2.1 hi
    by_cases q : wi_ r 0 7 = true
    · rw [if_pos q]
      obtain ⟨w1, w2⟩ := wi_t.mp q
      have w1' : (0 : Int) ≤ r.toInt := w1
      have w2' : r.toInt ≤ 7 := w2
      obtain ⟨i, rfl, e2, e3⟩ := w_of (x := r) w1'
      rw [hall i (by omega)]
      cases hp with
      | none => exact (p7 rfl).2 i (Nat.zero_le _) (by omega)
      | some p =>
        show Hd i = if 0 ≤ (Int32.ofNat i).toInt ∧ (Int32.ofNat i).toInt < qr_ P p then Hd (Int32.ofNat i).toNatClampNeg else -1
        rw [w_cl e3]
        by_cases q2 : 0 ≤ (Int32.ofNat i).toInt ∧ (Int32.ofNat i).toInt < qr_ P p
        · rw [if_pos q2]
        · rw [if_neg q2]; exact (p8 p rfl).2.1.2 i (by omega) (by omega)
    · rw [if_neg q]
      cases hp with
      | none => rfl
      | some p =>
        show -1 = if 0 ≤ r.toInt ∧ r.toInt < qr_ P p then Hd r.toNatClampNeg else -1
        have h8 := c3.2.1.2.2.1 p
        rw [if_neg (fun z => q (wi_t.mpr ⟨z.1, by show r.toInt ≤ 7; omega⟩))]
  rw [e] at D1
  obtain ⟨hM2, ck⟩ := hM.u0 (v := 0)
  exact ⟨_, h, _, D1, D2, na, F, G, P, nf, Lf, tl, T, hp, Hd, c, wn, Od, L, hC.ck ck, hM2, hp', by rw [ck.2.1]; omega, by rw [ck.2.2]; omega⟩
theorem o_order {r : Int32} (I : IV_ n h) (hd : 50 ≤ d) : OK2_ xs d 76 [vA (some 25165831), vI r] 140 [vA (some 33554440), vI r] n h := by
  obtain ⟨na, F, G, P, nf, Lf, tl, T, hp, Hd, c, wn, Od, L, hC, hM, hp', hx, hs⟩ := I
  obtain ⟨c1, ⟨sa, c2⟩, ⟨sp, c3⟩, c4, c5, c6, c7, -⟩ := id hC
  obtain ⟨m1, m2, m3, m4, m5, m6, m7, -⟩ := id hM
  have D1 := x_order (xs := xs) (d := d) (i := r) c1 c7 (by omega)
  have D2 := m_order (xs := xs) (d := d) (i := r) m1 m7
  obtain ⟨hM2, ck⟩ := hM.u0 (v := 0)
  exact ⟨_, h, _, D1, D2, na, F, G, P, nf, Lf, tl, T, hp, Hd, c, wn, Od, L, hC.ck ck, hM2, hp', by rw [ck.2.1]; omega, by rw [ck.2.2]; omega⟩
theorem o_held {a b : Int32} (I : IV_ n h) (hd : 50 ≤ d) : OK2_ xs d 80 [vA (some 25165831), vI a, vI b] 146 [vA (some 33554440), vI a, vI b, vX 0, vX 0] n h := by
  obtain ⟨na, F, G, P, nf, Lf, tl, T, hp, Hd, c, wn, Od, L, hC, hM, hp', hx, hs⟩ := I
  obtain ⟨c1, ⟨sa, c2⟩, ⟨sp, c3⟩, c4, c5, c6, c7, c8, c9⟩ := id hC
  obtain ⟨r, D1⟩ := x_held (xs := xs) (d := d) (ho := a) (da := b) c1 c4 (by omega)
  have f : FX_ [29361424] [] h (uI_ h 29361424 r) := FX_.rf.uI (Or.inl (by decide)) (by decide)
  have hC1 := hC.fx f (by decide) (fun a ha => Or.inr rfl)
  have hM1 := hM.mk (f.mk c9 (by decide))
  obtain ⟨m1, m2, m3, m4, -⟩ := id hM1
  have D2 := m_held (xs := xs) (d := d) (ho := a) (da := b) m1 m4 (by omega)
  obtain ⟨hM2, ck⟩ := hM1.u0 (v := 0)
  exact ⟨_, _, _, D1, D2, na, F, G, P, nf, Lf, tl, T, hp, Hd, c, wn, Od, L, hC1.ck ck, hM2, hp', by rw [ck.2.1]; show nx_ h ≤ _; omega, by rw [ck.2.2]; show sl_ h ≤ _; omega⟩
theorem o_count {a : Int32} (I : IV_ n h) (hd : 50 ≤ d) : OK2_ xs d 87 [vA (some 25165831), vI a] 173 [vA (some 33554440), vI a, vX 0, vX 0] n h := by
  obtain ⟨na, F, G, P, nf, Lf, tl, T, hp, Hd, c, wn, Od, L, hC, hM, hp', hx, hs⟩ := I
  obtain ⟨c1, ⟨sa, c2⟩, ⟨sp, c3⟩, c4, c5, c6, c7, c8, c9⟩ := id hC
  obtain ⟨m1, m2, m3, m4, m5, m6, m7, ⟨B, N, b1, b2, b3, b4, b5, b6⟩, m9⟩ := id hM
  obtain ⟨cG, cW, cN, cP, cT, hX⟩ := c8.cx c1
  have D1 := x_count (xs := xs) (d := d) (w := a) c1 c2 c3.1 c4.1 hX.1 hX.2.2.2.2.2.1.1 hX.2.2.2.2.2.2.1 c6.1 c7.1 c5.1 (by omega)
  have D2 := m_count (xs := xs) (d := d) (w := a) m1 m2 m3.1 m4.1 b3 m6.1 m7.1 m5.1
  obtain ⟨hM2, ck⟩ := hM.u0 (v := 0)
  exact ⟨_, h, _, D1, D2, na, F, G, P, nf, Lf, tl, T, hp, Hd, c, wn, Od, L, hC.ck ck, hM2, hp', by rw [ck.2.1]; omega, by rw [ck.2.2]; omega⟩
theorem o_playable (I : IV_ n h) (hd : 50 ≤ d) : OK2_ xs d 74 [vA (some 25165831), vX 0, vX 0, vX 0] 136 [vA (some 33554440), vX 0, vX 0] n h := by
  obtain ⟨na, F, G, P, nf, Lf, tl, T, hp, Hd, c, wn, Od, L, hC, hM, hp', hx, hs⟩ := I
  obtain ⟨c1, ⟨sa, c2⟩, ⟨sp, c3⟩, c4, c5, c6, c7, c8, c9⟩ := id hC
  obtain ⟨p1, p2, p3, p4, p5, p6, p7, p8⟩ := id hp'
  obtain ⟨h1, f, D1⟩ := x_playable (xs := xs) (d := d) c1 c2 c3 p1 (by omega)
  obtain ⟨hC1, mk, e1, e2⟩ := hC.kf f
  have hM1 := hM.mk mk
  obtain ⟨m1, m2, m3, m4, m5, m6, m7, m8, ⟨σ, Hs, O, T', U', m9⟩⟩ := id hM1
  obtain ⟨h2, T2, U2, σ2, Hs2, O2, k, -, k2, k3, D2⟩ := m_playable (xs := xs) (d := d) m1 m2 m3 m9 p1 (by omega)
  have k' := k.wk (W' := [38535696, 38273552, 38011408]) (J' := [0, 19, 22, 26, 27, 32, 33]) (by decide) (by decide)
  obtain ⟨hM2, ck⟩ := hM1.km (hp' := hp) (Hd' := Hd) k' ⟨_, _, _, _, _, k3⟩ ⟨by rw [k.2.1 19 (by decide)]; exact m6.1, m6.2.1, fun hn i hi => by rw [k2]; exact m6.2.2 hn i hi⟩
  have em : msk_ (cbc_ F G P na) (qn_ P) = msk_ (mpb_ F G P na) (qn_ P) := msk_congr (fun i _ => cbc_mpb c3.2.1 p1 c2.2.1)
  rw [em] at D1
  exact ⟨_, h1, h2, D1, D2, na, F, G, P, nf, Lf, tl, T, hp, Hd, c, wn, Od, L, hC1.ck ck, hM2, hp', by rw [ck.2.1]; omega, by rw [ck.2.2]; omega⟩
theorem o_fill {v : Int32} (I : IV_ n h) (hd : 50 ≤ d) : OK2_ xs d 77 [vA (some 25165831), vI v, vX 0, vX 0, vX 0, vX 0, vX 0] 142 [vA (some 33554440), vI v, vX 0, vX 0] n h := by
  obtain ⟨na, F, G, P, nf, Lf, tl, T, hp, Hd, c, wn, Od, L, hC, hM, hp', hx, hs⟩ := I
  obtain ⟨c1, ⟨sa, c2⟩, ⟨sp, c3⟩, c4, c5, c6, c7, c8, c9⟩ := id hC
  obtain ⟨p1, p2, p3, p4, p5, p6, p7, p8⟩ := id hp'
  obtain ⟨h1, f, D1⟩ := x_fill (xs := xs) (d := d) (v := v) c1 c2 c3 p1 p2 (by omega)
  obtain ⟨hC1, mk, e1, e2⟩ := hC.kf f
  have hM1 := hM.mk mk
  obtain ⟨m1, m2, m3, m4, m5, m6, m7, m8, ⟨σ, Hs, O, T', U', m9⟩⟩ := id hM1
  obtain ⟨h2, T2, U2, σ2, Hs2, O2, k, -, k2, k3, D2⟩ := m_fill (xs := xs) (d := d) (v := v) m1 m2 m3 m9 p1 p2 (by omega)
  have k' := k.wk (W' := [38535696, 38273552, 38011408]) (J' := [0, 19, 22, 26, 27, 32, 33]) (by decide) (by decide)
  obtain ⟨hM2, ck⟩ := hM1.km (hp' := hp) (Hd' := Hd) k' ⟨_, _, _, _, _, k3⟩ ⟨by rw [k.2.1 19 (by decide)]; exact m6.1, m6.2.1, fun hn i hi => by rw [k2]; exact m6.2.2 hn i hi⟩
  have em : fo_ (cbc_ F G P na) (qn_ P) = fo_ (mpb_ F G P na) (qn_ P) := fo_congr (fun i _ => cbc_mpb c3.2.1 p1 c2.2.1)
  rw [em] at D1
  exact ⟨_, h1, h2, D1, D2, na, F, G, P, nf, Lf, tl, T, hp, Hd, c, wn, Od, L, hC1.ck ck, hM2, hp', by rw [ck.2.1]; omega, by rw [ck.2.2]; omega⟩
theorem o_week {v : Int32} (I : IV_ n h) (hd : 50 ≤ d) : OK2_ xs d 75 [vA (some 25165831), vI v] 139 [vA (some 33554440), vI v] n h := by
  obtain ⟨na, F, G, P, nf, Lf, tl, T, hp, Hd, c, wn, Od, L, hC, hM, hp', hx, hs⟩ := I
  obtain ⟨c1, ⟨sa, c2⟩, ⟨sp, c3⟩, c4, c5, c6, c7, c8, c9⟩ := id hC
  obtain ⟨p1, p2, p3, p4, p5, p6, p7, p8⟩ := id hp'
  obtain ⟨h1, f, x3⟩ := x_week (xs := xs) (d := d) (v := v) c1 c3 p2 (by omega)
  obtain ⟨dA, dP⟩ := dfix (W := [27000838, 27263504, 27529232, 27918352, 28049936]) (by decide)
  have hM1 := hM.mk (f.fx.mk c9 (by decide))
  obtain ⟨m1, m2, m3, m4, m5, m6, m7, m8, m9⟩ := id hM1
  obtain ⟨h2, k, y3⟩ := m_week (xs := xs) (d := d) (v := v) m1 m3 p2 (by omega)
  have ck := k.ck (by decide)
  have hcls : ∀ wn' Od', CW_ wn' Od' h1 → CLS_ na F G P nf Lf tl T hp c wn' Od' L h2 := fun wn' Od' hW => CLS_.ck ck ⟨f.cs c1, ⟨sa, f.ca c2⟩, ⟨sp, f.cp c3⟩, c4.fx f.fx c9 (by decide), c5.fx f.fx c9 (by decide) (by decide), c6.fx f.fx (by decide), hW, c8.fx f.fx c9 (by decide), by rw [f.2.2.2.1]; exact c9⟩
  have hmod : ∀ wn' Od', MW_ wn' Od' h2 → MOD_ na F G P nf Lf tl T hp Hd wn' Od' L h2 := fun wn' Od' hW => ⟨k.MS m1, m2.wf k.wf (by decide) (by decide), m3.wf k.wf (by decide) (by decide), m4.wf k.wf (by decide) (by decide), m5.wf k.wf (by decide) (by decide), m6.wf k.wf (by decide) (by decide), hW, m8.wf k.wf (by decide) (by decide), m9.wf k.wf ⟨by rw [k.2.1], by rw [k.2.1]⟩ (by decide) (by decide)⟩
  have bd : nx_ h2 ≤ 164 + 4 * (n + 1) ∧ sl_ h2 ≤ 100000 + 29 * (n + 1) := by rw [ck.2.1, ck.2.2, f.2.2.2.1, f.2.2.2.2]; omega
  by_cases q : okWk_ P v = true
  · rw [if_pos q] at x3 y3
    exact ⟨_, h1, h2, x3.1, y3.1, na, F, G, P, nf, Lf, tl, T, hp, Hd, c, _, _, L, hcls _ _ x3.2, hmod _ _ y3.2, hp', bd⟩
  · rw [if_neg q] at x3 y3
    obtain ⟨rfl, D1⟩ := x3
    obtain ⟨rfl, D2⟩ := y3
    obtain ⟨hM2, -⟩ := hM1.u0 (v := 0)
    exact ⟨_, h1, _, D1, D2, na, F, G, P, nf, Lf, tl, T, hp, Hd, c, wn, Od, L, hcls _ _ c7, hM2, hp', bd⟩
theorem o_fact {a b e : Int32} (I : IV_ n h) (hd : 50 ≤ d) : OK2_ xs d 78 [vA (some 25165831), vI a, vI b, vI e] 143 [vA (some 33554440), vI a, vI b, vI e] n h := by
  obtain ⟨na, F, G, P, nf, Lf, tl, T, hp, Hd, c, wn, Od, L, hC, hM, hp', hx, hs⟩ := I
  obtain ⟨c1, ⟨sa, c2⟩, ⟨sp, c3⟩, c4, c5, c6, c7, c8, c9⟩ := id hC
  obtain ⟨h1, f, fR, x1, x2, x3⟩ := x_fact (xs := xs) (d := d) (it := a) (da := b) (ho := e) c1 c4 (by omega)
  obtain ⟨dA, dP⟩ := dfix (W := [28311555, 28586512, 28848656, 29110800]) (by decide)
  obtain ⟨m1, m2, m3, m4, m5, m6, m7, m8, m9⟩ := hM.mk (f.mk c9 (by decide))
  obtain ⟨h2, k, -, y3⟩ := m_fact (xs := xs) (d := d) (it := a) (da := b) (ho := e) m1 m4 (by omega)
  have ck := k.ck (by decide)
  have hcls : ∀ nf' Lf', CL_ nf' Lf' h1 → CLS_ na F G P nf' Lf' tl T hp c wn Od L h2 := fun nf' Lf' hL => CLS_.ck ck ⟨c1.fx f c9 (fun a ha => Or.inr (fR a)), ⟨sa, c2.fx f c9 (by decide) (by decide) dA⟩, ⟨sp, c3.fx f c9 (by decide) (by decide) dP⟩, hL, c5.fx f c9 (by decide) (by decide), c6.fx f (by decide), c7.fx f c9 (by decide), c8.fx f c9 (by decide), Nat.le_trans c9 f.2.2.2.2⟩
  have hmod : ∀ nf' Lf', ML_ nf' Lf' h2 → MOD_ na F G P nf' Lf' tl T hp Hd wn Od L h2 := fun nf' Lf' hL => ⟨k.MS m1, m2.wf k.wf (by decide) (by decide), m3.wf k.wf (by decide) (by decide), hL, m5.wf k.wf (by decide) (by decide), m6.wf k.wf (by decide) (by decide), m7.wf k.wf (by decide) (by decide), m8.wf k.wf (by decide) (by decide), m9.wf k.wf ⟨by rw [k.2.1], by rw [k.2.1]⟩ (by decide) (by decide)⟩
  have bd : nx_ h2 ≤ 164 + 4 * (n + 1) ∧ sl_ h2 ≤ 100000 + 29 * (n + 1) := by rw [ck.2.1, ck.2.2]; omega
  by_cases q : okF_ nf a b e = true
  · rw [if_pos q] at x3 y3
    exact ⟨_, h1, h2, x3.1, y3.1, na, F, G, P, _, _, tl, T, hp, Hd, c, wn, Od, L, hcls _ _ x3.2, hmod _ _ y3.2, hp', bd⟩
  · rw [if_neg q] at x3 y3
    exact ⟨_, h1, h2, x3.1, y3.1, na, F, G, P, nf, Lf, tl, T, hp, Hd, c, wn, Od, L, hcls _ _ x3.2, hmod _ _ y3.2, hp', bd⟩
theorem o_feed {a b e f' g : Int32} (I : IV_ n h) (hd : 50 ≤ d) : OK2_ xs d 81 [vA (some 25165831), vI a, vI b, vI e, vI f', vI g] 147 [vA (some 33554440), vI a, vI b, vI e, vI f', vI g, vX 0, vX 0] n h := by
  obtain ⟨na, F, G, P, nf, Lf, tl, T, hp, Hd, c, wn, Od, L, hC, hM, hp', hx, hs⟩ := I
  obtain ⟨c1, ⟨sa, c2⟩, ⟨sp, c3⟩, c4, c5, c6, c7, c8, c9⟩ := id hC
  obtain ⟨h1, f, fR, x1, x2, x3⟩ := x_feed (xs := xs) (d := d) (a := a) (b := b) (c := e) (e := f') (f := g) c1 c5 (by omega)
  obtain ⟨dA, dP⟩ := dfix (W := [29673489]) (by decide)
  obtain ⟨m1, m2, m3, m4, m5, m6, m7, m8, m9⟩ := hM.mk (f.mk c9 (by decide))
  obtain ⟨h2, k, -, y3⟩ := m_feed (xs := xs) (d := d) (a := a) (b := b) (c := e) (e := f') (f := g) m1 m5 (by omega)
  have ck := k.ck (by decide)
  have hcls : ∀ tl' T', CT_ tl' T' h1 → CLS_ na F G P nf Lf tl' T' hp c wn Od L h2 := fun tl' T' hT => CLS_.ck ck ⟨c1.fx f c9 (fun a ha => Or.inr (fR a)), ⟨sa, c2.fx f c9 (by decide) (by decide) dA⟩, ⟨sp, c3.fx f c9 (by decide) (by decide) dP⟩, c4.fx f c9 (by decide), hT, c6.fx f (by decide), c7.fx f c9 (by decide), c8.fx f c9 (by decide), Nat.le_trans c9 f.2.2.2.2⟩
  have hmod : ∀ tl' T', MT_ tl' T' h2 → MOD_ na F G P nf Lf tl' T' hp Hd wn Od L h2 := fun tl' T' hT => ⟨k.MS m1, m2.wf k.wf (by decide) (by decide), m3.wf k.wf (by decide) (by decide), m4.wf k.wf (by decide) (by decide), hT, m6.wf k.wf (by decide) (by decide), m7.wf k.wf (by decide) (by decide), m8.wf k.wf (by decide) (by decide), m9.wf k.wf ⟨by rw [k.2.1], by rw [k.2.1]⟩ (by decide) (by decide)⟩
  have bd : nx_ h2 ≤ 164 + 4 * (n + 1) ∧ sl_ h2 ≤ 100000 + 29 * (n + 1) := by rw [ck.2.1, ck.2.2]; omega
  by_cases q : tl + 20 ≤ 800
  · rw [if_pos q] at x3 y3
    refine ⟨_, h1, h2, x3.1, y3.1, na, F, G, P, nf, Lf, _, _, hp, Hd, c, wn, Od, L, hcls _ _ x3.2, hmod _ _ y3.2, ?_, bd⟩
    obtain ⟨p1, p2, p3, p4, p5⟩ := hp'
    refine ⟨p1, p2, p3, fun i hi => ?_, p5⟩
    unfold fdT_
    by_cases qi : tl ≤ i
    · rw [if_pos qi]
      exact i8_rt
    · rw [if_neg qi]; exact p4 i (by omega)
  · rw [if_neg q] at x3 y3
    exact ⟨_, h1, h2, x3.1, y3.1, na, F, G, P, nf, Lf, tl, T, hp, Hd, c, wn, Od, L, hcls _ _ x3.2, hmod _ _ y3.2, hp', bd⟩
theorem o_end {a : Int32} (I : IV_ n h) (hd : 50 ≤ d) : OK2_ xs d 82 [vA (some 25165831), vI a] 148 [vA (some 33554440), vI a] n h := by
  obtain ⟨na, F, G, P, nf, Lf, tl, T, hp, Hd, c, wn, Od, L, hC, hM, hp', hx, hs⟩ := I
  obtain ⟨c1, ⟨sa, c2⟩, ⟨sp, c3⟩, c4, c5, c6, c7, c8, c9⟩ := id hC
  obtain ⟨h1, f, fR, x1, x2, x3⟩ := x_end (xs := xs) (d := d) (n := a) c5 (by omega)
  obtain ⟨dA, dP⟩ := dfix (W := []) (by decide)
  obtain ⟨m1, m2, m3, m4, m5, m6, m7, m8, m9⟩ := hM.mk (f.mk c9 (by decide))
  obtain ⟨h2, k, -, y3⟩ := m_end (xs := xs) (d := d) (n := a) m5
  have ck := k.ck (by decide)
  have hcls : ∀ tl' T', CT_ tl' T' h1 → CLS_ na F G P nf Lf tl' T' hp c wn Od L h2 := fun tl' T' hT => CLS_.ck ck ⟨c1.fx f c9 (fun a ha => Or.inr (fR a)), ⟨sa, c2.fx f c9 (by decide) (by decide) dA⟩, ⟨sp, c3.fx f c9 (by decide) (by decide) dP⟩, c4.fx f c9 (by decide), hT, c6.fx f (by decide), c7.fx f c9 (by decide), c8.fx f c9 (by decide), Nat.le_trans c9 f.2.2.2.2⟩
  have hmod : ∀ tl' T', MT_ tl' T' h2 → MOD_ na F G P nf Lf tl' T' hp Hd wn Od L h2 := fun tl' T' hT => ⟨k.MS m1, m2.wf k.wf (by decide) (by decide), m3.wf k.wf (by decide) (by decide), m4.wf k.wf (by decide) (by decide), hT, m6.wf k.wf (by decide) (by decide), m7.wf k.wf (by decide) (by decide), m8.wf k.wf (by decide) (by decide), m9.wf k.wf ⟨by rw [k.2.1], by rw [k.2.1]⟩ (by decide) (by decide)⟩
  have bd : nx_ h2 ≤ 164 + 4 * (n + 1) ∧ sl_ h2 ≤ 100000 + 29 * (n + 1) := by rw [ck.2.1, ck.2.2]; omega
  by_cases q : 0 ≤ a.toInt ∧ a.toInt ≤ tl
  · rw [if_pos q] at x3 y3
    refine ⟨_, h1, h2, x3.1, y3.1, na, F, G, P, nf, Lf, _, _, hp, Hd, c, wn, Od, L, hcls _ _ x3.2, hmod _ _ y3.2, ?_, bd⟩
    obtain ⟨p1, p2, p3, p4, p5⟩ := hp'
    refine ⟨p1, p2, p3, fun i hi => p4 i ?_, p5⟩
    obtain ⟨k', rfl, e2, e3⟩ := w_of (x := a) q.1
    rw [w_cl e3] at hi
    omega
  · rw [if_neg q] at x3 y3
    exact ⟨_, h1, h2, x3.1, y3.1, na, F, G, P, nf, Lf, tl, T, hp, Hd, c, wn, Od, L, hcls _ _ x3.2, hmod _ _ y3.2, hp', bd⟩
end OPC
