/-! fit, anew, terms, may, broken -/
section PLEN
variable {S : Nat → Nat} {W : Nat → Int32} {f : Nat}
theorem ptb_len {w : Nat} {am : Int32} {j : Nat} (hf : ∀ k, f ≤ k → S k = 0) (hW : ∀ k, S k = 2 → ∃ n, W k = Int32.ofNat n ∧ n < 1000000) (hS : ∀ k, S k < 25) (hj : j ≤ f) : ∀ t k, ptb_ S W w am j = .inr (t, k) → j + t.2.2.1.1.length ≤ k ∧ k ≤ f := by
  have lt : ∀ k, S k ≠ 0 → k < f := fun k z => by
    rcases Nat.lt_or_ge k f with y | y
    · exact y
    · exact absurd (hf k y) z
  intro t k h
  unfold ptb_ at h
  by_cases q : S j = 14
  · rw [if_pos q] at h
    have hE := pE_ok hf hW hS 8 (j + 1) (lt j (by omega))
    cases hr : pE_ S W 8 (j + 1) with
    | inl y => rw [hr] at h; cases h
    | inr y =>
      obtain ⟨e, k1⟩ := y
      rw [hr] at h hE
      obtain ⟨a1, a2, a3, a4⟩ := hE
      dsimp only at h
      by_cases q2 : S k1 = 6
      · rw [if_pos q2] at h
        injection h with h
        injection h with h1 h2
        rw [← h1, ← h2]
        have := lt k1 (by omega)
        dsimp only
        omega
      · rw [if_neg q2] at h; cases h
  · rw [if_neg q] at h; cases h
theorem ptm_len {c0 k0 : Nat} (hf : ∀ k, f ≤ k → S k = 0) (hW : ∀ k, S k = 2 → ∃ n, W k = Int32.ofNat n ∧ n < 1000000) (hS : ∀ k, S k < 25) (hj : k0 ≤ f) : ∀ t k, ptm_ S W c0 k0 = .inr (t, k) → k0 + t.2.2.1.1.length ≤ k ∧ k ≤ f := by
  have lt : ∀ k, S k ≠ 0 → k < f := fun k z => by
    rcases Nat.lt_or_ge k f with y | y
    · exact y
    · exact absurd (hf k y) z
  intro t k h
  unfold ptm_ at h
  by_cases q : S k0 < 10 ∨ 13 < S k0
  · rw [if_pos q] at h; cases h
  · rw [if_neg q] at h
    have h1 := lt k0 (by omega)
    by_cases q2 : c0 = 10
    · rw [if_pos q2] at h; cases h
    · rw [if_neg q2] at h
      by_cases q3 : S k0 = 10
      · rw [if_pos q3] at h
        have := ptb_len hf hW hS (j := k0 + 1) h1 t k h
        omega
      · rw [if_neg q3] at h
        by_cases q4 : S (k0 + 1) = 2
        · rw [if_pos q4] at h
          have := ptb_len hf hW hS (j := k0 + 2) (lt (k0 + 1) (by omega)) t k h
          omega
        · rw [if_neg q4] at h; cases h
theorem pts_len (hf : ∀ k, f ≤ k → S k = 0) (hW : ∀ k, S k = 2 → ∃ n, W k = Int32.ofNat n ∧ n < 1000000) (hS : ∀ k, S k < 25) : ∀ (m : Nat) (L : List Trm_) (k0 : Nat), k0 ≤ f → (sts_ L).length ≤ k0 → ∀ L', pts_ S W m L k0 = .inr L' → (sts_ L').length ≤ f := by
  intro m
  induction m with
  | zero =>
    intro L k0 h1 h2 L' h
    injection h with h
    rw [← h]; omega
  | succ m ih =>
    intro L k0 h1 h2 L' h
    have es : pts_ S W (m + 1) L k0 = if S k0 = 0 then .inr L else (match ptm_ S W L.length k0 with | .inl x => .inl x | .inr (t, k1) => pts_ S W m (L ++ [t]) k1) := rfl
    rw [es] at h
    by_cases q : S k0 = 0
    · rw [if_pos q] at h
      injection h with h
      rw [← h]; omega
    · rw [if_neg q] at h
      cases hr : ptm_ S W L.length k0 with
      | inl y => rw [hr] at h; cases h
      | inr y =>
        obtain ⟨t, k1⟩ := y
        rw [hr] at h
        have := ptm_len hf hW hS h1 t k1 hr
        exact ih (L ++ [t]) k1 this.2 (by rw [sts_snoc, List.length_append]; omega) L' h
end PLEN
theorem TL_agrd {T : Nat → Int32} {tl : Nat} {L : List Trm_} (h8 : tl ≤ 800) (hL : TL_ L) (hps : ∀ L', ptx_ T tl = .inr L' → ∀ t, t ∈ L' → okt_ (stk_ T tl) (vlk_ T tl) t) : TL_ (agrd_ T tl L) := by
  unfold agrd_
  cases hr : ptx_ T tl with
  | inl y => exact hL
  | inr L' =>
    refine ⟨fun i hi => ?_, ?_⟩
    · have hmem : L'.getD i dT_ ∈ L' := by rw [List.getD_eq_getElem?_getD, List.getElem?_eq_getElem hi]; exact List.getElem_mem _
      obtain ⟨w1, w2, w3, -⟩ := hps L' hr _ hmem
      exact ⟨w1, w2, w3⟩
    · have := pts_len (f := tl) (stk_0 (B := T)) (vlk_nat (B := T) (N := tl)) (fun k => stk_lt) 11 [] 0 (Nat.zero_le _) (Nat.zero_le _) L' hr
      show (sts_ L').length ≤ 800
      omega
section OPE
variable {xs : Nat → Int32} {d n : Nat} {h : AH}
theorem o_terms (I : IV_ n h) (hd : 50 ≤ d) : OK2_ xs d 83 [vA (some 25165831), vX 0, vX 0] 166 [vA (some 33554440), vX 0, vX 0] n h := by
  obtain ⟨na, F, G, P, nf, Lf, tl, T, hp, Hd, c, wn, Od, L, hC, hM, hp', hx, hs⟩ := I
  obtain ⟨c1, ⟨sa, c2⟩, ⟨sp, c3⟩, c4, c5, c6, c7, c8, c9⟩ := id hC
  obtain ⟨p1, p2, p3, p4, p5, p6, p7, p8⟩ := id hp'
  obtain ⟨h1, f, D1, x1, x2, x3, x4⟩ := x_terms (xs := xs) (d := d) c1 c8 c5 (by omega)
  obtain ⟨f1, f2, f3, f4, f5, f6⟩ := id f
  have hm : ∀ s k n, 164 ≤ s → k < 64 → n < 4096 → mk_ s k n ∉ [25165831, 29884421, 30459984, 30722128, 30932993, 31457936, 31720080, 32032784, 32243713, 32768656, 33030800, 33343504] ∧ mk_ s k n ∉ [30197846, 31195798, 32506518] ∧ mk_ s k n ≠ 29884421 ∧ mk_ s k n ≠ 25165831 := fun s k n hs hk hn => by
    have hsr := sr_mk (s := s) hk hn
    have h1 : ∀ a ∈ [25165831, 29884421, 30459984, 30722128, 30932993, 31457936, 31720080, 32032784, 32243713, 32768656, 33030800, 33343504], sr_ a < 164 := by decide
    have h2 : ∀ a ∈ [30197846, 31195798, 32506518], sr_ a < 164 := by decide
    refine ⟨fun z => by have := h1 _ z; omega, fun z => by have := h2 _ z; omega, fun z => ?_, fun z => ?_⟩
    · have := h1 29884421 (by decide); rw [← z] at this; omega
    · have := h1 25165831 (by decide); rw [← z] at this; omega
  have rI : ∀ s k n, 164 ≤ s → k < 64 → n < 4096 → hI_ h1 (mk_ s k n) = hI_ h (mk_ s k n) := fun s k n hs hk hn => f1 _ (hm s k n hs hk hn).1
  have rR : ∀ s k n, 164 ≤ s → k < 64 → n < 4096 → hR_ h1 (mk_ s k n) = hR_ h (mk_ s k n) := fun s k n hs hk hn => by
    funext j
    obtain ⟨-, q2, q3, q4⟩ := hm s k n hs hk hn
    exact f4 _ j q2 (fun z => absurd z q3) (fun z => absurd z q4)
  have fR : ∀ a, a ∉ [30197846, 31195798, 32506518] → a ≠ 29884421 → a ≠ 25165831 → hR_ h1 a = hR_ h a := fun a q1 q2 q3 => by
    funext j
    exact f4 a j q1 (fun z => absurd z q2) (fun z => absurd z q3)
  have mk : MK_ h h1 := fun a ha => by
    have d1 : ∀ b ∈ [25165831, 29884421, 30459984, 30722128, 30932993, 31457936, 31720080, 32032784, 32243713, 32768656, 33030800, 33343504], ¬ inM_ b := by decide
    have d2 : ∀ b ∈ [30197846, 31195798, 32506518], ¬ inM_ b := by decide
    exact ⟨f1 a (fun z => d1 a z ha), by rw [f3], fR a (fun z => d2 a z ha) (fun z => d1 _ (by decide) (z ▸ ha)) (fun z => d1 _ (by decide) (z ▸ ha))⟩
  have hM1 := hM.mk mk
  obtain ⟨m1, m2, m3, m4, m5, m6, m7, m8, m9⟩ := id hM1
  obtain ⟨h2, k, D2, y1, y2⟩ := m_terms (xs := xs) (d := d) m1 m5 p4 m8 ⟨x3, x4⟩ (by omega)
  have ck := k.ck (by decide)
  have hcls : CLS_ na F G P nf Lf 0 T hp c wn Od (agrd_ T tl L) h2 := CLS_.ck ck ⟨f.cs c1, ⟨sa, c2.fr (f2 1 (by decide)) (fR _ (by decide) (by decide) (by decide)) (fun s hs _ => ⟨rI s 0 0 hs (by decide) (by decide), rR s 0 0 hs (by decide) (by decide), rI s 16 12 hs (by decide) (by decide)⟩) (by rw [f5]; exact Nat.le_refl _)⟩, ⟨sp, c3.fr (f2 3 (by decide)) (fR _ (by decide) (by decide) (by decide)) (fun s hs _ => ⟨rI s 4 0 hs (by decide) (by decide), rR s 4 0 hs (by decide) (by decide), rI s 16 8 hs (by decide) (by decide), rI s 16 3 hs (by decide) (by decide)⟩) (by rw [f5]; exact Nat.le_refl _)⟩, CL_.eq (f1 _ (by decide)) (f1 _ (by decide)) (f1 _ (by decide)) (f1 _ (by decide)) c4, x1, ⟨by rw [f2 5 (by decide)]; exact c6.1, by rw [f3]; exact c6.2⟩, CW_.eq (f1 _ (by decide)) (f1 _ (by decide)) c7, x2, by rw [f5]; exact c9⟩
  have hmod : MOD_ na F G P nf Lf 0 T hp Hd wn Od (agrd_ T tl L) h2 := ⟨k.ms m1, m2.wf k.wf (by decide) (by decide), m3.wf k.wf (by decide) (by decide), m4.wf k.wf (by decide) (by decide), y1, m6.wf k.wf (by decide) (by decide), m7.wf k.wf (by decide) (by decide), y2, m9.wf k.wf ⟨k.2.2.2.2.1 24 (by decide), k.2.2.2.2.1 25 (by decide)⟩ (by decide) (by decide)⟩
  exact ⟨_, h1, h2, D1, D2, na, F, G, P, nf, Lf, 0, T, hp, Hd, c, wn, Od, _, hcls, hmod, ⟨p1, p2, p3, fun i hi => absurd hi (Nat.not_lt_zero _), TL_agrd c5.2.1 p5 x4, p6, p7, p8⟩, by rw [ck.2.1, f5]; omega, by rw [ck.2.2, f6]; omega⟩
theorem CB_of {na : Nat} {sa : Nat → Nat} {F G : Nat → Nat → Int32} {P : PS} {nf : Nat} {Lf : Nat → Nat → Int32} {tl : Nat} {T : Nat → Int32} {hp : Option Nat} {Hd : Nat → Int32} {c wn : Nat} {Od : Nat → Int32} {L : List Trm_} (hC : CLS_ na F G P nf Lf tl T hp c wn Od L h) (hA : CA_ na sa F G h) (hp' : PUR_ na F P tl T hp Hd c L) : CB_ na sa F G hp Hd c L h := by
  obtain ⟨c1, -, -, c4, c5, c6, c7, c8, c9⟩ := hC
  obtain ⟨p1, p2, p3, p4, p5, p6, p7, p8⟩ := hp'
  exact ⟨c1, hA, c6, HC_.of p6 p7 (fun p hp => (p8 p hp).2.1), p3, c8, p5⟩
theorem MB_of {na : Nat} {F G : Nat → Nat → Int32} {P : PS} {nf : Nat} {Lf : Nat → Nat → Int32} {tl : Nat} {T : Nat → Int32} {hp : Option Nat} {Hd : Nat → Int32} {c wn : Nat} {Od : Nat → Int32} {L : List Trm_} (hM : MOD_ na F G P nf Lf tl T hp Hd wn Od L h) (hp' : PUR_ na F P tl T hp Hd c L) : ∃ Hm, MB_ na F G hp Hm L h ∧ (∀ a day, env_ F G hp Hm a day = env_ F G hp Hd a day) ∧ (hp ≠ none → Hm = Hd) := by
  obtain ⟨m1, m2, m3, m4, m5, m6, m7, m8, m9⟩ := hM
  obtain ⟨p1, p2, p3, p4, p5, -⟩ := hp'
  obtain ⟨Hm, mh, hHm⟩ := m6.one
  refine ⟨Hm, ⟨m1, m2, mh, p3, m8, p5⟩, fun a day => ?_, hHm⟩
  cases hp with
  | none => rfl
  | some p => rw [hHm (fun z => nomatch z)]
theorem o_may {a b : Int32} (I : IV_ n h) (hd : 50 ≤ d) : OK2_ xs d 84 [vA (some 25165831), vI a, vI b, vX 0] 168 [vA (some 33554440), vI a, vI b, vX 0] n h := by
  obtain ⟨na, F, G, P, nf, Lf, tl, T, hp, Hd, c, wn, Od, L, hC, hM, hp', hx, hs⟩ := I
  obtain ⟨c1, ⟨sa, c2⟩, -⟩ := id hC
  have D1 := x_may (xs := xs) (d := d) (v := a) (day := b) (CB_of hC c2 hp') (by omega)
  obtain ⟨Hm, hMB, henv, -⟩ := MB_of hM hp'
  obtain ⟨h2, k, D2⟩ := m_may (xs := xs) (d := d) (v := a) (day := b) hMB (by omega)
  rw [henv] at D2
  have ck := k.ck (by decide)
  exact ⟨_, h, h2, D1, D2, na, F, G, P, nf, Lf, tl, T, hp, Hd, c, wn, Od, L, hC.ck ck, hM.kh k, hp', by rw [ck.2.1]; omega, by rw [ck.2.2]; omega⟩
theorem o_broken {b : Int32} (I : IV_ n h) (hd : 50 ≤ d) : OK2_ xs d 85 [vA (some 25165831), vI b, vX 0] 170 [vA (some 33554440), vI b, vX 0] n h := by
  obtain ⟨na, F, G, P, nf, Lf, tl, T, hp, Hd, c, wn, Od, L, hC, hM, hp', hx, hs⟩ := I
  obtain ⟨c1, ⟨sa, c2⟩, -⟩ := id hC
  have D1 := x_broken (xs := xs) (d := d) (day := b) (CB_of hC c2 hp') hM.2.2.2.2.2.1.2.1 (by omega)
  obtain ⟨Hm, hMB, henv, hHm⟩ := MB_of hM hp'
  obtain ⟨h2, k, D2⟩ := m_broken (xs := xs) (d := d) (day := b) hMB (by omega)
  have eb : brk_ L F G hp Hm na b = brk_ L F G hp Hd na b := by
    cases hp with
    | none => rfl
    | some p => rw [hHm (fun z => nomatch z)]
  rw [eb] at D2
  have ck := k.ck (by decide)
  exact ⟨_, h, h2, D1, D2, na, F, G, P, nf, Lf, tl, T, hp, Hd, c, wn, Od, L, hC.ck ck, hM.kh k, hp', by rw [ck.2.1]; omega, by rw [ck.2.2]; omega⟩
theorem o_fit {v : Int32} (I : IV_ n h) (hd : 50 ≤ d) : OK2_ xs d 71 [vA (some 25165831), vI v, vX 0, vX 0, vX 0] 132 [vA (some 33554440), vI v] n h := by
  obtain ⟨na, F, G, P, nf, Lf, tl, T, hp, Hd, c, wn, Od, L, hC, hM, hp', hx, hs⟩ := I
  obtain ⟨c1, ⟨sa, c2⟩, ⟨sp, c3⟩, c4, c5, c6, c7, c8, c9⟩ := id hC
  obtain ⟨p1, p2, p3, p4, p5, p6, p7, p8⟩ := id hp'
  by_cases q : 0 ≤ v.toInt ∧ v.toInt < qn_ P
  · obtain ⟨p, rfl, e2, e3⟩ := w_of (x := v) q.1
    have hp0 : p < qn_ P := by omega
    have h8 := c3.2.1.2.2.1 p
    obtain ⟨h1, y, f, hy, d1, d2⟩ := x_fit (xs := xs) (d := d) (p := p) c1 c2 c3 p1 hp0 (by omega)
    obtain ⟨hC1, mk, g1, g2⟩ := hC.kf f
    -- the model's side runs on the class's last heap
    have both : ∀ hh, MK_ h hh → ∃ h2 T' U' σ' Hs' O' o, KM_ [38535696, 38273552, 38011408] [0, 19, 22, 26, 27] hh h2 ∧ MC_ σ' Hs' O' T' U' h2 ∧ (∀ r, r < 8 → O' r = -1) ∧ CR_ F G P p na O' o Hs' ∧ hI_ h2 33554440 0 = 0 ∧ (o = none → hI_ h2 33554440 19 = hI_ hh 33554440 19 ∧ hI_ h2 38011408 = hI_ hh 38011408 ∧ Do_ xs d 132 [vA (some 33554440), vI (Int32.ofNat p)] hh (some (some (vI (-1)))) h2) ∧ (∀ b c, o = some (b, c) → hI_ h2 33554440 19 = Int32.ofNat p ∧ (∀ r, r < 8 → hI_ h2 38011408 r = if r < qr_ P p then Hs' r else -1) ∧ Do_ xs d 132 [vA (some 33554440), vI (Int32.ofNat p)] hh (some (some (vI (Int32.ofNat c)))) h2) := by
      intro hh hmk
      obtain ⟨m1, m2, m3, m4, m5, m6, m7, m8, ⟨σ, Hs, O, T', U', m9⟩⟩ := hM.mk hmk
      exact m_fit (xs := xs) (d := d) (p := p) m1 m2 m3 m9 p1 hp0 (by omega)
    have hOC : ∀ O' : Nat → Int32, (∀ r, r < 8 → O' r = -1) → OC_ 0 (qr_ P p) O' := fun O' hO => ⟨fun r hr => Or.inl ⟨hO r hr, by unfold dg_; simp⟩, fun r _ hr => hO r hr⟩
    by_cases qy : y = -1
    · obtain ⟨h2, T2, U2, σ2, Hs2, O2, o, k, k3, k4, k5, -, k6, k7⟩ := both h1 mk
      have ht := tie c3.2.1 c2.2.1 (hOC O2 k4) hy k5
      have ho : o = none := by
        cases o with
        | none => rfl
        | some bk => exact absurd qy (ht.2 bk.1 bk.2 rfl).1
      obtain ⟨u1, u2, D2⟩ := k6 ho
      have hM1 := hM.mk mk
      have m6 := hM1.2.2.2.2.2.1
      obtain ⟨hM2, ck⟩ := hM1.km (hp' := hp) (Hd' := Hd) (k.wk (by decide) (by decide)) ⟨_, _, _, _, _, k3⟩ ⟨by rw [u1]; exact m6.1, m6.2.1, fun hn i hi => by rw [u2]; exact m6.2.2 hn i hi⟩
      exact ⟨_, h1, h2, d1 qy, D2, na, F, G, P, nf, Lf, tl, T, hp, Hd, c, wn, Od, L, hC1.ck ck, hM2, hp', by rw [ck.2.1]; omega, by rw [ck.2.2]; omega⟩
    · obtain ⟨hh, hhh⟩ : ∃ hh, hh = uL_ (uI_ h1 25165831 (st_ (hI_ h1 25165831) 5 (Int32.ofNat p))) 25165831 (st_ (hL_ h1 25165831) 6 y) := ⟨_, rfl⟩
      have D1 := d2 qy
      rw [← hhh] at D1
      have mk2 : MK_ h1 hh := fun a ha => by
        have hX : a ≠ 25165831 := fun z => by rw [z] at ha; exact absurd ha (by decide)
        rw [hhh]
        exact ⟨by rw [hI_uL, hI_uI, if_neg hX], by rw [hL_uL, if_neg hX]; rfl, rfl⟩
      obtain ⟨h2, T2, U2, σ2, Hs2, O2, o, k, k3, k4, k5, -, k6, k7⟩ := both hh (mk.tr mk2)
      have ht := tie c3.2.1 c2.2.1 (hOC O2 k4) hy k5
      obtain ⟨b, kk, ho⟩ : ∃ b kk, o = some (b, kk) := by
        cases o with
        | none => exact absurd (ht.1 rfl) qy
        | some bk => exact ⟨bk.1, bk.2, rfl⟩
      obtain ⟨-, ff, hf, hA, ey, efl, -⟩ := ht.2 b kk ho
      obtain ⟨u1, u2, D2⟩ := k7 b kk ho
      rw [ey, us_fl, efl] at D1
      have hbd := cw_bd (c := 0) (f := ff)
      have hC2 : CLS_ na F G P nf Lf tl T (some p) (cw_ 8 (gw_ 0) ff) wn Od L hh := hC1.ch (fun a ha => by rw [hhh, hI_uL, hI_uI, if_neg ha]) (fun j hj => by rw [hhh, hI_uL, hI_uI, if_pos rfl, st_eq, if_neg hj]) (by rw [hhh]; rfl) (by rw [hhh]; rfl) ⟨by rw [hhh]; simp only [hI_uI, hL_uI, hR_uI, nx_uI, sl_uI, hI_uL, hL_uL, hR_uL, nx_uL, sl_uL, hI_uR, hL_uR, hR_uR, nx_uR, sl_uR, st_eq, if_true, if_false, eq_self, Nat.reduceEqDiff, Nat.reduceMul, reduceIte, kdT, ixT, w_cl, w_ti, w_s1, w_a, w_m12, w_m8, w_m3, w_m4]; rfl, by rw [hhh]; simp only [hI_uI, hL_uI, hR_uI, nx_uI, sl_uI, hI_uL, hL_uL, hR_uL, nx_uL, sl_uL, hI_uR, hL_uR, hR_uR, nx_uR, sl_uR, st_eq, if_true, if_false, eq_self, Nat.reduceEqDiff, Nat.reduceMul, reduceIte, kdT, ixT, w_cl, w_ti, w_s1, w_a, w_m12, w_m8, w_m3, w_m4]; exact ey⟩
      have hM1 := hM.mk (mk.tr mk2)
      have hp12 : p < 12 := by have := c3.2.1.1; omega
      obtain ⟨hM2, ck⟩ := hM1.km (hp' := some p) (Hd' := fun r => if r < qr_ P p then Hs2 r else -1) (k.wk (by decide) (by decide)) ⟨_, _, _, _, _, k3⟩ ⟨by rw [u1]; rfl, fun i hi => by injection hi with hi; omega, fun _ => u2⟩
      refine ⟨_, hh, h2, D1, D2, na, F, G, P, nf, Lf, tl, T, some p, _, cw_ 8 (gw_ 0) ff, wn, Od, L, hC2.ck ck, hM2, ⟨p1, p2, p3, p4, p5, by omega, fun z => (by cases z), fun i hi => ?_⟩, ?_, ?_⟩
      · injection hi with hi
        rw [← hi]
        exact ⟨hp0, hand_cw c2.2.1 hf h8 hA, by rw [us_fl, co_fl hf c2.2.1 h8 hA]⟩
      · rw [ck.2.1, hhh]; show nx_ h1 ≤ _; omega
      · rw [ck.2.2, hhh]; show sl_ h1 ≤ _; omega
  · have D1 := x_fit0 (xs := xs) (d := d) c1 c3 q (by omega)
    have D2 := m_fit0 (xs := xs) (d := d) hM.2.2.1 q (by omega)
    obtain ⟨hM2, ck⟩ := hM.u0 (v := 0)
    exact ⟨_, h, _, D1, D2, na, F, G, P, nf, Lf, tl, T, hp, Hd, c, wn, Od, L, hC.ck ck, hM2, hp', by rw [ck.2.1]; omega, by rw [ck.2.2]; omega⟩
theorem o_anew (I : IV_ n h) (hd : 50 ≤ d) : OK2_ xs d 72 [vA (some 25165831), vX 0, vX 0, vX 0, vX 0] 133 [vA (some 33554440), vX 0] n h := by
  obtain ⟨na, F, G, P, nf, Lf, tl, T, hp, Hd, c, wn, Od, L, hC, hM, hp', hx, hs⟩ := I
  obtain ⟨c1, ⟨sa, c2⟩, ⟨sp, c3⟩, c4, c5, c6, c7, c8, c9⟩ := id hC
  obtain ⟨p1, p2, p3, p4, p5, p6, p7, p8⟩ := id hp'
  cases hp with
  | none =>
    have D1 := x_anew0 (xs := xs) (d := d) c1 c3 c6 (by omega)
    obtain ⟨Hm, mh, -⟩ := hM.2.2.2.2.2.1.one
    have D2 := m_anew0 (xs := xs) (d := d) mh
    obtain ⟨hM2, ck⟩ := hM.u0 (v := 0)
    exact ⟨_, h, _, D1, D2, na, F, G, P, nf, Lf, tl, T, none, Hd, c, wn, Od, L, hC.ck ck, hM2, hp', by rw [ck.2.1]; omega, by rw [ck.2.2]; omega⟩
  | some p =>
    obtain ⟨hp0, hOc, hus⟩ := p8 p rfl
    have h8 := c3.2.1.2.2.1 p
    obtain ⟨h1, y, f, hy, d1, d2⟩ := x_anew (xs := xs) (d := d) (p := p) c1 c2 c3 p1 hp0 p6 c6 (by omega)
    obtain ⟨hC1, mk, g1, g2⟩ := hC.kf f
    have both : ∀ hh, MK_ h hh → ∃ h2 T' U' σ' Hs' O' o, KM_ [38535696, 38273552, 38011408] [0, 19, 22, 26, 27] hh h2 ∧ MC_ σ' Hs' O' T' U' h2 ∧ (∀ r, r < 8 → O' r = Hd r) ∧ CR_ F G P p na O' o Hs' ∧ hI_ h2 33554440 0 = 0 ∧ (o = none → hI_ h2 33554440 19 = hI_ hh 33554440 19 ∧ hI_ h2 38011408 = hI_ hh 38011408 ∧ Do_ xs d 133 [vA (some 33554440), vX 0] hh (some (some (vI (-1)))) h2) ∧ (∀ b c, o = some (b, c) → hI_ h2 33554440 19 = Int32.ofNat p ∧ (∀ r, r < 8 → hI_ h2 38011408 r = if r < qr_ P p then Hs' r else -1) ∧ Do_ xs d 133 [vA (some 33554440), vX 0] hh (some (some (vI (Int32.ofNat b)))) h2) := by
      intro hh hmk
      obtain ⟨m1, m2, m3, m4, m5, m6, m7, m8, ⟨σ, Hs, O, T', U', m9⟩⟩ := hM.mk hmk
      obtain ⟨Hm, mh, hHm⟩ := m6.one
      rw [hHm (fun z => nomatch z)] at mh
      exact m_anew (xs := xs) (d := d) (p := p) m1 m2 m3 m9 p1 mh (by omega)
    have hOC : ∀ O' : Nat → Int32, (∀ r, r < 8 → O' r = Hd r) → OC_ c (qr_ P p) O' := fun O' hO => ⟨fun r hr => by rw [hO r hr]; exact hOc.1 r hr, fun r q1 hr => by rw [hO r hr]; exact hOc.2 r q1 hr⟩
    have hco : ∀ O' : Nat → Int32, (∀ r, r < 8 → O' r = Hd r) → co_ O' = co_ Hd := fun O' hO => sm_congr (fun i hi => by rw [hO i hi])
    by_cases qy : y = -1
    · obtain ⟨h2, T2, U2, σ2, Hs2, O2, o, k, k3, k4, k5, -, k6, k7⟩ := both h1 mk
      have ht := tie c3.2.1 c2.2.1 (hOC O2 k4) hy k5
      have ho : o = none := by
        cases o with
        | none => rfl
        | some bk => exact absurd qy (ht.2 bk.1 bk.2 rfl).1
      obtain ⟨u1, u2, D2⟩ := k6 ho
      have hM1 := hM.mk mk
      have m6 := hM1.2.2.2.2.2.1
      obtain ⟨hM2, ck⟩ := hM1.km (hp' := some p) (Hd' := Hd) (k.wk (by decide) (by decide)) ⟨_, _, _, _, _, k3⟩ ⟨by rw [u1]; exact m6.1, m6.2.1, fun hn i hi => by rw [u2]; exact m6.2.2 hn i hi⟩
      exact ⟨_, h1, h2, d1 qy, D2, na, F, G, P, nf, Lf, tl, T, some p, Hd, c, wn, Od, L, hC1.ck ck, hM2, hp', by rw [ck.2.1]; omega, by rw [ck.2.2]; omega⟩
    · obtain ⟨hh, hhh⟩ : ∃ hh, hh = uL_ h1 25165831 (st_ (hL_ h1 25165831) 6 y) := ⟨_, rfl⟩
      have D1 := d2 qy
      rw [← hhh] at D1
      have mk2 : MK_ h1 hh := fun a ha => by
        have hX : a ≠ 25165831 := fun z => by rw [z] at ha; exact absurd ha (by decide)
        rw [hhh]
        exact ⟨rfl, by rw [hL_uL, if_neg hX], rfl⟩
      obtain ⟨h2, T2, U2, σ2, Hs2, O2, o, k, k3, k4, k5, -, k6, k7⟩ := both hh (mk.tr mk2)
      have ht := tie c3.2.1 c2.2.1 (hOC O2 k4) hy k5
      obtain ⟨b, kk, ho⟩ : ∃ b kk, o = some (b, kk) := by
        cases o with
        | none => exact absurd (ht.1 rfl) qy
        | some bk => exact ⟨bk.1, bk.2, rfl⟩
      obtain ⟨-, ff, hf, hA, ey, efl, ekp⟩ := ht.2 b kk ho
      obtain ⟨u1, u2, D2⟩ := k7 b kk ho
      rw [hco O2 k4] at ekp
      have er : ((us_ (Int64.ofNat c) 32).toInt32 &&& 15) - ((us_ y 36).toInt32 &&& 15) = Int32.ofNat b := by
        rw [ey, us_kp, hus, w_sub (by omega)]
        congr 1
        omega
      rw [er] at D1
      have hbd := cw_bd (c := c) (f := ff)
      have hC2 : CLS_ na F G P nf Lf tl T (some p) (cw_ 8 (gw_ c) ff) wn Od L hh := hC1.ch (fun a ha => by rw [hhh]; rfl) (fun j hj => by rw [hhh]; rfl) (by rw [hhh]; rfl) (by rw [hhh]; rfl) ⟨by rw [hhh]; exact hC1.2.2.2.2.2.1.1, by rw [hhh]; simp only [hI_uI, hL_uI, hR_uI, nx_uI, sl_uI, hI_uL, hL_uL, hR_uL, nx_uL, sl_uL, hI_uR, hL_uR, hR_uR, nx_uR, sl_uR, st_eq, if_true, if_false, eq_self, Nat.reduceEqDiff, Nat.reduceMul, reduceIte, kdT, ixT, w_cl, w_ti, w_s1, w_a, w_m12, w_m8, w_m3, w_m4]; exact ey⟩
      have hM1 := hM.mk (mk.tr mk2)
      have hp12 : p < 12 := by have := c3.2.1.1; omega
      obtain ⟨hM2, ck⟩ := hM1.km (hp' := some p) (Hd' := fun r => if r < qr_ P p then Hs2 r else -1) (k.wk (by decide) (by decide)) ⟨_, _, _, _, _, k3⟩ ⟨by rw [u1]; rfl, fun i hi => by injection hi with hi; omega, fun _ => u2⟩
      refine ⟨_, hh, h2, D1, D2, na, F, G, P, nf, Lf, tl, T, some p, _, cw_ 8 (gw_ c) ff, wn, Od, L, hC2.ck ck, hM2, ⟨p1, p2, p3, p4, p5, by omega, fun z => (by cases z), fun i hi => ?_⟩, ?_, ?_⟩
      · injection hi with hi
        rw [← hi]
        exact ⟨hp0, hand_cw c2.2.1 hf h8 hA, by rw [us_fl, co_fl hf c2.2.1 h8 hA]⟩
      · rw [ck.2.1, hhh]; show nx_ h1 ≤ _; omega
      · rw [ck.2.2, hhh]; show sl_ h1 ≤ _; omega
end OPE
