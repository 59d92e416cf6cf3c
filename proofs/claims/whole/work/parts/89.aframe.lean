/-! what a call leaves: the class's cells, the model's cells -/
abbrev inM_ (a : Nat) : Prop := 128 ≤ sr_ a ∧ sr_ a < 163
def MK_ (h h' : AH) : Prop := ∀ a, inM_ a → hI_ h' a = hI_ h a ∧ hL_ h' a = hL_ h a ∧ hR_ h' a = hR_ h a
def CK_ (h h' : AH) : Prop := (∀ a, ¬ inM_ a → hI_ h' a = hI_ h a ∧ hL_ h' a = hL_ h a ∧ hR_ h' a = hR_ h a) ∧ nx_ h' = nx_ h ∧ sl_ h' = sl_ h
def WF_ (W J : List Nat) (h h' : AH) : Prop := (∀ a, a ≠ 33554440 → a ∉ W → hI_ h' a = hI_ h a) ∧ (∀ j, j ∉ J → hI_ h' 33554440 j = hI_ h 33554440 j)
section WFS
variable {W J : List Nat} {h h1 : AH} {na : Nat} {F G : Nat → Nat → Int32} {P : PS} {nf : Nat} {Lf : Nat → Nat → Int32} {tl : Nat} {T : Nat → Int32} {hp : Option Nat} {Hd : Nat → Int32} {wn : Nat} {Od : Nat → Int32} {L : List Trm_}
theorem FM_.wf (f : FM_ W J h h1) : WF_ W J h h1 := ⟨f.2.2.2.2.1, f.2.2.2.2.2⟩
theorem KH_.wf (f : KH_ W J h h1) : WF_ W J h h1 := ⟨f.1, f.2.1⟩
theorem KM_.wf (f : KM_ W J h h1) : WF_ (38813712 :: 39075856 :: W) J h h1 := ⟨fun a q r => f.1 a q (fun z => r (by rw [z]; exact List.mem_cons_self)) (fun z => r (by rw [z]; exact List.mem_cons_of_mem _ List.mem_cons_self)) (fun z => r (List.mem_cons_of_mem _ (List.mem_cons_of_mem _ z))), f.2.1⟩
theorem MA_.wf (f : WF_ W J h h1) (hJ : 1 ∉ J) (hW : ∀ a ∈ [33817360, 34079504, 34341648, 34603794, 34865938, 35136528], a ∉ W) (H : MA_ na F G h) : MA_ na F G h1 := MA_.eq (f.2 1 hJ) (f.1 _ (by decide) (hW _ (by decide))) (f.1 _ (by decide) (hW _ (by decide))) (f.1 _ (by decide) (hW _ (by decide))) (f.1 _ (by decide) (hW _ (by decide))) (f.1 _ (by decide) (hW _ (by decide))) (f.1 _ (by decide) (hW _ (by decide))) H
theorem MP_.wf (f : WF_ W J h h1) (hJ : 8 ∉ J) (hW : ∀ a ∈ [35390224, 35652368, 35914512, 36176656, 36438800, 37487376, 36706320, 36968464, 37230610, 37751056], a ∉ W) (H : MP_ P h) : MP_ P h1 := MP_.eq (f.2 8 hJ) (f.1 _ (by decide) (hW _ (by decide))) (f.1 _ (by decide) (hW _ (by decide))) (f.1 _ (by decide) (hW _ (by decide))) (f.1 _ (by decide) (hW _ (by decide))) (f.1 _ (by decide) (hW _ (by decide))) (f.1 _ (by decide) (hW _ (by decide))) (f.1 _ (by decide) (hW _ (by decide))) (f.1 _ (by decide) (hW _ (by decide))) (f.1 _ (by decide) (hW _ (by decide))) (f.1 _ (by decide) (hW _ (by decide))) H
theorem ML_.wf (f : WF_ W J h h1) (hJ : 34 ∉ J) (hW : ∀ a ∈ [39858704, 40120848, 40382992], a ∉ W) (H : ML_ nf Lf h) : ML_ nf Lf h1 := ML_.eq (f.2 34 hJ) (f.1 _ (by decide) (hW _ (by decide))) (f.1 _ (by decide) (hW _ (by decide))) (f.1 _ (by decide) (hW _ (by decide))) H
theorem MT_.wf (f : WF_ W J h h1) (hJ : 39 ∉ J) (hW : 40683537 ∉ W) (H : MT_ tl T h) : MT_ tl T h1 := MT_.eq (f.2 39 hJ) (f.1 _ (by decide) hW) H
theorem MH_.wf (f : WF_ W J h h1) (hJ : 19 ∉ J) (hW : 38011408 ∉ W) (H : MH_ hp Hd h) : MH_ hp Hd h1 := ⟨by rw [f.2 19 hJ]; exact H.1, H.2.1, fun i hi => by rw [f.1 _ (by decide) hW]; exact H.2.2 i hi⟩
theorem MW_.wf (f : WF_ W J h h1) (hJ : 28 ∉ J) (hW : 39322128 ∉ W) (H : MW_ wn Od h) : MW_ wn Od h1 := MW_.eq (f.2 28 hJ) (f.1 _ (by decide) hW) H
theorem MG_.wf (f : WF_ W J h h1) (hW : 40945681 ∉ W ∧ 41157264 ∉ W ∧ 41419408 ∉ W ∧ 41681552 ∉ W) (hJ : 60 ∉ J ∧ 41 ∉ J) (H : MG_ L h) : MG_ L h1 := by
  obtain ⟨B, N, a1, a2, a3, a4, a5, a6⟩ := H
  refine ⟨B, N, ⟨a1.1, fun i hi => by rw [f.1 _ (by decide) hW.1]; exact a1.2 i hi⟩, by rw [f.2 60 hJ.1]; exact a2, by rw [f.2 41 hJ.2]; exact a3, a4, fun i hi => ?_, a6⟩
  rw [f.1 _ (by decide) hW.2.1, f.1 _ (by decide) hW.2.2.1, f.1 _ (by decide) hW.2.2.2]
  exact a5 i hi
def MH2_ (hp : Option Nat) (Hd : Nat → Int32) (h : AH) : Prop := hI_ h 33554440 19 = oi_ hp ∧ (∀ p, hp = some p → p < 12) ∧ (hp ≠ none → ∀ r, r < 8 → hI_ h 38011408 r = Hd r)
theorem MH2_.wf (f : WF_ W J h h1) (hJ : 19 ∉ J) (hW : 38011408 ∉ W) (H : MH2_ hp Hd h) : MH2_ hp Hd h1 := ⟨by rw [f.2 19 hJ]; exact H.1, H.2.1, fun hn i hi => by rw [f.1 _ (by decide) hW]; exact H.2.2 hn i hi⟩
theorem MH2_.one (H : MH2_ hp Hd h) : ∃ Hm, MH_ hp Hm h ∧ (hp ≠ none → Hm = Hd) := by
  by_cases q : hp = none
  · exact ⟨hI_ h 38011408, ⟨H.1, H.2.1, fun _ _ => rfl⟩, fun z => absurd q z⟩
  · exact ⟨Hd, ⟨H.1, H.2.1, H.2.2 q⟩, fun _ => rfl⟩
def MCe_ (h : AH) : Prop := ∃ (σ : Nat) (Hs O : Nat → Int32) (T U : Nat), MC_ σ Hs O T U h
theorem MCe_.wf (f : WF_ W J h h1) (hR : hR_ h1 33554440 24 = hR_ h 33554440 24 ∧ hR_ h1 33554440 25 = hR_ h 33554440 25) (hJ : 22 ∉ J) (hW : 38535696 ∉ W ∧ 38273552 ∉ W) (H : MCe_ h) : MCe_ h1 := by
  obtain ⟨σ, Hs, O, T, U, e1, e2, e3, e4, e5, e6, e7⟩ := H
  exact ⟨σ, Hs, O, T, U, by rw [f.2 22 hJ]; exact e1, e2, fun r hr => by rw [f.1 _ (by decide) hW.1]; exact e3 r hr, fun r hr => by rw [f.1 _ (by decide) hW.2]; exact e4 r hr, by rw [hR.1]; exact e5, by rw [hR.2]; exact e6, e7⟩
/-- all of the model -/
def MOD_ (na : Nat) (F G : Nat → Nat → Int32) (P : PS) (nf : Nat) (Lf : Nat → Nat → Int32) (tl : Nat) (T : Nat → Int32) (hp : Option Nat) (Hd : Nat → Int32) (wn : Nat) (Od : Nat → Int32) (L : List Trm_) (h : AH) : Prop := MS_ h ∧ MA_ na F G h ∧ MP_ P h ∧ ML_ nf Lf h ∧ MT_ tl T h ∧ MH2_ hp Hd h ∧ MW_ wn Od h ∧ MG_ L h ∧ MCe_ h
theorem inM_id : inM_ 33554440 := by decide
theorem MOD_.mk (f : MK_ h h1) (H : MOD_ na F G P nf Lf tl T hp Hd wn Od L h) : MOD_ na F G P nf Lf tl T hp Hd wn Od L h1 := by
  obtain ⟨m1, m2, m3, m4, m5, m6, m7, m8, m9⟩ := H
  have eI : ∀ a, inM_ a → hI_ h1 a = hI_ h a := fun a ha => (f a ha).1
  have eR : hR_ h1 33554440 = hR_ h 33554440 := (f _ (by decide)).2.2
  obtain ⟨B, N, a1, a2, a3, a4, a5, a6⟩ := m8
  obtain ⟨σ, Hs, O, T', U', e1, e2, e3, e4, e5, e6, e7⟩ := m9
  refine ⟨m1.eq eR, MA_.eq (by rw [eI _ (by decide)]) (eI _ (by decide)) (eI _ (by decide)) (eI _ (by decide)) (eI _ (by decide)) (eI _ (by decide)) (eI _ (by decide)) m2, MP_.eq (by rw [eI _ (by decide)]) (eI _ (by decide)) (eI _ (by decide)) (eI _ (by decide)) (eI _ (by decide)) (eI _ (by decide)) (eI _ (by decide)) (eI _ (by decide)) (eI _ (by decide)) (eI _ (by decide)) (eI _ (by decide)) m3, ML_.eq (by rw [eI _ (by decide)]) (eI _ (by decide)) (eI _ (by decide)) (eI _ (by decide)) m4, MT_.eq (by rw [eI _ (by decide)]) (eI _ (by decide)) m5, ⟨by rw [eI _ (by decide)]; exact m6.1, m6.2.1, fun hn i hi => by rw [eI _ (by decide)]; exact m6.2.2 hn i hi⟩, MW_.eq (by rw [eI _ (by decide)]) (eI _ (by decide)) m7, ⟨B, N, ⟨a1.1, fun i hi => by rw [eI _ (by decide)]; exact a1.2 i hi⟩, by rw [eI _ (by decide)]; exact a2, by rw [eI _ (by decide)]; exact a3, a4, fun i hi => by rw [eI 41157264 (by decide), eI 41419408 (by decide), eI 41681552 (by decide)]; exact a5 i hi, a6⟩, ⟨σ, Hs, O, T', U', by rw [eI _ (by decide)]; exact e1, e2, fun r hr => by rw [eI _ (by decide)]; exact e3 r hr, fun r hr => by rw [eI _ (by decide)]; exact e4 r hr, by rw [eR]; exact e5, by rw [eR]; exact e6, e7⟩⟩
theorem FM_.ck (f : FM_ W J h h1) (hW : ∀ a ∈ W, inM_ a) : CK_ h h1 := ⟨fun a ha => ⟨f.2.2.2.2.1 a (fun z => ha (z ▸ inM_id)) (fun z => ha (hW a z)), by rw [f.1], by rw [f.2.1]⟩, f.2.2.1, f.2.2.2.1⟩
theorem KM_.ck (f : KM_ W J h h1) (hW : ∀ a ∈ W, inM_ a) : CK_ h h1 := ⟨fun a ha => ⟨f.1 a (fun z => ha (z ▸ inM_id)) (fun z => ha (by rw [z]; decide)) (fun z => ha (by rw [z]; decide)) (fun z => ha (hW a z)), by rw [f.2.2.1], f.2.2.2.1 a (fun z => ha (z ▸ inM_id))⟩, f.2.2.2.2.2.1, f.2.2.2.2.2.2⟩
theorem KH_.ck (f : KH_ W J h h1) (hW : ∀ a ∈ W, inM_ a) : CK_ h h1 := ⟨fun a ha => ⟨f.1 a (fun z => ha (z ▸ inM_id)) (fun z => ha (hW a z)), f.2.2.1 a (fun z => ha (z ▸ inM_id)), f.2.2.2.1 a (fun z => ha (z ▸ inM_id))⟩, f.2.2.2.2.2.1, f.2.2.2.2.2.2⟩
end WFS
/-! the class -/
section XFS
variable {W J : List Nat} {h h1 : AH} {na : Nat} {sa sp : Nat → Nat} {F G : Nat → Nat → Int32} {P : PS} {nf : Nat} {Lf : Nat → Nat → Int32} {tl : Nat} {T : Nat → Int32} {hp : Option Nat} {cs : Int64} {wn : Nat} {Od : Nat → Int32} {L : List Trm_}
/-- cells that are not the class's fixed ones, nor the actors', nor the plays' -/
theorem FX_.mk (f : FX_ W J h h1) (h0 : 164 ≤ nx_ h) (hW : ∀ a ∈ W, ¬ inM_ a) : MK_ h h1 := fun a ha => by
  have hlt : sr_ a < nx_ h := by have := ha.2; omega
  exact f.1 a (fun z => by rw [z] at ha; exact absurd ha (by decide)) (fun z => hW a z ha) hlt
theorem KF_.fx (f : KF_ h h1) : FX_ [25952258, 26230803, 26477264, 26739411] [] h h1 := by
  obtain ⟨f1, f2, f3, f4⟩ := f
  refine ⟨fun a _ q _ => ?_, fun j _ => ?_, ?_, by rw [f2], by rw [f3]; exact Nat.le_refl _⟩
  · simp only [List.mem_cons, List.not_mem_nil, or_false, not_or] at q
    obtain ⟨u, v⟩ := f1 a q.1 q.2.1 q.2.2.1 q.2.2.2
    exact ⟨u, v, by rw [f2]⟩
  · rw [(f1 25165831 (by decide) (by decide) (by decide) (by decide)).1]
  · exact (f1 25165831 (by decide) (by decide) (by decide) (by decide)).2
theorem KP_.fx (f : KP_ h h1) : FX_ [27000838, 27263504, 27529232, 27918352, 28049936] [] h h1 := by
  obtain ⟨f1, f2, f3, f4, f5⟩ := f
  refine ⟨fun a _ q _ => ?_, fun j _ => ?_, by rw [f2], by rw [f3], by rw [f4]; exact Nat.le_refl _⟩
  · simp only [List.mem_cons, List.not_mem_nil, or_false, not_or] at q
    exact ⟨f1 a q.1 q.2.1 q.2.2.1 q.2.2.2.1 q.2.2.2.2, by rw [f2], by rw [f3]⟩
  · rw [f1 25165831 (by decide) (by decide) (by decide) (by decide) (by decide)]
/-- the actors' cells, the plays' cells -/
def dA_ (W : List Nat) : Prop := ∀ s, 164 ≤ s → mk_ s 0 0 ∉ W ∧ mk_ s 16 12 ∉ W
def dP_ (W : List Nat) : Prop := ∀ s, 164 ≤ s → mk_ s 4 0 ∉ W ∧ mk_ s 16 8 ∉ W ∧ mk_ s 16 3 ∉ W
theorem dfix (hW : ∀ a ∈ W, sr_ a < 164) : dA_ W ∧ dP_ W := by
  have key : ∀ s k n, 164 ≤ s → k < 64 → n < 4096 → mk_ s k n ∉ W := fun s k n hs hk hn z => by
    have := hW _ z
    rw [sr_mk hk hn] at this
    omega
  exact ⟨fun s hs => ⟨key s 0 0 hs (by decide) (by decide), key s 16 12 hs (by decide) (by decide)⟩, fun s hs => ⟨key s 4 0 hs (by decide) (by decide), key s 16 8 hs (by decide) (by decide), key s 16 3 hs (by decide) (by decide)⟩⟩
theorem CS_.fx (f : FX_ W J h h1) (h0 : 164 ≤ nx_ h) (hW : ∀ a ∈ [25952258, 27000838, 28311555, 29884421, 30932993, 32243713], a ∉ W ∨ hR_ h1 a = hR_ h a) (H : CS_ h) : CS_ h1 := f.CS (fun a ha => by
  rcases hW a ha with z | z
  · have hd : ∀ a ∈ [25952258, 27000838, 28311555, 29884421, 30932993, 32243713], a ≠ 25165831 ∧ sr_ a < 164 := by decide
    exact (f.1 a (hd a ha).1 z (by have := (hd a ha).2; omega)).2.2
  · exact z) H
theorem CA_.fx (f : FX_ W J h h1) (h0 : 164 ≤ nx_ h) (hJ : 1 ∉ J) (hW : 25428756 ∉ W) (hd : dA_ W) (H : CA_ na sa F G h) : CA_ na sa F G h1 := by
  refine H.fr (f.2.1 1 hJ) (f.1 _ (by decide) hW (by have : sr_ 25428756 < 164 := by decide
                                                     omega)).2.2 (fun s hs hs2 => ?_) f.2.2.2.2
  have hm : ∀ k n, k < 64 → n < 4096 → mk_ s k n ≠ 25165831 := fun k n hk hn z => by
    have := sr_mk (s := s) hk hn
    rw [z] at this
    have h2 : sr_ 25165831 = 96 := by decide
    omega
  have e1 := f.1 (mk_ s 0 0) (hm 0 0 (by decide) (by decide)) (hd s hs).1 (by rw [sr_mk (by decide) (by decide)]; exact hs2)
  have e2 := f.1 (mk_ s 16 12) (hm 16 12 (by decide) (by decide)) (hd s hs).2 (by rw [sr_mk (by decide) (by decide)]; exact hs2)
  exact ⟨e1.1, e1.2.2, e2.1⟩
theorem CP_.fx (f : FX_ W J h h1) (h0 : 164 ≤ nx_ h) (hJ : 3 ∉ J) (hW : 25690901 ∉ W) (hd : dP_ W) (H : CP_ P sp h) : CP_ P sp h1 := by
  refine H.fr (f.2.1 3 hJ) (f.1 _ (by decide) hW (by have : sr_ 25690901 < 164 := by decide
                                                     omega)).2.2 (fun s hs hs2 => ?_) f.2.2.2.2
  have hm : ∀ k n, k < 64 → n < 4096 → mk_ s k n ≠ 25165831 := fun k n hk hn z => by
    have := sr_mk (s := s) hk hn
    rw [z] at this
    have h2 : sr_ 25165831 = 96 := by decide
    omega
  have e1 := f.1 (mk_ s 4 0) (hm 4 0 (by decide) (by decide)) (hd s hs).1 (by rw [sr_mk (by decide) (by decide)]; exact hs2)
  have e2 := f.1 (mk_ s 16 8) (hm 16 8 (by decide) (by decide)) (hd s hs).2.1 (by rw [sr_mk (by decide) (by decide)]; exact hs2)
  have e3 := f.1 (mk_ s 16 3) (hm 16 3 (by decide) (by decide)) (hd s hs).2.2 (by rw [sr_mk (by decide) (by decide)]; exact hs2)
  exact ⟨e1.1, e1.2.2, e2.1, e3.1⟩
theorem fx_row {a : Nat} (f : FX_ W J h h1) (h0 : 164 ≤ nx_ h) (ha : a ≠ 25165831 ∧ sr_ a < 164) (hW : a ∉ W) : hI_ h1 a = hI_ h a ∧ hR_ h1 a = hR_ h a := by
  have := f.1 a ha.1 hW (by omega)
  exact ⟨this.1, this.2.2⟩
theorem CL_.fx (f : FX_ W J h h1) (h0 : 164 ≤ nx_ h) (hW : ∀ a ∈ [28311555, 28586512, 28848656, 29110800], a ∉ W) (H : CL_ nf Lf h) : CL_ nf Lf h1 := CL_.eq (fx_row f h0 (by decide) (hW _ (by decide))).1 (fx_row f h0 (by decide) (hW _ (by decide))).1 (fx_row f h0 (by decide) (hW _ (by decide))).1 (fx_row f h0 (by decide) (hW _ (by decide))).1 H
theorem CT_.fx (f : FX_ W J h h1) (h0 : 164 ≤ nx_ h) (hJ : 10 ∉ J) (hW : 29673489 ∉ W) (H : CT_ tl T h) : CT_ tl T h1 := CT_.eq (f.2.1 10 hJ) (fx_row f h0 (by decide) hW).1 H
theorem CH_.fx (f : FX_ W J h h1) (hJ : 5 ∉ J) (H : CH_ hp cs h) : CH_ hp cs h1 := ⟨by rw [f.2.1 5 hJ]; exact H.1, by rw [f.2.2.1]; exact H.2⟩
theorem CW_.fx (f : FX_ W J h h1) (h0 : 164 ≤ nx_ h) (hW : 27000838 ∉ W ∧ 28049936 ∉ W) (H : CW_ wn Od h) : CW_ wn Od h1 := CW_.eq (fx_row f h0 (by decide) hW.1).1 (fx_row f h0 (by decide) hW.2).1 H
theorem CE_.fx (f : FX_ W J h h1) (h0 : 164 ≤ nx_ h) (hW : ∀ a ∈ [30932993, 31195798, 31457936, 31720080, 32032784, 32243713, 32506518, 32768656, 33030800, 33343504], a ∉ W) (H : CE_ L h) : CE_ L h1 := by
  have e := f.2.2.2.1
  have r := fun a (ha : a ≠ 25165831 ∧ sr_ a < 164) (hm : a ∈ [30932993, 31195798, 31457936, 31720080, 32032784, 32243713, 32506518, 32768656, 33030800, 33343504]) => fx_row f h0 ha (hW a hm)
  rcases H with ⟨a1, a2, a3⟩ | ⟨a1, a2, a3⟩
  · refine Or.inl ⟨by rw [e]; exact a1, by rw [e]; exact a2, ?_⟩
    unfold AG_ at a3 ⊢
    rw [(r 30932993 (by decide) (by decide)).1, (r 31195798 (by decide) (by decide)).2, (r 31457936 (by decide) (by decide)).1, (r 31720080 (by decide) (by decide)).1, (r 32032784 (by decide) (by decide)).1]
    exact a3
  · refine Or.inr ⟨by rw [e]; exact a1, by rw [e]; exact a2, ?_⟩
    unfold AG_ at a3 ⊢
    rw [(r 32243713 (by decide) (by decide)).1, (r 32506518 (by decide) (by decide)).2, (r 32768656 (by decide) (by decide)).1, (r 33030800 (by decide) (by decide)).1, (r 33343504 (by decide) (by decide)).1]
    exact a3
/-- all of the class -/
def CLS_ (na : Nat) (F G : Nat → Nat → Int32) (P : PS) (nf : Nat) (Lf : Nat → Nat → Int32) (tl : Nat) (T : Nat → Int32) (hp : Option Nat) (c : Nat) (wn : Nat) (Od : Nat → Int32) (L : List Trm_) (h : AH) : Prop := CS_ h ∧ (∃ sa, CA_ na sa F G h) ∧ (∃ sp, CP_ P sp h) ∧ CL_ nf Lf h ∧ CT_ tl T h ∧ CH_ hp (Int64.ofNat c) h ∧ CW_ wn Od h ∧ CE_ L h ∧ 164 ≤ nx_ h
theorem CLS_.ck {c : Nat} (f : CK_ h h1) (H : CLS_ na F G P nf Lf tl T hp c wn Od L h) : CLS_ na F G P nf Lf tl T hp c wn Od L h1 := by
  obtain ⟨c1, ⟨sa, c2⟩, ⟨sp, c3⟩, c4, c5, c6, c7, c8, c9⟩ := H
  obtain ⟨f1, f2, f3⟩ := f
  have eI : ∀ a, ¬ inM_ a → hI_ h1 a = hI_ h a := fun a ha => (f1 a ha).1
  have eR : ∀ a, ¬ inM_ a → hR_ h1 a = hR_ h a := fun a ha => (f1 a ha).2.2
  have dyn : ∀ s k n, 164 ≤ s → k < 64 → n < 4096 → ¬ inM_ (mk_ s k n) := fun s k n hs hk hn z => by
    have := z.2
    rw [sr_mk hk hn] at this
    omega
  have hAG : ∀ cG cW cN cP cT, ¬ inM_ cG → ¬ inM_ cW → ¬ inM_ cN → ¬ inM_ cP → ¬ inM_ cT → AG_ cG cW cN cP cT L h → AG_ cG cW cN cP cT L h1 := by
    intro cG cW cN cP cT q1 q2 q3 q4 q5 H
    unfold AG_ at H ⊢
    rw [eI cG q1, eR cW q2, eI cN q3, eI cP q4, eI cT q5]
    exact H
  refine ⟨CS_.eq (eR _ (by decide)) (eR _ (by decide)) (eR _ (by decide)) (eR _ (by decide)) (eR _ (by decide)) (eR _ (by decide)) (eR _ (by decide)) c1, ⟨sa, c2.fr (by rw [eI _ (by decide)]) (eR _ (by decide)) (fun s hs _ => ⟨eI _ (dyn s 0 0 hs (by decide) (by decide)), eR _ (dyn s 0 0 hs (by decide) (by decide)), eI _ (dyn s 16 12 hs (by decide) (by decide))⟩) (by rw [f2]; exact Nat.le_refl _)⟩, ⟨sp, c3.fr (by rw [eI _ (by decide)]) (eR _ (by decide)) (fun s hs _ => ⟨eI _ (dyn s 4 0 hs (by decide) (by decide)), eR _ (dyn s 4 0 hs (by decide) (by decide)), eI _ (dyn s 16 8 hs (by decide) (by decide)), eI _ (dyn s 16 3 hs (by decide) (by decide))⟩) (by rw [f2]; exact Nat.le_refl _)⟩, CL_.eq (eI _ (by decide)) (eI _ (by decide)) (eI _ (by decide)) (eI _ (by decide)) c4, CT_.eq (by rw [eI _ (by decide)]) (eI _ (by decide)) c5, ⟨by rw [eI _ (by decide)]; exact c6.1, by rw [(f1 25165831 (by decide)).2.1]; exact c6.2⟩, CW_.eq (eI _ (by decide)) (eI _ (by decide)) c7, ?_, by rw [f2]; exact c9⟩
  rcases c8 with ⟨a1, a2, a3⟩ | ⟨a1, a2, a3⟩
  · exact Or.inl ⟨by rw [eR _ (by decide)]; exact a1, by rw [eR _ (by decide)]; exact a2, hAG _ _ _ _ _ (by decide) (by decide) (by decide) (by decide) (by decide) a3⟩
  · exact Or.inr ⟨by rw [eR _ (by decide)]; exact a1, by rw [eR _ (by decide)]; exact a2, hAG _ _ _ _ _ (by decide) (by decide) (by decide) (by decide) (by decide) a3⟩
end XFS
