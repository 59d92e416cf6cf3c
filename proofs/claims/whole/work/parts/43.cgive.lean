/-! the finder of casts: giving an actor its parts -/
theorem loopX_ {α β : Type} {P : β → Nat → α → Prop} {n : Nat} (I : Nat → α → Prop) (hs : ∀ i x, i < n → I i x → ∃ y, I (i + 1) y ∧ ∀ Q, (P Q i x ↔ P Q (i + 1) y)) : ∀ (k i : Nat) (x : α), i + k = n → I i x → ∃ z, I n z ∧ ∀ Q, (P Q i x ↔ P Q n z) := by
  intro k
  induction k with
  | zero =>
    intro i x hk hi
    have : i = n := by omega
    subst this
    exact ⟨x, hi, fun _ => Iff.rfl⟩
  | succ k ih =>
    intro i x hk hi
    obtain ⟨y, h1, h2⟩ := hs i x (by omega) hi
    obtain ⟨z, h3, h4⟩ := ih (i + 1) y (by omega) h1
    exact ⟨z, h3, fun Q => (h2 Q).trans (h4 Q)⟩
def LX_ (x : Int64) (S : Nat → Prop) : Prop := ∃ o, x = lv_ o ∧ Mx_ o S
theorem LX_.iff {x : Int64} {S T : Nat → Prop} (h : ∀ v, S v ↔ T v) (k : LX_ x S) : LX_ x T := by
  obtain ⟨o, h1, h2⟩ := k
  exact ⟨o, h1, h2.iff h⟩
theorem lvo_lt {o : Option Nat} {u : Nat} (ho : ∀ v, o = some v → v < 9223372036854775808) (hu : u < 9223372036854775808) : lv_ o < Int64.ofNat u ↔ ∀ v, o = some v → v < u := by
  cases o with
  | none =>
    constructor
    · intro _ v hv; cases hv
    · intro _
      rw [Int64.lt_iff_toInt_lt, l_ti hu]
      show (-1 : Int) < _
      omega
  | some v =>
    show Int64.ofNat v < Int64.ofNat u ↔ _
    rw [l_lt (ho v rfl) hu]
    constructor
    · intro h w hw; cases hw; exact h
    · intro h; exact h v rfl
theorem LX_.step {x : Int64} {S T : Nat → Prop} {w k : Nat} (h : LX_ x S) (hS : ∀ v, S v → v < 9223372036854775808) (hT : T w) (hM : ∀ v, T v → v ≤ w) (hu : w + k < 9223372036854775808) : LX_ (if x < Int64.ofNat (w + k) then Int64.ofNat (w + k) else x) (fun u => S u ∨ ∃ v, T v ∧ u = v + k) := by
  obtain ⟨o, rfl, h2⟩ := h
  cases o with
  | none =>
    have : lv_ none < Int64.ofNat (w + k) := (lvo_lt (fun v hv => by cases hv) hu).mpr (fun v hv => by cases hv)
    rw [if_pos this]
    exact ⟨some (w + k), rfl, Or.inr ⟨w, hT, rfl⟩, fun v hv => by
      rcases hv with hv | ⟨v', h3, rfl⟩
      · exact absurd hv (h2 v)
      · have := hM v' h3; omega⟩
  | some y =>
    obtain ⟨h3, h4⟩ := h2
    have hy := hS y h3
    have hl := lvo_lt (o := some y) (u := w + k) (fun v hv => by cases hv; exact hy) hu
    by_cases q : y < w + k
    · rw [if_pos (hl.mpr (fun v hv => by cases hv; exact q))]
      exact ⟨some (w + k), rfl, Or.inr ⟨w, hT, rfl⟩, fun v hv => by
        rcases hv with hv | ⟨v', h5, rfl⟩
        · have := h4 v hv; omega
        · have := hM v' h5; omega⟩
    · rw [if_neg (fun z => q (hl.mp z y rfl))]
      exact ⟨some y, rfl, Or.inl h3, fun v hv => by
        rcases hv with hv | ⟨v', h5, rfl⟩
        · exact h4 v hv
        · have := hM v' h5; omega⟩
theorem LX_.m1 {x : Int64} {S : Nat → Prop} (h : LX_ x S) (hS : ∀ v, S v → v < 9223372036854775808) : (x = -1 ↔ ∀ v, ¬ S v) := by
  obtain ⟨o, rfl, h2⟩ := h
  cases o with
  | none => exact ⟨fun _ => h2, fun _ => rfl⟩
  | some y =>
    constructor
    · intro e
      have := congrArg Int64.toInt e
      rw [show lv_ (some y) = Int64.ofNat y from rfl, l_ti (hS y h2.1)] at this
      have h1 : ((-1 : Int64)).toInt = -1 := rfl
      omega
    · intro e; exact absurd h2.1 (e y)
/-- what is reached when the parts of l are given from the sets above t, and from t the first j of them -/
def gn_ (t wt k m : Nat) (x : Nat → Int64) : Nat → Int64 := if t &&& m = 0 then st_ x (t ||| m) (if x (t ||| m) < Int64.ofNat (wt + k) then Int64.ofNat (wt + k) else x (t ||| m)) else x
def SG_ (B : Nat → Nat → Prop) (w c a : Nat) (l : List Nat) (t j s v : Nat) : Prop := B s v ∨ ∃ s' i v', s' &&& w = s' ∧ i < l.length ∧ (t < s' ∨ (s' = t ∧ i < j)) ∧ s' &&& l.getD i 0 = 0 ∧ s = s' ||| l.getD i 0 ∧ B s' v' ∧ v = v' + pw_ 8 (gw_ c) a (l.getD i 0)
section CGV
variable {xs : Nat → Int32} {d : Nat} {h : AH} {Q : OU_ → AH → Prop} {B : Nat → Nat → Prop} {w c a : Nat} {l : List Nat}
theorem or_ne {t m : Nat} (h : t &&& m = 0) (hm : m ≠ 0) : t < t ||| m := by
  have h1 : t ≤ t ||| m := Nat.left_le_or
  rcases Nat.lt_or_ge t (t ||| m) with q | q
  · exact q
  · have e : t ||| m = t := by omega
    exfalso
    apply hm
    have : (t ||| m) &&& m = m := by
      apply Nat.eq_of_testBit_eq
      intro i
      rw [Nat.testBit_and, Nat.testBit_or]
      cases t.testBit i <;> cases m.testBit i <;> rfl
    rw [e, h] at this
    exact this.symm
theorem c_givePart {t : Nat} {r : Nat → Int64} {v5 v6 : AV} (hC : CS_ h) (hw : w < 256) (ht : t < 256) (hPT : PT_ c a l h) (hl : l.length ≤ 11) (hm : ∀ i, i < l.length → l.getD i 0 ≠ 0 ∧ l.getD i 0 < 256 ∧ pw_ 8 (gw_ c) a (l.getD i 0) < 1152921504606846976) (hB : ∀ s v, B s v → v < 1152921504606846976) (htw : t &&& w = t) (hrow : ∀ s, s < 256 → LX_ (r s) (SG_ B w c a l t 0 s)) : ∃ r' v5' v6', (∀ s, s < 256 → LX_ (r' s) (SG_ B w c a l t l.length s)) ∧ ∀ Q, V_ xs d 23 23 [vA (some 25952258), vI (Int32.ofNat w), vI (Int32.ofNat t), vJ (r t), vX 0, vI 0, v6] [] (uL_ h 26230803 r) Q ↔ V_ xs d 23 102 [vA (some 25952258), vI (Int32.ofNat w), vI (Int32.ofNat t), vJ (r t), vX 0, v5', v6'] [] (uL_ h 26230803 r') Q := by
  obtain ⟨p1, p2⟩ := hPT
  have hSb : ∀ j s v, SG_ B w c a l t j s v → v < 9223372036854775808 := by
    rintro j s v (hv | ⟨s', i, v', h1, h2, h3, h4, h5, h6, rfl⟩)
    · have := hB s v hv; omega
    · have := hB s' v' h6; have := (hm i h2).2.2; omega
  have hBt : ∀ v, SG_ B w c a l t 0 t v ↔ B t v := by
    intro v
    constructor
    · rintro (hv | ⟨s', i, v', h1, h2, h3, h4, h5, h6, rfl⟩)
      · exact hv
      · exfalso
        have := or_ne h4 (hm i h2).1
        omega
    · exact fun hv => Or.inl hv
  have hrt := hrow t ht
  have hm1 := (hrt.m1 (hSb 0 t))
  by_cases c1 : r t = -1
  · refine ⟨r, vI 0, v6, fun s hs => (hrow s hs).iff (fun v => ?_), fun Q => ?_⟩
    · have hn := hm1.mp c1
      constructor
      · rintro (hv | ⟨s', i, v', h1, h2, h3, h4, h5, h6, h7⟩)
        · exact Or.inl hv
        · exact Or.inr ⟨s', i, v', h1, h2, by omega, h4, h5, h6, h7⟩
      · rintro (hv | ⟨s', i, v', h1, h2, h3, h4, h5, h6, h7⟩)
        · exact Or.inl hv
        · rcases h3 with h3 | ⟨rfl, h3⟩
          · exact Or.inr ⟨s', i, v', h1, h2, Or.inl h3, h4, h5, h6, h7⟩
          · exact absurd ((hBt v').mpr h6) (hn v')
    · rw [s23_23]
      have cc : lg_cmp (-1) (-1) = 0 := lgd_0.mpr rfl
      rw [c1]
      simp (disch := first | omega | assumption | decide | (apply bT_; decide)) only [s23_0, s23_1, s23_2, s23_3, s23_6, s23_7, s23_10, s23_13, s23_14, s23_17, s23_18, s23_19, s23_20, s23_21, s23_25, s23_26, s23_29, s23_32, s23_33, s23_36, s23_37, s23_40, s23_41, s23_44, s23_46, s23_47, s23_49, s23_50, s23_52, s23_53, s23_56, s23_57, s23_58, s23_61, s23_63, s23_64, s23_65, s23_66, s23_69, s23_70, s23_72, s23_73, s23_74, s23_75, s23_78, s23_79, s23_82, s23_83, s23_85, s23_86, s23_87, s23_88, s23_91, s23_93, s23_94, s23_95, s23_96, s23_99, s23_103, s23_106, s23_107, s23_110, s23_111, s23_112, s23_113, s23_114, s23_115, s23_116, s23_119, K_v, K_0, acI, acA, acJ, acX, List.map_cons, List.map_nil, List.sum_cons, List.sum_nil, true_and, and_true, posT, b2_0, b2_1, bft, true_or, or_true, Nat.zero_le, Nat.reduceAdd, Nat.reduceLeDiff, hI_uI, hL_uI, hR_uI, nx_uI, sl_uI, hI_uL, hL_uL, hR_uL, nx_uL, sl_uL, hI_uR, hL_uR, hR_uR, nx_uR, sl_uR, st_eq, if_true, if_false, eq_self, Nat.reduceEqDiff, Nat.reduceMul, reduceIte, kdT, ixT, w_cl, w_ti, w_s1, w_a, w_m12, w_m8, w_m3, w_m4, hC.x0, hC.x2, hC.x4, hC.x7, hC.x8, hC.x9, hC.x11, hC.f0, hC.f1, hC.f2, hC.p0, hC.p1, hC.p2, hC.p3, hC.l1, hC.l2, hC.l3, hC.l4, hC.d0, hC.d1, hC.d2, hC.g1, hC.g2, hC.g3, hC.g4, hC.k1, hC.k2, hC.k3, hC.k4, p1, cc, kd_FI, ln_FI]
      split <;> rfl
  · obtain ⟨o, ho, hMo⟩ := id hrt
    cases o with
    | none => exact absurd ho c1
    | some wt =>
      have hbw : B t wt := (hBt wt).mp hMo.1
      have hmx : ∀ v, B t v → v ≤ wt := fun v hv => hMo.2 v ((hBt v).mpr hv)
      have hwtl := hB t wt hbw
      have ho' : r t = Int64.ofNat wt := ho
      have nx : ∀ j x, j < l.length → (∀ s, s < 256 → LX_ (x s) (SG_ B w c a l t j s)) → ∀ s, s < 256 → LX_ (gn_ t wt (pw_ 8 (gw_ c) a (l.getD j 0)) (l.getD j 0) x s) (SG_ B w c a l t (j + 1) s) := by
        intro j x hj hI s hs
        unfold gn_
        obtain ⟨m1, m2, m3⟩ := hm j hj
        by_cases q : t &&& l.getD j 0 = 0 ∧ s = t ||| l.getD j 0
        · rw [if_pos q.1, st_eq, if_pos q.2, ← q.2]
          refine ((hI s hs).step (hSb j s) hbw hmx (by omega)).iff (fun v => ?_)
          constructor
          · rintro ((hv | ⟨s', i, v', h1, h2, h3, h4, h5, h6, h7⟩) | ⟨v', h6, h7⟩)
            · exact Or.inl hv
            · exact Or.inr ⟨s', i, v', h1, h2, by omega, h4, h5, h6, h7⟩
            · exact Or.inr ⟨t, j, v', htw, hj, by omega, q.1, q.2, h6, h7⟩
          · rintro (hv | ⟨s', i, v', h1, h2, h3, h4, h5, h6, h7⟩)
            · exact Or.inl (Or.inl hv)
            · by_cases e : s' = t ∧ i = j
              · rw [e.1] at h6; rw [e.2] at h7
                exact Or.inr ⟨v', h6, h7⟩
              · exact Or.inl (Or.inr ⟨s', i, v', h1, h2, by omega, h4, h5, h6, h7⟩)
        · have e : (if t &&& l.getD j 0 = 0 then st_ x (t ||| l.getD j 0) (if x (t ||| l.getD j 0) < Int64.ofNat (wt + pw_ 8 (gw_ c) a (l.getD j 0)) then Int64.ofNat (wt + pw_ 8 (gw_ c) a (l.getD j 0)) else x (t ||| l.getD j 0)) else x) s = x s := by
            by_cases q1 : t &&& l.getD j 0 = 0
            · rw [if_pos q1, st_eq, if_neg (fun z => q ⟨q1, z⟩)]
            · rw [if_neg q1]
          rw [e]
          refine (hI s hs).iff (fun v => ?_)
          constructor
          · rintro (hv | ⟨s', i, v', h1, h2, h3, h4, h5, h6, h7⟩)
            · exact Or.inl hv
            · exact Or.inr ⟨s', i, v', h1, h2, by omega, h4, h5, h6, h7⟩
          · rintro (hv | ⟨s', i, v', h1, h2, h3, h4, h5, h6, h7⟩)
            · exact Or.inl hv
            · refine Or.inr ⟨s', i, v', h1, h2, ?_, h4, h5, h6, h7⟩
              rcases h3 with h3 | ⟨h3, h8⟩
              · exact Or.inl h3
              · right
                refine ⟨h3, ?_⟩
                have : i ≠ j := fun z => q (by rw [z, h3] at h4; rw [z, h3] at h5; exact ⟨h4, h5⟩)
                omega
      obtain ⟨z, hz1, hz2⟩ := loopX_ (P := fun Q j (x : (Nat → Int64) × AV) => V_ xs d 23 23 [vA (some 25952258), vI (Int32.ofNat w), vI (Int32.ofNat t), vJ (r t), vX 0, vI (Int32.ofNat j), x.2] [] (uL_ h 26230803 x.1) Q) (n := l.length) (fun j x => ∀ s, s < 256 → LX_ (x.1 s) (SG_ B w c a l t j s)) (fun j x hj hI => by
        obtain ⟨x, v⟩ := x
        dsimp only at hI ⊢
        refine ⟨(gn_ t wt (pw_ 8 (gw_ c) a (l.getD j 0)) (l.getD j 0) x, vI (Int32.ofNat (l.getD j 0))), nx j x hj hI, fun Q => ?_⟩
        obtain ⟨m1, m2, m3⟩ := hm j hj
        obtain ⟨e1, e2⟩ := p2 j hj
        have hor : t ||| l.getD j 0 < 256 := Nat.or_lt_two_pow (n := 8) ht m2
        have hnd : t &&& l.getD j 0 ≤ t := Nat.and_le_left
        have cc : ¬ (lg_cmp (r t) (-1) = 0) := fun z => c1 (lgd_0.mp z)
        have z0 : (Int32.ofNat 0 = (0 : Int32)) := rfl
        dsimp only
        unfold gn_
        rw [s23_23]
        by_cases q : t &&& l.getD j 0 = 0
        · rw [if_pos q]
          by_cases q2 : x (t ||| l.getD j 0) < Int64.ofNat (wt + pw_ 8 (gw_ c) a (l.getD j 0))
          · rw [if_pos q2]
            rw [ho'] at cc
            simp (disch := first | omega | assumption | decide | (apply bT_; decide)) only [s23_0, s23_1, s23_2, s23_3, s23_6, s23_7, s23_10, s23_13, s23_14, s23_17, s23_18, s23_19, s23_20, s23_21, s23_25, s23_26, s23_29, s23_32, s23_33, s23_36, s23_37, s23_40, s23_41, s23_44, s23_46, s23_47, s23_49, s23_50, s23_52, s23_53, s23_56, s23_57, s23_58, s23_61, s23_63, s23_64, s23_65, s23_66, s23_69, s23_70, s23_72, s23_73, s23_74, s23_75, s23_78, s23_79, s23_82, s23_83, s23_85, s23_86, s23_87, s23_88, s23_91, s23_93, s23_94, s23_95, s23_96, s23_99, s23_103, s23_106, s23_107, s23_110, s23_111, s23_112, s23_113, s23_114, s23_115, s23_116, s23_119, K_v, K_0, acI, acA, acJ, acX, List.map_cons, List.map_nil, List.sum_cons, List.sum_nil, true_and, and_true, posT, b2_0, b2_1, bft, true_or, or_true, Nat.zero_le, Nat.reduceAdd, Nat.reduceLeDiff, hI_uI, hL_uI, hR_uI, nx_uI, sl_uI, hI_uL, hL_uL, hR_uL, nx_uL, sl_uL, hI_uR, hL_uR, hR_uR, nx_uR, sl_uR, st_eq, if_true, if_false, eq_self, Nat.reduceEqDiff, Nat.reduceMul, reduceIte, kdT, ixT, w_cl, w_ti, w_s1, w_a, w_m12, w_m8, w_m3, w_m4, hC.x0, hC.x2, hC.x4, hC.x7, hC.x8, hC.x9, hC.x11, hC.f0, hC.f1, hC.f2, hC.p0, hC.p1, hC.p2, hC.p3, hC.l1, hC.l2, hC.l3, hC.l4, hC.d0, hC.d1, hC.d2, hC.g1, hC.g2, hC.g3, hC.g4, hC.k1, hC.k2, hC.k3, hC.k4, p1, e1, e2, hj, cc, q, q2, z0, ho', lgd_gt, w_and, w_or, l_add, w_lt, uL_uL, kd_FI, ln_FI, kd_PR, ln_PR, kd_PW, ln_PW, kd_BEST, ln_BEST]
          · rw [if_neg q2]
            rw [ho'] at cc
            have e : st_ x (t ||| l.getD j 0) (x (t ||| l.getD j 0)) = x := by funext k; rw [st_eq]; split <;> simp [*]
            rw [e]
            simp (disch := first | omega | assumption | decide | (apply bT_; decide)) only [s23_0, s23_1, s23_2, s23_3, s23_6, s23_7, s23_10, s23_13, s23_14, s23_17, s23_18, s23_19, s23_20, s23_21, s23_25, s23_26, s23_29, s23_32, s23_33, s23_36, s23_37, s23_40, s23_41, s23_44, s23_46, s23_47, s23_49, s23_50, s23_52, s23_53, s23_56, s23_57, s23_58, s23_61, s23_63, s23_64, s23_65, s23_66, s23_69, s23_70, s23_72, s23_73, s23_74, s23_75, s23_78, s23_79, s23_82, s23_83, s23_85, s23_86, s23_87, s23_88, s23_91, s23_93, s23_94, s23_95, s23_96, s23_99, s23_103, s23_106, s23_107, s23_110, s23_111, s23_112, s23_113, s23_114, s23_115, s23_116, s23_119, K_v, K_0, acI, acA, acJ, acX, List.map_cons, List.map_nil, List.sum_cons, List.sum_nil, true_and, and_true, posT, b2_0, b2_1, bft, true_or, or_true, Nat.zero_le, Nat.reduceAdd, Nat.reduceLeDiff, hI_uI, hL_uI, hR_uI, nx_uI, sl_uI, hI_uL, hL_uL, hR_uL, nx_uL, sl_uL, hI_uR, hL_uR, hR_uR, nx_uR, sl_uR, st_eq, if_true, if_false, eq_self, Nat.reduceEqDiff, Nat.reduceMul, reduceIte, kdT, ixT, w_cl, w_ti, w_s1, w_a, w_m12, w_m8, w_m3, w_m4, hC.x0, hC.x2, hC.x4, hC.x7, hC.x8, hC.x9, hC.x11, hC.f0, hC.f1, hC.f2, hC.p0, hC.p1, hC.p2, hC.p3, hC.l1, hC.l2, hC.l3, hC.l4, hC.d0, hC.d1, hC.d2, hC.g1, hC.g2, hC.g3, hC.g4, hC.k1, hC.k2, hC.k3, hC.k4, p1, e1, e2, hj, cc, q, q2, z0, ho', lgd_gt, w_and, w_or, l_add, w_lt, uL_uL, kd_FI, ln_FI, kd_PR, ln_PR, kd_PW, ln_PW, kd_BEST, ln_BEST]
        · rw [if_neg q]
          have q3 : ¬ (Int32.ofNat (t &&& l.getD j 0) = 0) := fun z => q ((w_eq (b := 0) (by omega) (by omega)).mp z)
          simp (disch := first | omega | assumption | decide | (apply bT_; decide)) only [s23_0, s23_1, s23_2, s23_3, s23_6, s23_7, s23_10, s23_13, s23_14, s23_17, s23_18, s23_19, s23_20, s23_21, s23_25, s23_26, s23_29, s23_32, s23_33, s23_36, s23_37, s23_40, s23_41, s23_44, s23_46, s23_47, s23_49, s23_50, s23_52, s23_53, s23_56, s23_57, s23_58, s23_61, s23_63, s23_64, s23_65, s23_66, s23_69, s23_70, s23_72, s23_73, s23_74, s23_75, s23_78, s23_79, s23_82, s23_83, s23_85, s23_86, s23_87, s23_88, s23_91, s23_93, s23_94, s23_95, s23_96, s23_99, s23_103, s23_106, s23_107, s23_110, s23_111, s23_112, s23_113, s23_114, s23_115, s23_116, s23_119, K_v, K_0, acI, acA, acJ, acX, List.map_cons, List.map_nil, List.sum_cons, List.sum_nil, true_and, and_true, posT, b2_0, b2_1, bft, true_or, or_true, Nat.zero_le, Nat.reduceAdd, Nat.reduceLeDiff, hI_uI, hL_uI, hR_uI, nx_uI, sl_uI, hI_uL, hL_uL, hR_uL, nx_uL, sl_uL, hI_uR, hL_uR, hR_uR, nx_uR, sl_uR, st_eq, if_true, if_false, eq_self, Nat.reduceEqDiff, Nat.reduceMul, reduceIte, kdT, ixT, w_cl, w_ti, w_s1, w_a, w_m12, w_m8, w_m3, w_m4, hC.x0, hC.x2, hC.x4, hC.x7, hC.x8, hC.x9, hC.x11, hC.f0, hC.f1, hC.f2, hC.p0, hC.p1, hC.p2, hC.p3, hC.l1, hC.l2, hC.l3, hC.l4, hC.d0, hC.d1, hC.d2, hC.g1, hC.g2, hC.g3, hC.g4, hC.k1, hC.k2, hC.k3, hC.k4, p1, e1, e2, hj, cc, q3, w_and, w_lt, kd_FI, ln_FI, kd_PR, ln_PR, kd_PW, ln_PW, kd_BEST, ln_BEST]) l.length 0 (r, v6) (by omega) (fun s hs => hrow s hs)
      refine ⟨z.1, vI (Int32.ofNat l.length), z.2, hz1, fun Q => ?_⟩
      refine (show V_ xs d 23 23 [vA (some 25952258), vI (Int32.ofNat w), vI (Int32.ofNat t), vJ (r t), vX 0, vI (Int32.ofNat 0), v6] [] (uL_ h 26230803 r) Q ↔ _ from hz2 Q).trans ?_
      have nl : ¬ (l.length < l.length) := by omega
      rw [s23_23]
      simp (disch := first | omega | assumption | decide | (apply bT_; decide)) only [s23_0, s23_1, s23_2, s23_3, s23_6, s23_7, s23_10, s23_13, s23_14, s23_17, s23_18, s23_19, s23_20, s23_21, s23_25, s23_26, s23_29, s23_32, s23_33, s23_36, s23_37, s23_40, s23_41, s23_44, s23_46, s23_47, s23_49, s23_50, s23_52, s23_53, s23_56, s23_57, s23_58, s23_61, s23_63, s23_64, s23_65, s23_66, s23_69, s23_70, s23_72, s23_73, s23_74, s23_75, s23_78, s23_79, s23_82, s23_83, s23_85, s23_86, s23_87, s23_88, s23_91, s23_93, s23_94, s23_95, s23_96, s23_99, s23_103, s23_106, s23_107, s23_110, s23_111, s23_112, s23_113, s23_114, s23_115, s23_116, s23_119, K_v, K_0, acI, acA, acJ, acX, List.map_cons, List.map_nil, List.sum_cons, List.sum_nil, true_and, and_true, posT, b2_0, b2_1, bft, true_or, or_true, Nat.zero_le, Nat.reduceAdd, Nat.reduceLeDiff, hI_uI, hL_uI, hR_uI, nx_uI, sl_uI, hI_uL, hL_uL, hR_uL, nx_uL, sl_uL, hI_uR, hL_uR, hR_uR, nx_uR, sl_uR, st_eq, if_true, if_false, eq_self, Nat.reduceEqDiff, Nat.reduceMul, reduceIte, kdT, ixT, w_cl, w_ti, w_s1, w_a, w_m12, w_m8, w_m3, w_m4, hC.x0, hC.x2, hC.x4, hC.x7, hC.x8, hC.x9, hC.x11, hC.f0, hC.f1, hC.f2, hC.p0, hC.p1, hC.p2, hC.p3, hC.l1, hC.l2, hC.l3, hC.l4, hC.d0, hC.d1, hC.d2, hC.g1, hC.g2, hC.g3, hC.g4, hC.k1, hC.k2, hC.k3, hC.k4, p1, nl, w_lt, kd_FI, ln_FI]
/-- what is reached when the parts of l are given from every set -/
def SF_ (B : Nat → Nat → Prop) (c a : Nat) (l : List Nat) (s v : Nat) : Prop := B s v ∨ ∃ m s' v', m ∈ l ∧ B s' v' ∧ s' &&& m = 0 ∧ s = s' ||| m ∧ v = v' + pw_ 8 (gw_ c) a m
theorem gd_mem {l : List Nat} {m : Nat} : m ∈ l ↔ ∃ i, i < l.length ∧ l.getD i 0 = m := by
  rw [List.mem_iff_getElem]
  constructor
  · rintro ⟨i, hi, rfl⟩
    exact ⟨i, hi, by rw [List.getD_eq_getElem?_getD, List.getElem?_eq_getElem hi]; rfl⟩
  · rintro ⟨i, hi, rfl⟩
    exact ⟨i, hi, by rw [List.getD_eq_getElem?_getD, List.getElem?_eq_getElem hi]; rfl⟩
theorem c_giveFrom (hC : CS_ h) (hw : w < 256) (hPT : PT_ c a l h) (hl : l.length ≤ 11) (hm : ∀ i, i < l.length → l.getD i 0 ≠ 0 ∧ l.getD i 0 < 256 ∧ pw_ 8 (gw_ c) a (l.getD i 0) < 1152921504606846976) (hB : ∀ s v, B s v → s &&& w = s ∧ v < 1152921504606846976) : ∀ (t : Nat) (r : Nat → Int64) (v3 v5 v6 : AV), t &&& w = t → (∀ s, s < 256 → LX_ (r s) (SG_ B w c a l t 0 s)) → ∃ r', (∀ s, s < 256 → LX_ (r' s) (SF_ B c a l s)) ∧ ∀ Q, V_ xs d 23 2 [vA (some 25952258), vI (Int32.ofNat w), vI (Int32.ofNat t), v3, vX 0, v5, v6] [] (uL_ h 26230803 r) Q ↔ Q (some none) (uL_ h 26230803 r') := by
  intro t
  induction t using Nat.strongRecOn with
  | ind t ih =>
    intro r v3 v5 v6 htw hrow
    obtain ⟨p1, p2⟩ := id hPT
    have ht : t < 256 := by have : t &&& w ≤ w := Nat.and_le_right; omega
    have n0 : ¬ (Int32.ofNat t < 0) := fun z => absurd ((w_lt (b := 0) (by omega) (by omega)).mp z) (by omega)
    by_cases q : l.length = 0
    · have hl0 : l = [] := List.length_eq_zero_iff.mp q
      refine ⟨r, fun s hs => (hrow s hs).iff (fun v => ?_), fun Q => ?_⟩
      · constructor
        · rintro (hv | ⟨s', i, v', h1, h2, -⟩)
          · exact Or.inl hv
          · omega
        · rintro (hv | ⟨m, s', v', h1, -⟩)
          · exact Or.inl hv
          · rw [hl0] at h1; cases h1
      · rw [q] at p1
        have np : ¬ ((0 : Int32) < Int32.ofNat 0) := by decide
        rw [s23_2]
        simp (disch := first | omega | assumption | decide | (apply bT_; decide)) only [s23_0, s23_1, s23_3, s23_6, s23_7, s23_10, s23_14, s23_17, s23_18, s23_19, s23_20, s23_21, s23_23, s23_25, s23_26, s23_29, s23_32, s23_33, s23_36, s23_37, s23_40, s23_41, s23_44, s23_46, s23_47, s23_49, s23_50, s23_52, s23_53, s23_56, s23_57, s23_58, s23_61, s23_63, s23_64, s23_65, s23_66, s23_69, s23_70, s23_72, s23_73, s23_74, s23_75, s23_78, s23_79, s23_82, s23_83, s23_85, s23_86, s23_87, s23_88, s23_91, s23_93, s23_94, s23_95, s23_96, s23_99, s23_102, s23_103, s23_106, s23_107, s23_110, s23_111, s23_112, s23_113, s23_114, s23_115, s23_116, s23_119, K_v, K_0, acI, acA, acJ, acX, List.map_cons, List.map_nil, List.sum_cons, List.sum_nil, true_and, and_true, posT, b2_0, b2_1, bft, true_or, or_true, Nat.zero_le, Nat.reduceAdd, Nat.reduceLeDiff, hI_uI, hL_uI, hR_uI, nx_uI, sl_uI, hI_uL, hL_uL, hR_uL, nx_uL, sl_uL, hI_uR, hL_uR, hR_uR, nx_uR, sl_uR, st_eq, if_true, if_false, eq_self, Nat.reduceEqDiff, Nat.reduceMul, reduceIte, kdT, ixT, w_cl, w_ti, w_s1, w_a, w_m12, w_m8, w_m3, w_m4, hC.x0, hC.x2, hC.x4, hC.x7, hC.x8, hC.x9, hC.x11, hC.f0, hC.f1, hC.f2, hC.p0, hC.p1, hC.p2, hC.p3, hC.l1, hC.l2, hC.l3, hC.l4, hC.d0, hC.d1, hC.d2, hC.g1, hC.g2, hC.g3, hC.g4, hC.k1, hC.k2, hC.k3, hC.k4, p1, np, n0, kd_FI, ln_FI]
    · have np : (0 : Int32) < Int32.ofNat l.length := (w_lt (a := 0) (by omega) (by omega)).mpr (by omega)
      obtain ⟨r1, w5, w6, g1, g2⟩ := c_givePart (xs := xs) (d := d) (B := B) (v5 := v5) (v6 := v6) hC hw ht hPT hl hm (fun s v hv => (hB s v hv).2) htw hrow
      have st : ∀ Q, V_ xs d 23 2 [vA (some 25952258), vI (Int32.ofNat w), vI (Int32.ofNat t), v3, vX 0, v5, v6] [] (uL_ h 26230803 r) Q ↔ V_ xs d 23 102 [vA (some 25952258), vI (Int32.ofNat w), vI (Int32.ofNat t), vJ (r t), vX 0, w5, w6] [] (uL_ h 26230803 r1) Q := by
        intro Q
        refine Iff.trans ?_ (g2 Q)
        rw [s23_2]
        simp (disch := first | omega | assumption | decide | (apply bT_; decide)) only [s23_0, s23_1, s23_3, s23_6, s23_7, s23_10, s23_13, s23_14, s23_17, s23_18, s23_19, s23_20, s23_21, s23_25, s23_26, s23_29, s23_32, s23_33, s23_36, s23_37, s23_40, s23_41, s23_44, s23_46, s23_47, s23_49, s23_50, s23_52, s23_53, s23_56, s23_57, s23_58, s23_61, s23_63, s23_64, s23_65, s23_66, s23_69, s23_70, s23_72, s23_73, s23_74, s23_75, s23_78, s23_79, s23_82, s23_83, s23_85, s23_86, s23_87, s23_88, s23_91, s23_93, s23_94, s23_95, s23_96, s23_99, s23_102, s23_103, s23_106, s23_107, s23_110, s23_111, s23_112, s23_113, s23_114, s23_115, s23_116, s23_119, K_v, K_0, acI, acA, acJ, acX, List.map_cons, List.map_nil, List.sum_cons, List.sum_nil, true_and, and_true, posT, b2_0, b2_1, bft, true_or, or_true, Nat.zero_le, Nat.reduceAdd, Nat.reduceLeDiff, hI_uI, hL_uI, hR_uI, nx_uI, sl_uI, hI_uL, hL_uL, hR_uL, nx_uL, sl_uL, hI_uR, hL_uR, hR_uR, nx_uR, sl_uR, st_eq, if_true, if_false, eq_self, Nat.reduceEqDiff, Nat.reduceMul, reduceIte, kdT, ixT, w_cl, w_ti, w_s1, w_a, w_m12, w_m8, w_m3, w_m4, hC.x0, hC.x2, hC.x4, hC.x7, hC.x8, hC.x9, hC.x11, hC.f0, hC.f1, hC.f2, hC.p0, hC.p1, hC.p2, hC.p3, hC.l1, hC.l2, hC.l3, hC.l4, hC.d0, hC.d1, hC.d2, hC.g1, hC.g2, hC.g3, hC.g4, hC.k1, hC.k2, hC.k3, hC.k4, p1, np, n0, kd_FI, ln_FI, kd_BEST, ln_BEST]
      by_cases q0 : t = 0
      · refine ⟨r1, fun s hs => (g1 s hs).iff (fun v => ?_), fun Q => (st Q).trans ?_⟩
        · constructor
          · rintro (hv | ⟨s', i, v', h1, h2, h3, h4, h5, h6, h7⟩)
            · exact Or.inl hv
            · exact Or.inr ⟨_, s', v', gd_mem.mpr ⟨i, h2, rfl⟩, h6, h4, h5, h7⟩
          · rintro (hv | ⟨m, s', v', h1, h6, h4, h5, h7⟩)
            · exact Or.inl hv
            · obtain ⟨i, h2, rfl⟩ := gd_mem.mp h1
              exact Or.inr ⟨s', i, v', (hB s' v' h6).1, h2, by omega, h4, h5, h6, h7⟩
        · have z0 : Int32.ofNat t = 0 := by rw [q0]; rfl
          have z1 : (-1 : Int32) < 0 := by decide
          rw [s23_102]
          simp (disch := first | omega | assumption | decide | (apply bT_; decide)) only [s23_0, s23_1, s23_3, s23_6, s23_7, s23_10, s23_13, s23_14, s23_17, s23_18, s23_19, s23_20, s23_21, s23_23, s23_25, s23_26, s23_29, s23_32, s23_33, s23_36, s23_37, s23_40, s23_41, s23_44, s23_46, s23_47, s23_49, s23_50, s23_52, s23_53, s23_56, s23_57, s23_58, s23_61, s23_63, s23_64, s23_65, s23_66, s23_69, s23_70, s23_72, s23_73, s23_74, s23_75, s23_78, s23_79, s23_82, s23_83, s23_85, s23_86, s23_87, s23_88, s23_91, s23_93, s23_94, s23_95, s23_96, s23_99, s23_102, s23_103, s23_106, s23_107, s23_110, s23_111, s23_112, s23_113, s23_114, s23_115, s23_116, s23_119, K_v, K_0, acI, acA, acJ, acX, List.map_cons, List.map_nil, List.sum_cons, List.sum_nil, true_and, and_true, posT, b2_0, b2_1, bft, true_or, or_true, Nat.zero_le, Nat.reduceAdd, Nat.reduceLeDiff, hI_uI, hL_uI, hR_uI, nx_uI, sl_uI, hI_uL, hL_uL, hR_uL, nx_uL, sl_uL, hI_uR, hL_uR, hR_uR, nx_uR, sl_uR, st_eq, if_true, if_false, eq_self, Nat.reduceEqDiff, Nat.reduceMul, reduceIte, kdT, ixT, w_cl, w_ti, w_s1, w_a, w_m12, w_m8, w_m3, w_m4, z0]
          rw [s23_2]
          simp (disch := first | omega | assumption | decide | (apply bT_; decide)) only [s23_0, s23_1, s23_3, s23_6, s23_7, s23_10, s23_13, s23_14, s23_17, s23_18, s23_19, s23_20, s23_21, s23_23, s23_25, s23_26, s23_29, s23_32, s23_33, s23_36, s23_37, s23_40, s23_41, s23_44, s23_46, s23_47, s23_49, s23_50, s23_52, s23_53, s23_56, s23_57, s23_58, s23_61, s23_63, s23_64, s23_65, s23_66, s23_69, s23_70, s23_72, s23_73, s23_74, s23_75, s23_78, s23_79, s23_82, s23_83, s23_85, s23_86, s23_87, s23_88, s23_91, s23_93, s23_94, s23_95, s23_96, s23_99, s23_102, s23_103, s23_106, s23_107, s23_110, s23_111, s23_112, s23_113, s23_114, s23_115, s23_116, s23_119, K_v, K_0, acI, acA, acJ, acX, List.map_cons, List.map_nil, List.sum_cons, List.sum_nil, true_and, and_true, posT, b2_0, b2_1, bft, true_or, or_true, Nat.zero_le, Nat.reduceAdd, Nat.reduceLeDiff, hI_uI, hL_uI, hR_uI, nx_uI, sl_uI, hI_uL, hL_uL, hR_uL, nx_uL, sl_uL, hI_uR, hL_uR, hR_uR, nx_uR, sl_uR, st_eq, if_true, if_false, eq_self, Nat.reduceEqDiff, Nat.reduceMul, reduceIte, kdT, ixT, w_cl, w_ti, w_s1, w_a, w_m12, w_m8, w_m3, w_m4, z1]
      · have hlt : (t - 1) &&& w < t := by have : (t - 1) &&& w ≤ t - 1 := Nat.and_le_left; omega
        have hsub : ((t - 1) &&& w) &&& w = (t - 1) &&& w := by rw [Nat.and_assoc, Nat.and_self]
        obtain ⟨r2, k1, k2⟩ := ih ((t - 1) &&& w) hlt r1 (vJ (r t)) w5 w6 hsub (fun s hs => (g1 s hs).iff (fun v => by
          constructor
          · rintro (hv | ⟨s', i, v', h1, h2, h3, h4, h5, h6, h7⟩)
            · exact Or.inl hv
            · exact Or.inr ⟨s', i, v', h1, h2, by omega, h4, h5, h6, h7⟩
          · rintro (hv | ⟨s', i, v', h1, h2, h3, h4, h5, h6, h7⟩)
            · exact Or.inl hv
            · refine Or.inr ⟨s', i, v', h1, h2, ?_, h4, h5, h6, h7⟩
              rcases Nat.lt_or_ge s' t with y | y
              · have := sub_next t w s' htw h1 y
                omega
              · omega))
        refine ⟨r2, k1, fun Q => (st Q).trans (Iff.trans ?_ (k2 Q))⟩
        have z0 : ¬ (Int32.ofNat t = 0) := fun z => q0 ((w_eq (b := 0) (by omega) (by omega)).mp z)
        have e1 : Int32.ofNat t - 1 = Int32.ofNat (t - 1) := w_sub (b := 1) (by omega)
        rw [s23_102]
        simp (disch := first | omega | assumption | decide | (apply bT_; decide)) only [s23_0, s23_1, s23_3, s23_6, s23_7, s23_10, s23_13, s23_14, s23_17, s23_18, s23_19, s23_20, s23_21, s23_23, s23_25, s23_26, s23_29, s23_32, s23_33, s23_36, s23_37, s23_40, s23_41, s23_44, s23_46, s23_47, s23_49, s23_50, s23_52, s23_53, s23_56, s23_57, s23_58, s23_61, s23_63, s23_64, s23_65, s23_66, s23_69, s23_70, s23_72, s23_73, s23_74, s23_75, s23_78, s23_79, s23_82, s23_83, s23_85, s23_86, s23_87, s23_88, s23_91, s23_93, s23_94, s23_95, s23_96, s23_99, s23_102, s23_103, s23_106, s23_107, s23_110, s23_111, s23_112, s23_113, s23_114, s23_115, s23_116, s23_119, K_v, K_0, acI, acA, acJ, acX, List.map_cons, List.map_nil, List.sum_cons, List.sum_nil, true_and, and_true, posT, b2_0, b2_1, bft, true_or, or_true, Nat.zero_le, Nat.reduceAdd, Nat.reduceLeDiff, hI_uI, hL_uI, hR_uI, nx_uI, sl_uI, hI_uL, hL_uL, hR_uL, nx_uL, sl_uL, hI_uR, hL_uR, hR_uR, nx_uR, sl_uR, st_eq, if_true, if_false, eq_self, Nat.reduceEqDiff, Nat.reduceMul, reduceIte, kdT, ixT, w_cl, w_ti, w_s1, w_a, w_m12, w_m8, w_m3, w_m4, z0, e1, w_and]
theorem c_giveParts (hC : CS_ h) (hw : w < 256) (hPT : PT_ c a l h) (hl : l.length ≤ 11) (hm : ∀ m, m ∈ l → m ≠ 0 ∧ m < 256 ∧ pw_ 8 (gw_ c) a m < 1152921504606846976) (hB : ∀ s v, B s v → s &&& w = s ∧ v < 1152921504606846976) (hrow : ∀ s, s < 256 → LX_ (hL_ h 26230803 s) (B s)) : ∃ r', (∀ s, s < 256 → LX_ (r' s) (SF_ B c a l s)) ∧ Do_ xs d 23 [vA (some 25952258), vI (Int32.ofNat w), vX 0, vX 0, vX 0, vX 0, vX 0] h (some none) (uL_ h 26230803 r') := by
  obtain ⟨r', h1, h2⟩ := c_giveFrom (xs := xs) (d := d) hC hw hPT hl (fun i hi => hm _ (gd_mem.mpr ⟨i, hi, rfl⟩)) hB w (hL_ h 26230803) (vX 0) (vX 0) (vX 0) (Nat.and_self w) (fun s hs => (hrow s hs).iff (fun v => by
    constructor
    · exact fun hv => Or.inl hv
    · rintro (hv | ⟨s', i, v', g1, g2, g3, -⟩)
      · exact hv
      · have : s' &&& w ≤ w := Nat.and_le_right
        omega))
  refine ⟨r', h1, fun Q => ?_⟩
  have := h2 Q
  rw [uL_self] at this
  simp (disch := first | omega | assumption | decide | (apply bT_; decide)) only [s23_0, s23_1, s23_3, s23_6, s23_7, s23_10, s23_13, s23_14, s23_17, s23_18, s23_19, s23_20, s23_21, s23_23, s23_25, s23_26, s23_29, s23_32, s23_33, s23_36, s23_37, s23_40, s23_41, s23_44, s23_46, s23_47, s23_49, s23_50, s23_52, s23_53, s23_56, s23_57, s23_58, s23_61, s23_63, s23_64, s23_65, s23_66, s23_69, s23_70, s23_72, s23_73, s23_74, s23_75, s23_78, s23_79, s23_82, s23_83, s23_85, s23_86, s23_87, s23_88, s23_91, s23_93, s23_94, s23_95, s23_96, s23_99, s23_102, s23_103, s23_106, s23_107, s23_110, s23_111, s23_112, s23_113, s23_114, s23_115, s23_116, s23_119, K_v, K_0, acI, acA, acJ, acX, List.map_cons, List.map_nil, List.sum_cons, List.sum_nil, true_and, and_true, posT, b2_0, b2_1, bft, true_or, or_true, Nat.zero_le, Nat.reduceAdd, Nat.reduceLeDiff, hI_uI, hL_uI, hR_uI, nx_uI, sl_uI, hI_uL, hL_uL, hR_uL, nx_uL, sl_uL, hI_uR, hL_uR, hR_uR, nx_uR, sl_uR, st_eq, if_true, if_false, eq_self, Nat.reduceEqDiff, Nat.reduceMul, reduceIte, kdT, ixT, w_cl, w_ti, w_s1, w_a, w_m12, w_m8, w_m3, w_m4]
  exact this
end CGV
