/-! the class reads the tokens -/
theorem tok_ok : ∀ j, j < 22 → ok1_ 32 (some (tref_ j)) = true := by decide +kernel
theorem cl_lt : ∀ s, s < 25 → cl_ s < 22 := by decide +kernel
section SPC
variable {B : Nat → Int32} {N p e i : Nat}
theorem fx_le {c : Nat → Bool} : ∀ {a i : Nat}, fx_ c (i + a) a i ≤ i + a := by
  intro a
  induction a with
  | zero => intro i; exact Nat.le_refl _
  | succ a ih =>
    intro i
    show (if c i = true then i else fx_ c (i + (a + 1)) a (i + 1)) ≤ _
    have := ih (i := i + 1)
    rw [show i + 1 + a = i + (a + 1) by omega] at this
    split <;> omega
theorem fx_app {c : Nat → Bool} {z b : Nat} : ∀ {a i : Nat}, fx_ c z (a + b) i = if fx_ c (i + a) a i < i + a then fx_ c (i + a) a i else fx_ c z b (i + a) := by
  intro a
  induction a with
  | zero =>
    intro i
    rw [Nat.zero_add]
    show _ = if i + 0 < i + 0 then _ else _
    rw [if_neg (Nat.lt_irrefl _), Nat.add_zero]
  | succ a ih =>
    intro i
    rw [show a + 1 + b = (a + b) + 1 by omega]
    show (if c i = true then i else fx_ c z (a + b) (i + 1)) = if (if c i = true then i else fx_ c (i + (a + 1)) a (i + 1)) < i + (a + 1) then (if c i = true then i else fx_ c (i + (a + 1)) a (i + 1)) else fx_ c z b (i + (a + 1))
    by_cases q : c i = true
    · rw [if_pos q, if_pos q, if_pos (by omega)]
    · rw [if_neg q, if_neg q, ih, show i + 1 + a = i + (a + 1) by omega]
theorem fx_none {c : Nat → Bool} {z : Nat} : ∀ {k i : Nat}, (∀ j, i ≤ j → j < i + k → c j = false) → fx_ c z k i = z := by
  intro k
  induction k with
  | zero => intro i _; rfl
  | succ k ih =>
    intro i h
    show (if c i = true then i else fx_ c z k (i + 1)) = z
    rw [h i (Nat.le_refl _) (by omega), if_neg (by decide)]
    exact ih (fun j h1 h2 => h j (by omega) (by omega))
theorem lk_t {j : Nat} (h : lk_ B p e j = true) : e - p = sln_ j ∧ ∀ k, k < sln_ j → B (p + k) = sch_ j k := by
  unfold lk_ at h
  rw [Bool.and_eq_true, decide_eq_true_eq, Bool.not_eq_true'] at h
  refine ⟨h.1, fun k hk => ?_⟩
  apply Decidable.byContradiction
  intro z
  have : an_ (fun k => !decide (B (p + k) = sch_ j k)) (sln_ j) 0 = true := an_iff.mpr ⟨k, Nat.zero_le _, by omega, by rw [decide_eq_false z]; rfl⟩
  rw [this] at h
  cases h.2
theorem lk_f {j : Nat} (h : e - p ≠ sln_ j) : lk_ B p e j = false := by
  unfold lk_
  rw [decide_eq_false h, Bool.false_and]
theorem lk_one {j : Nat} (h : sln_ j = 1) : lk_ B p (p + 1) j = decide (B p = sch_ j 0) := by
  unfold lk_
  rw [h, decide_eq_true (by omega), Bool.true_and]
  show (!(!decide (B (p + 0) = sch_ j 0) || false)) = _
  rw [Bool.or_false, Bool.not_not, Nat.add_zero]
theorem sot_lt : sot_ B N p < 25 := by
  have h1 : ∀ i, i < 15 → wcd_ i < 25 := by decide +kernel
  have h2 : fx_ (lk_ B p (en_ B N p)) 14 14 0 ≤ 14 := by
    have := fx_le (c := lk_ B p (en_ B N p)) (i := 0) (a := 14)
    rw [Nat.zero_add] at this
    exact this
  unfold sot_ sgn_
  have := h1 (fx_ (lk_ B p (en_ B N p)) 14 14 0) (by omega)
  repeat' split
  all_goals omega
theorem sp_cl (hp : p < N) (hd : dc_ B N p = false) : fx_ (lk_ B p (en_ B N p)) 21 22 0 = cl_ (sot_ B N p) := by
  have hen := en_ge (B := B) hp
  have e1 : lc_ B N p = wi_ (B p) 97 122 := by unfold lc_; rw [decide_eq_true hp, Bool.true_and]
  have hsplit := fx_app (c := lk_ B p (en_ B N p)) (z := 21) (b := 8) (a := 14) (i := 0)
  rw [Nat.zero_add] at hsplit
  have hw : ∀ i, i < 14 → cl_ (wcd_ i) = i := by decide +kernel
  have ll : ∀ j, j < 14 → 0 < sln_ j ∧ wi_ (sch_ j 0) 97 122 = true := by decide +kernel
  have lh : ∀ j, j < 22 → 14 ≤ j → sln_ j = 0 ∨ wi_ (sch_ j 0) 97 122 = false := by decide +kernel
  unfold sot_
  rw [if_pos hp, hd]
  rw [hsplit]
  cases hl : lc_ B N p
  · simp only [Bool.false_eq_true, if_false]
    have hno : ∀ j, j < 14 → lk_ B p (en_ B N p) j = false := by
      intro j hj
      cases hk : lk_ B p (en_ B N p) j
      · rfl
      · obtain ⟨h1, h2⟩ := ll j hj
        have := (lk_t hk).2 0 h1
        rw [Nat.add_zero] at this
        rw [← this, ← e1, hl] at h2
        cases h2
    have h14 : fx_ (lk_ B p (en_ B N p)) 14 14 0 = 14 := fx_none (fun j _ h2 => hno j (by omega))
    rw [h14, if_neg (by omega)]
    show (if lk_ B p (en_ B N p) 14 = true then 14 else if lk_ B p (en_ B N p) 15 = true then 15 else if lk_ B p (en_ B N p) 16 = true then 16 else if lk_ B p (en_ B N p) 17 = true then 17 else if lk_ B p (en_ B N p) 18 = true then 18 else if lk_ B p (en_ B N p) 19 = true then 19 else if lk_ B p (en_ B N p) 20 = true then 20 else if lk_ B p (en_ B N p) 21 = true then 21 else 21) = _
    cases hg : ge_ B N p
    · have hen1 : en_ B N p = p + 1 := by unfold en_; rw [hl, hd, hg]; rfl
      have a14 := lk_one (B := B) (p := p) (j := 14) (by decide)
      have a15 := lk_one (B := B) (p := p) (j := 15) (by decide)
      have a16 := lk_one (B := B) (p := p) (j := 16) (by decide)
      have a17 := lk_one (B := B) (p := p) (j := 17) (by decide)
      have a18 := lk_f (B := B) (p := p) (e := p + 1) (j := 18) (by rw [show sln_ 18 = 2 from by decide]; omega)
      have a19 := lk_f (B := B) (p := p) (e := p + 1) (j := 19) (by rw [show sln_ 19 = 0 from by decide]; omega)
      have a20 := lk_f (B := B) (p := p) (e := p + 1) (j := 20) (by rw [show sln_ 20 = 0 from by decide]; omega)
      have a21 := lk_f (B := B) (p := p) (e := p + 1) (j := 21) (by rw [show sln_ 21 = 0 from by decide]; omega)
      rw [hen1, a14, a15, a16, a17, a18, a19, a20, a21, show sch_ 14 0 = 40 from by decide, show sch_ 15 0 = 41 from by decide, show sch_ 16 0 = 59 from by decide, show sch_ 17 0 = 60 from by decide]
      unfold sgn_
      by_cases q1 : B p = 40
      · rw [if_pos (decide_eq_true q1), if_neg Bool.false_ne_true, if_pos q1]; decide
      · rw [if_neg (by rw [decide_eq_false q1]; decide)]
        by_cases q2 : B p = 41
        · rw [if_pos (decide_eq_true q2), if_neg (by decide), if_neg q1, if_pos q2]; decide
        · rw [if_neg (by rw [decide_eq_false q2]; decide)]
          by_cases q3 : B p = 59
          · rw [if_pos (decide_eq_true q3), if_neg (by decide), if_neg q1, if_neg q2, if_pos q3]; decide
          · rw [if_neg (by rw [decide_eq_false q3]; decide)]
            by_cases q4 : B p = 60
            · rw [if_pos (decide_eq_true q4), if_neg (by decide), if_neg q1, if_neg q2, if_neg q3, if_pos q4]; decide
            · rw [if_neg (by rw [decide_eq_false q4]; decide), if_neg (by decide), if_neg q1, if_neg q2, if_neg q3, if_neg q4]; decide
    · have hen2 : en_ B N p = p + 2 := by unfold en_; rw [hl, hd, hg]; rfl
      have b1 : ∀ j, sln_ j = 1 → lk_ B p (p + 2) j = false := fun j hj => lk_f (by rw [hj]; omega)
      unfold ge_ at hg
      rw [Bool.and_eq_true, Bool.and_eq_true, decide_eq_true_eq, decide_eq_true_eq, decide_eq_true_eq] at hg
      have a18 : lk_ B p (p + 2) 18 = true := by
        unfold lk_
        rw [show sln_ 18 = 2 from by decide, decide_eq_true (by omega), Bool.true_and]
        show (!(!decide (B (p + 0) = sch_ 18 0) || (!decide (B (p + (0 + 1)) = sch_ 18 1) || false))) = true
        rw [Nat.add_zero, Nat.zero_add, hg.1, hg.2.2]
        decide
      rw [hen2, b1 14 (by decide), b1 15 (by decide), b1 16 (by decide), b1 17 (by decide), a18]
      simp only [Bool.false_eq_true, if_false, if_true]
      decide
  · rw [if_pos rfl]
    have hno : ∀ j, 14 ≤ j → j < 14 + 8 → lk_ B p (en_ B N p) j = false := by
      intro j h1 h2
      cases hk : lk_ B p (en_ B N p) j
      · rfl
      · have ht := lk_t hk
        rcases lh j (by omega) h1 with z | z
        · omega
        · have := ht.2 0 (by omega)
          rw [Nat.add_zero] at this
          rw [← this, ← e1, hl] at z
          cases z
    by_cases q : fx_ (lk_ B p (en_ B N p)) 14 14 0 < 14
    · rw [if_pos q, hw _ q]
    · have hle := fx_le (c := lk_ B p (en_ B N p)) (i := 0) (a := 14)
      rw [Nat.zero_add] at hle
      rw [if_neg q, fx_none hno, show fx_ (lk_ B p (en_ B N p)) 14 14 0 = 14 by omega]
      decide
end SPC
/-- the places of the tokens -/
def ps_ (B : Nat → Int32) (N : Nat) : Nat → Nat
  | 0 => tp_ B N 0
  | k + 1 => if ps_ B N k < N then tp_ B N (en_ B N (ps_ B N k)) else N
def stk_ (B : Nat → Int32) (N k : Nat) : Nat := sot_ B N (ps_ B N k)
def vlk_ (B : Nat → Int32) (N k : Nat) : Int32 := vv_ B (ps_ B N k) (en_ B N (ps_ B N k) - ps_ B N k)
def KT_ (WI WR : List Nat) (h h' : AH) : Prop := (∀ a, a ∉ WI → hI_ h' a = hI_ h a) ∧ hL_ h' = hL_ h ∧ (∀ a j, a ∉ WR → (a = 29884421 → j ≠ 6) → hR_ h' a j = hR_ h a j) ∧ nx_ h' = nx_ h ∧ sl_ h' = sl_ h
def TKs_ (B : Nat → Int32) (N f : Nat) (h : AH) : Prop := ∀ k, k < f → hR_ h 30197846 k = some (tref_ (cl_ (stk_ B N k))) ∧ hI_ h 30459984 k = Int32.ofNat (ps_ B N k) ∧ (stk_ B N k = 2 → hI_ h 30722128 k = vlk_ B N k)
section KTS
variable {WI WR : List Nat} {h h1 h2 : AH} {P : PS} {sp sa : Nat → Nat} {na : Nat} {F G : Nat → Nat → Int32}
theorem KT_.rf : KT_ WI WR h h := ⟨fun _ _ => rfl, rfl, fun _ _ _ _ => rfl, rfl, rfl⟩
theorem KT_.tr (f : KT_ WI WR h h1) (g : KT_ WI WR h1 h2) : KT_ WI WR h h2 := ⟨fun a q => (g.1 a q).trans (f.1 a q), g.2.1.trans f.2.1, fun a j q r => (g.2.2.1 a j q r).trans (f.2.2.1 a j q r), g.2.2.2.1.trans f.2.2.2.1, g.2.2.2.2.trans f.2.2.2.2⟩
theorem KT_.mono {WI' WR' : List Nat} (f : KT_ WI WR h h1) (hI : ∀ a ∈ WI, a ∈ WI') (hR : ∀ a ∈ WR, a ∈ WR') : KT_ WI' WR' h h1 := ⟨fun a q => f.1 a (fun z => q (hI a z)), f.2.1, fun a j q r => f.2.2.1 a j (fun z => q (hR a z)) r, f.2.2.2⟩
theorem KT_.uI {b : Nat} {r : Nat → Int32} (f : KT_ WI WR h h1) (hb : b ∈ WI) : KT_ WI WR h (uI_ h1 b r) := ⟨fun a q => by rw [hI_uI, if_neg (fun (z : a = b) => q (z ▸ hb))]; exact f.1 a q, f.2.1, f.2.2.1, f.2.2.2⟩
theorem KT_.uR {b : Nat} {r : Nat → Option Nat} (f : KT_ WI WR h h1) (hb : b ∈ WR) : KT_ WI WR h (uR_ h1 b r) := ⟨f.1, f.2.1, fun a j q r => by rw [hR_uR, if_neg (fun (z : a = b) => q (z ▸ hb))]; exact f.2.2.1 a j q r, f.2.2.2⟩
theorem KT_.cs (f : KT_ WI WR h h1) (hW : ∀ a ∈ WR, a ∈ [30197846, 31195798, 32506518]) (H : CS_ h) : CS_ h1 := by
  have g : ∀ a j, a ∉ [30197846, 31195798, 32506518] → (a = 29884421 → j ≠ 6) → hR_ h1 a j = hR_ h a j := fun a j q r => f.2.2.1 a j (fun z => q (hW a z)) r
  unfold CS_ at H ⊢
  simp (disch := decide) only [g]
  exact H
end KTS
section CSC
variable {xs : Nat → Int32} {d : Nat} {h : AH} {Q : OU_ → AH → Prop} {B : Nat → Int32} {N p e i f : Nat}
theorem c_addToken (hC : CS_ h) (hT : TX_ B N 29673489 h) (hf : hI_ h 29884421 3 = Int32.ofNat f) (hf8 : f < 800) (hs : TKs_ B N f h) (hp : ps_ B N f = p) (hpN : p < N) (hd : 7 ≤ d) : ∃ h', KT_ [29884421, 30459984, 30722128] [30197846] h h' ∧ hI_ h' 29884421 3 = Int32.ofNat (f + 1) ∧ TKs_ B N (f + 1) h' ∧ Do_ xs d 44 [vA (some 29884421), vA (some 29673489), vI (Int32.ofNat p), vI (Int32.ofNat (en_ B N p))] h (some none) h' := by
  obtain ⟨hN, hB⟩ := id hT
  obtain ⟨en1, en2⟩ := en_ge (B := B) hpN
  have hbp := hB p hpN
  have hk : kd_ 29673489 = 17 ∨ kd_ 29673489 = 18 := Or.inl rfl
  have l8 : Int32.ofNat f < 800 := (w_lt (b := 800) (by omega) (by omega)).mpr hf8
  have hid := fun Q => c_isDigit (xs := xs) (d := d - 1) (h := h) (Q := Q) (x := B p) (by omega)
  have e2 : dc_ B N p = wi_ (B p) 48 57 := by unfold dc_; rw [decide_eq_true hpN, Bool.true_and]
  have k10 : ¬ ((1 : Int32) = 0) := by decide
  have estk : stk_ B N f = sot_ B N p := by unfold stk_; rw [hp]
  have evlk : vlk_ B N f = vv_ B p (en_ B N p - p) := by unfold vlk_; rw [hp]
  have hsub := w_sub (a := en_ B N p) (b := p) (by omega)
  cases hw : wi_ (B p) 48 57
  · have hid' : ∀ Q : OU_ → AH → Prop, V_ xs (d - 1) 42 0 [vI (B p)] [] h Q ↔ Q (some (some (vI 0))) h := by intro Q; rw [hid, hw]; exact Iff.rfl
    have hsp := fun Q => c_spelledToken (xs := xs) (d := d - 1) (p := p) (Q := Q) hT en2 (by omega) (by omega)
    rw [sp_cl hpN (by rw [e2, hw])] at hsp
    have hok : kd_ 30197846 = 20 ∧ ok1_ 0 (some (tref_ (cl_ (sot_ B N p)))) = true ∨ kd_ 30197846 = 21 ∧ ok1_ 4 (some (tref_ (cl_ (sot_ B N p)))) = true ∨ kd_ 30197846 = 22 ∧ ok1_ 32 (some (tref_ (cl_ (sot_ B N p)))) = true := Or.inr (Or.inr ⟨rfl, tok_ok _ (cl_lt _ sot_lt)⟩)
    refine ⟨uI_ (uI_ (uR_ h 30197846 (st_ (hR_ h 30197846) f (some (tref_ (cl_ (sot_ B N p)))))) 30459984 (st_ (hI_ h 30459984) f (Int32.ofNat p))) 29884421 (st_ (hI_ h 29884421) 3 (Int32.ofNat (f + 1))), ((KT_.rf.uR (by decide)).uI (by decide)).uI (by decide), by simp only [hI_uI, hL_uI, hR_uI, nx_uI, sl_uI, hI_uL, hL_uL, hR_uL, nx_uL, sl_uL, hI_uR, hL_uR, hR_uR, nx_uR, sl_uR, st_eq, if_true, if_false, eq_self, Nat.reduceEqDiff, Nat.reduceMul, reduceIte, kdT, ixT, w_cl, w_ti, w_s1, w_a, w_m12, w_m8, w_m3, w_m4], fun k hk => ?_, fun Q => ?_⟩
    · simp only [hI_uI, hL_uI, hR_uI, nx_uI, sl_uI, hI_uL, hL_uL, hR_uL, nx_uL, sl_uL, hI_uR, hL_uR, hR_uR, nx_uR, sl_uR, st_eq, if_true, if_false, eq_self, Nat.reduceEqDiff, Nat.reduceMul, reduceIte, kdT, ixT, w_cl, w_ti, w_s1, w_a, w_m12, w_m8, w_m3, w_m4]
      by_cases q : k = f
      · rw [if_pos q, if_pos q, q, estk, hp]
        refine ⟨rfl, rfl, fun z => ?_⟩
        exfalso
        unfold sot_ at z
        rw [if_pos hpN, show dc_ B N p = false by rw [e2, hw], if_neg (show ¬ (false = true) by decide)] at z
        have hw2 : ∀ i, i < 15 → wcd_ i ≠ 2 := by decide +kernel
        have hle := fx_le (c := lk_ B p (en_ B N p)) (i := 0) (a := 14)
        rw [Nat.zero_add] at hle
        have hw3 := hw2 _ (show fx_ (lk_ B p (en_ B N p)) 14 14 0 < 15 by omega)
        unfold sgn_ at z
        revert z
        repeat' split
        all_goals omega
      · rw [if_neg q, if_neg q]; exact hs k (by omega)
    · simp (disch := first | omega | assumption | decide | (apply bT_; decide)) only [s44_0, s44_1, s44_4, s44_7, s44_11, s44_12, s44_13, s44_14, s44_17, s44_21, s44_24, s44_25, s44_28, s44_29, s44_30, s44_31, s44_33, s44_36, s44_39, s44_42, s44_45, s44_46, s44_47, s44_50, s44_51, s44_54, s44_55, s44_56, s44_57, s44_60, s44_61, s44_64, s44_65, s44_68, s44_69, s44_72, s44_73, s44_74, s44_75, s44_78, s44_79, s44_80, s44_83, s44_84, s44_87, s44_88, s44_89, s44_90, s44_90i, s44_91, s44_94, s44_95, s44_96, s44_99, K_v, K_0, acI, acA, acJ, acX, List.map_cons, List.map_nil, List.sum_cons, List.sum_nil, true_and, and_true, posT, b2_0, b2_1, bft, true_or, or_true, Nat.zero_le, Nat.reduceAdd, Nat.reduceLeDiff, hI_uI, hL_uI, hR_uI, nx_uI, sl_uI, hI_uL, hL_uL, hR_uL, nx_uL, sl_uL, hI_uR, hL_uR, hR_uR, nx_uR, sl_uR, st_eq, if_true, if_false, eq_self, Nat.reduceEqDiff, Nat.reduceMul, reduceIte, kdT, ixT, w_cl, w_ti, w_s1, w_a, w_m12, w_m8, w_m3, w_m4, hC.x0, hC.x2, hC.x4, hC.x7, hC.x8, hC.x9, hC.x11, hC.f0, hC.f1, hC.f2, hC.p0, hC.p1, hC.p2, hC.p3, hC.l1, hC.l2, hC.l3, hC.l4, hC.d0, hC.d1, hC.d2, hC.g1, hC.g2, hC.g3, hC.g4, hC.k1, hC.k2, hC.k3, hC.k4, hf, l8, hbp, hid', hsp, hok, hk, kd_RD, ln_RD, kd_TK, ln_TK, kd_PLC, ln_PLC, kd_NUM, ln_NUM, kd_TP, ln_TP]
  · have hid' : ∀ Q : OU_ → AH → Prop, V_ xs (d - 1) 42 0 [vI (B p)] [] h Q ↔ Q (some (some (vI 1))) h := by intro Q; rw [hid, hw]; exact Iff.rfl
    have hva := fun (h' : AH) (hT' : TX_ B N 29673489 h') Q => c_valueOf (xs := xs) (d := d - 1) (p := p) (Q := Q) hT' en2 (by omega)
    have esot : sot_ B N p = if 6 < en_ B N p - p then 1 else 2 := by
      unfold sot_
      have hll : lc_ B N p = false := by
        unfold lc_
        obtain ⟨d1, d2⟩ := wi_t.mp hw
        have d2' : (B p).toInt ≤ 57 := d2
        rw [show wi_ (B p) 97 122 = false from wi_f.mpr (fun z => by have z1 : (97 : Int) ≤ (B p).toInt := z.1; omega), Bool.and_false]
      rw [if_pos hpN, hll, if_neg (by decide), e2, hw, if_pos rfl]
    by_cases q6 : 6 < en_ B N p - p
    · rw [if_pos q6] at esot
      have n6 : (6 : Int32) < Int32.ofNat (en_ B N p - p) := (w_lt (a := 6) (by omega) (by omega)).mpr q6
      have hok : kd_ 30197846 = 20 ∧ ok1_ 0 (some 5767200) = true ∨ kd_ 30197846 = 21 ∧ ok1_ 4 (some 5767200) = true ∨ kd_ 30197846 = 22 ∧ ok1_ 32 (some 5767200) = true := Or.inr (Or.inr ⟨rfl, by decide⟩)
      have hva' := hva (uR_ h 30197846 (st_ (hR_ h 30197846) f (some 5767200))) ⟨hN, hB⟩
      refine ⟨uI_ (uI_ (uI_ (uR_ h 30197846 (st_ (hR_ h 30197846) f (some 5767200))) 30722128 (st_ (hI_ h 30722128) f (vv_ B p (en_ B N p - p)))) 30459984 (st_ (hI_ h 30459984) f (Int32.ofNat p))) 29884421 (st_ (hI_ h 29884421) 3 (Int32.ofNat (f + 1))), (((KT_.rf.uR (by decide)).uI (by decide)).uI (by decide)).uI (by decide), by simp only [hI_uI, hL_uI, hR_uI, nx_uI, sl_uI, hI_uL, hL_uL, hR_uL, nx_uL, sl_uL, hI_uR, hL_uR, hR_uR, nx_uR, sl_uR, st_eq, if_true, if_false, eq_self, Nat.reduceEqDiff, Nat.reduceMul, reduceIte, kdT, ixT, w_cl, w_ti, w_s1, w_a, w_m12, w_m8, w_m3, w_m4], fun k hk => ?_, fun Q => ?_⟩
      · simp only [hI_uI, hL_uI, hR_uI, nx_uI, sl_uI, hI_uL, hL_uL, hR_uL, nx_uL, sl_uL, hI_uR, hL_uR, hR_uR, nx_uR, sl_uR, st_eq, if_true, if_false, eq_self, Nat.reduceEqDiff, Nat.reduceMul, reduceIte, kdT, ixT, w_cl, w_ti, w_s1, w_a, w_m12, w_m8, w_m3, w_m4]
        by_cases q : k = f
        · rw [if_pos q, if_pos q, if_pos q, q, estk, hp, evlk, esot]
          exact ⟨by decide, rfl, fun _ => rfl⟩
        · rw [if_neg q, if_neg q, if_neg q]; exact hs k (by omega)
      · simp (disch := first | omega | assumption | decide | (apply bT_; decide)) only [s44_0, s44_1, s44_4, s44_7, s44_11, s44_12, s44_13, s44_14, s44_17, s44_20, s44_21, s44_24, s44_25, s44_28, s44_29, s44_30, s44_31, s44_33, s44_39, s44_42, s44_45, s44_46, s44_47, s44_50, s44_51, s44_54, s44_55, s44_56, s44_57, s44_60, s44_61, s44_65, s44_68, s44_69, s44_72, s44_73, s44_74, s44_75, s44_78, s44_79, s44_80, s44_83, s44_84, s44_87, s44_88, s44_89, s44_90, s44_90i, s44_91, s44_94, s44_95, s44_96, s44_99, K_v, K_0, acI, acA, acJ, acX, List.map_cons, List.map_nil, List.sum_cons, List.sum_nil, true_and, and_true, posT, b2_0, b2_1, bft, true_or, or_true, Nat.zero_le, Nat.reduceAdd, Nat.reduceLeDiff, hI_uI, hL_uI, hR_uI, nx_uI, sl_uI, hI_uL, hL_uL, hR_uL, nx_uL, sl_uL, hI_uR, hL_uR, hR_uR, nx_uR, sl_uR, st_eq, if_true, if_false, eq_self, Nat.reduceEqDiff, Nat.reduceMul, reduceIte, kdT, ixT, w_cl, w_ti, w_s1, w_a, w_m12, w_m8, w_m3, w_m4, hC.x0, hC.x2, hC.x4, hC.x7, hC.x8, hC.x9, hC.x11, hC.f0, hC.f1, hC.f2, hC.p0, hC.p1, hC.p2, hC.p3, hC.l1, hC.l2, hC.l3, hC.l4, hC.d0, hC.d1, hC.d2, hC.g1, hC.g2, hC.g3, hC.g4, hC.k1, hC.k2, hC.k3, hC.k4, hf, l8, hbp, hid', k10, hsub, n6, hva', hok, hk, kd_RD, ln_RD, kd_TK, ln_TK, kd_PLC, ln_PLC, kd_NUM, ln_NUM, kd_TP, ln_TP]
    · rw [if_neg q6] at esot
      have n6 : ¬ ((6 : Int32) < Int32.ofNat (en_ B N p - p)) := fun z => q6 ((w_lt (a := 6) (by omega) (by omega)).mp z)
      have hok : kd_ 30197846 = 20 ∧ ok1_ 0 (some 5242912) = true ∨ kd_ 30197846 = 21 ∧ ok1_ 4 (some 5242912) = true ∨ kd_ 30197846 = 22 ∧ ok1_ 32 (some 5242912) = true := Or.inr (Or.inr ⟨rfl, by decide⟩)
      have hva' := hva (uR_ h 30197846 (st_ (hR_ h 30197846) f (some 5242912))) ⟨hN, hB⟩
      refine ⟨uI_ (uI_ (uI_ (uR_ h 30197846 (st_ (hR_ h 30197846) f (some 5242912))) 30722128 (st_ (hI_ h 30722128) f (vv_ B p (en_ B N p - p)))) 30459984 (st_ (hI_ h 30459984) f (Int32.ofNat p))) 29884421 (st_ (hI_ h 29884421) 3 (Int32.ofNat (f + 1))), (((KT_.rf.uR (by decide)).uI (by decide)).uI (by decide)).uI (by decide), by simp only [hI_uI, hL_uI, hR_uI, nx_uI, sl_uI, hI_uL, hL_uL, hR_uL, nx_uL, sl_uL, hI_uR, hL_uR, hR_uR, nx_uR, sl_uR, st_eq, if_true, if_false, eq_self, Nat.reduceEqDiff, Nat.reduceMul, reduceIte, kdT, ixT, w_cl, w_ti, w_s1, w_a, w_m12, w_m8, w_m3, w_m4], fun k hk => ?_, fun Q => ?_⟩
      · simp only [hI_uI, hL_uI, hR_uI, nx_uI, sl_uI, hI_uL, hL_uL, hR_uL, nx_uL, sl_uL, hI_uR, hL_uR, hR_uR, nx_uR, sl_uR, st_eq, if_true, if_false, eq_self, Nat.reduceEqDiff, Nat.reduceMul, reduceIte, kdT, ixT, w_cl, w_ti, w_s1, w_a, w_m12, w_m8, w_m3, w_m4]
        by_cases q : k = f
        · rw [if_pos q, if_pos q, if_pos q, q, estk, hp, evlk, esot]
          exact ⟨by decide, rfl, fun _ => rfl⟩
        · rw [if_neg q, if_neg q, if_neg q]; exact hs k (by omega)
      · simp (disch := first | omega | assumption | decide | (apply bT_; decide)) only [s44_0, s44_1, s44_4, s44_7, s44_11, s44_12, s44_13, s44_14, s44_17, s44_20, s44_21, s44_24, s44_25, s44_28, s44_29, s44_30, s44_31, s44_33, s44_36, s44_39, s44_45, s44_46, s44_47, s44_50, s44_51, s44_54, s44_55, s44_56, s44_57, s44_60, s44_61, s44_65, s44_68, s44_69, s44_72, s44_73, s44_74, s44_75, s44_78, s44_79, s44_80, s44_83, s44_84, s44_87, s44_88, s44_89, s44_90, s44_90i, s44_91, s44_94, s44_95, s44_96, s44_99, K_v, K_0, acI, acA, acJ, acX, List.map_cons, List.map_nil, List.sum_cons, List.sum_nil, true_and, and_true, posT, b2_0, b2_1, bft, true_or, or_true, Nat.zero_le, Nat.reduceAdd, Nat.reduceLeDiff, hI_uI, hL_uI, hR_uI, nx_uI, sl_uI, hI_uL, hL_uL, hR_uL, nx_uL, sl_uL, hI_uR, hL_uR, hR_uR, nx_uR, sl_uR, st_eq, if_true, if_false, eq_self, Nat.reduceEqDiff, Nat.reduceMul, reduceIte, kdT, ixT, w_cl, w_ti, w_s1, w_a, w_m12, w_m8, w_m3, w_m4, hC.x0, hC.x2, hC.x4, hC.x7, hC.x8, hC.x9, hC.x11, hC.f0, hC.f1, hC.f2, hC.p0, hC.p1, hC.p2, hC.p3, hC.l1, hC.l2, hC.l3, hC.l4, hC.d0, hC.d1, hC.d2, hC.g1, hC.g2, hC.g3, hC.g4, hC.k1, hC.k2, hC.k3, hC.k4, hf, l8, hbp, hid', k10, hsub, n6, hva', hok, hk, kd_RD, ln_RD, kd_TK, ln_TK, kd_PLC, ln_PLC, kd_NUM, ln_NUM, kd_TP, ln_TP]
theorem ps_le : ∀ {k : Nat}, ps_ B N k ≤ N := by
  intro k
  cases k with
  | zero => exact (tp_ge (Nat.zero_le _)).2
  | succ k =>
    show (if ps_ B N k < N then tp_ B N (en_ B N (ps_ B N k)) else N) ≤ N
    split
    · rename_i q
      exact (tp_ge (en_ge q).2).2
    · exact Nat.le_refl _
/-- all tokens stand -/
def TKF_ (B : Nat → Int32) (N f : Nat) (h : AH) : Prop := N ≤ 800 ∧ hI_ h 29884421 3 = Int32.ofNat f ∧ f ≤ 800 ∧ ps_ B N f = N ∧ (∀ k, k < f → ps_ B N k < N) ∧ TKs_ B N (f + 1) h
theorem c_scan (hC : CS_ h) (hT : TX_ B N 29673489 h) (hd : 8 ≤ d) : ∃ h' f, KT_ [29884421, 30459984, 30722128] [30197846] h h' ∧ TKF_ B N f h' ∧ Do_ xs d 39 [vA (some 29884421), vA (some 29673489), vI (Int32.ofNat N), vX 0, vX 0] h (some none) h' := by
  obtain ⟨hN, hB⟩ := id hT
  have hk : kd_ 29673489 = 17 ∨ kd_ 29673489 = 18 := Or.inl rfl
  have k10 : ¬ ((1 : Int32) = 0) := by decide
  obtain ⟨⟨x, to, f⟩, ⟨i1, i2, i3, i4, i5, i6, i7⟩, k2⟩ := loopX_ (P := fun Q i (z : AH × Nat × Nat) => V_ xs d 39 10 [vA (some 29884421), vA (some 29673489), vI (Int32.ofNat N), vI (Int32.ofNat z.2.1), vI (Int32.ofNat i)] [] z.1 Q) (n := N) (fun i z => KT_ [29884421, 30459984, 30722128] [30197846] h z.1 ∧ hI_ z.1 29884421 3 = Int32.ofNat z.2.2 ∧ z.2.2 ≤ i ∧ z.2.1 ≤ N ∧ ps_ B N z.2.2 = tp_ B N (max i z.2.1) ∧ (∀ k, k < z.2.2 → ps_ B N k < N) ∧ TKs_ B N z.2.2 z.1) (fun i z hi hI => by
    obtain ⟨x, to, f⟩ := z
    obtain ⟨i1, i2, i3, i4, i5, i6, i7⟩ := hI
    dsimp only at i1 i2 i3 i4 i5 i6 i7
    have hCx := i1.cs (by decide) hC
    have hTx : TX_ B N 29673489 x := ⟨hN, fun j hj => by rw [i1.1 29673489 (by decide)]; exact hB j hj⟩
    have hbi := hTx.2 i hi
    have hib := fun Q => c_isBlank (xs := xs) (d := d - 1) (h := x) (Q := Q) (x := B i)
    by_cases q : i < to
    · refine ⟨(x, to, f), ⟨i1, i2, by dsimp only; omega, i4, ?_, i6, i7⟩, fun Q => ?_⟩
      · dsimp only
        rw [i5, show max i to = to by omega, show max (i + 1) to = to by omega]
      · dsimp only
        rw [s39_10]
        simp (disch := first | omega | assumption | decide | (apply bT_; decide)) only [s39_0, s39_1, s39_2, s39_5, s39_6, s39_7, s39_8, s39_12, s39_13, s39_16, s39_18, s39_19, s39_23, s39_25, s39_26, s39_29, s39_32, s39_33, s39_35, s39_36, s39_39, s39_40, s39_41, s39_42, s39_44, s39_45, s39_48, s39_51, s39_55, s39_58, s39_59, s39_62, s39_65, s39_66, s39_67, s39_70, s39_71, s39_74, s39_75, s39_76, K_v, K_0, acI, acA, acJ, acX, List.map_cons, List.map_nil, List.sum_cons, List.sum_nil, true_and, and_true, posT, b2_0, b2_1, bft, true_or, or_true, Nat.zero_le, Nat.reduceAdd, Nat.reduceLeDiff, hI_uI, hL_uI, hR_uI, nx_uI, sl_uI, hI_uL, hL_uL, hR_uL, nx_uL, sl_uL, hI_uR, hL_uR, hR_uR, nx_uR, sl_uR, st_eq, if_true, if_false, eq_self, Nat.reduceEqDiff, Nat.reduceMul, reduceIte, kdT, ixT, w_cl, w_ti, w_s1, w_a, w_m12, w_m8, w_m3, w_m4, hi, q, w_lt]
    · cases hb : bkc_ (B i)
      · have hib' : ∀ Q : OU_ → AH → Prop, V_ xs (d - 1) 40 0 [vI (B i)] [] x Q ↔ Q (some (some (vI 0))) x := by
          intro Q
          rw [hib, show decide (B i = 32 ∨ B i = 10) = false from hb]
          exact Iff.rfl
        have hps : ps_ B N f = i := by rw [i5, show max i to = i by omega, tp_n hi hb]
        obtain ⟨y, g1, g2, g3, g4⟩ := c_addToken (xs := xs) (d := d - 1) hCx hTx i2 (by omega) i7 hps hi (by omega)
        have hst := fun Q => c_stopOf (xs := xs) (d := d - 1) (Q := Q) hTx hi (by omega)
        obtain ⟨en1, en2⟩ := en_ge (B := B) hi
        refine ⟨(y, en_ B N i, f + 1), ⟨i1.tr g1, g2, by dsimp only; omega, en2, ?_, fun k hk => ?_, g3⟩, fun Q => ?_⟩
        · dsimp only
          show (if ps_ B N f < N then tp_ B N (en_ B N (ps_ B N f)) else N) = _
          rw [hps, if_pos hi, show max (i + 1) (en_ B N i) = en_ B N i by omega]
        · by_cases c : k = f
          · rw [c, hps]; exact hi
          · exact i6 k (by dsimp only at hk; omega)
        · dsimp only
          rw [s39_10]
          simp (disch := first | omega | assumption | decide | (apply bT_; decide)) only [s39_0, s39_1, s39_2, s39_5, s39_6, s39_7, s39_8, s39_12, s39_13, s39_16, s39_18, s39_19, s39_22, s39_23, s39_25, s39_26, s39_29, s39_32, s39_33, s39_35, s39_36, s39_39, s39_40, s39_41, s39_42, s39_44, s39_45, s39_48, s39_51, s39_55, s39_58, s39_59, s39_62, s39_65, s39_66, s39_67, s39_70, s39_71, s39_74, s39_75, s39_76, K_v, K_0, acI, acA, acJ, acX, List.map_cons, List.map_nil, List.sum_cons, List.sum_nil, true_and, and_true, posT, b2_0, b2_1, bft, true_or, or_true, Nat.zero_le, Nat.reduceAdd, Nat.reduceLeDiff, hI_uI, hL_uI, hR_uI, nx_uI, sl_uI, hI_uL, hL_uL, hR_uL, nx_uL, sl_uL, hI_uR, hL_uR, hR_uR, nx_uR, sl_uR, st_eq, if_true, if_false, eq_self, Nat.reduceEqDiff, Nat.reduceMul, reduceIte, kdT, ixT, w_cl, w_ti, w_s1, w_a, w_m12, w_m8, w_m3, w_m4, hi, q, w_lt, hbi, hib', hst, g4, hk, kd_TP, ln_TP, kd_RD, ln_RD]
      · have hib' : ∀ Q : OU_ → AH → Prop, V_ xs (d - 1) 40 0 [vI (B i)] [] x Q ↔ Q (some (some (vI 1))) x := by
          intro Q
          rw [hib, show decide (B i = 32 ∨ B i = 10) = true from hb]
          exact Iff.rfl
        refine ⟨(x, to, f), ⟨i1, i2, by dsimp only; omega, i4, ?_, i6, i7⟩, fun Q => ?_⟩
        · dsimp only
          rw [i5, show max i to = i by omega, show max (i + 1) to = i + 1 by omega, tp_s hi hb]
        · dsimp only
          rw [s39_10]
          simp (disch := first | omega | assumption | decide | (apply bT_; decide)) only [s39_0, s39_1, s39_2, s39_5, s39_6, s39_7, s39_8, s39_12, s39_13, s39_16, s39_18, s39_19, s39_22, s39_23, s39_25, s39_26, s39_29, s39_33, s39_35, s39_36, s39_39, s39_40, s39_41, s39_42, s39_44, s39_45, s39_48, s39_51, s39_55, s39_58, s39_59, s39_62, s39_65, s39_66, s39_67, s39_70, s39_71, s39_74, s39_75, s39_76, K_v, K_0, acI, acA, acJ, acX, List.map_cons, List.map_nil, List.sum_cons, List.sum_nil, true_and, and_true, posT, b2_0, b2_1, bft, true_or, or_true, Nat.zero_le, Nat.reduceAdd, Nat.reduceLeDiff, hI_uI, hL_uI, hR_uI, nx_uI, sl_uI, hI_uL, hL_uL, hR_uL, nx_uL, sl_uL, hI_uR, hL_uR, hR_uR, nx_uR, sl_uR, st_eq, if_true, if_false, eq_self, Nat.reduceEqDiff, Nat.reduceMul, reduceIte, kdT, ixT, w_cl, w_ti, w_s1, w_a, w_m12, w_m8, w_m3, w_m4, hi, q, w_lt, hbi, hib', k10, hk, kd_TP, ln_TP]) N 0 (uI_ h 29884421 (st_ (hI_ h 29884421) 3 (Int32.ofNat 0)), 0, 0) (by omega) ⟨KT_.rf.uI (by decide), by simp only [hI_uI, hL_uI, hR_uI, nx_uI, sl_uI, hI_uL, hL_uL, hR_uL, nx_uL, sl_uL, hI_uR, hL_uR, hR_uR, nx_uR, sl_uR, st_eq, if_true, if_false, eq_self, Nat.reduceEqDiff, Nat.reduceMul, reduceIte, kdT, ixT, w_cl, w_ti, w_s1, w_a, w_m12, w_m8, w_m3, w_m4], Nat.le_refl _, Nat.zero_le _, by dsimp only; rw [show max 0 0 = 0 from rfl]; rfl, fun k hk => absurd hk (Nat.not_lt_zero _), fun k hk => absurd hk (Nat.not_lt_zero _)⟩
  dsimp only at i1 i2 i3 i4 i5 i6 i7
  have hCx := i1.cs (by decide) hC
  have hps : ps_ B N f = N := by rw [i5, show max N to = N by omega, tp_N]
  have hok : kd_ 30197846 = 20 ∧ ok1_ 0 (some 5505056) = true ∨ kd_ 30197846 = 21 ∧ ok1_ 4 (some 5505056) = true ∨ kd_ 30197846 = 22 ∧ ok1_ 32 (some 5505056) = true := Or.inr (Or.inr ⟨rfl, by decide⟩)
  refine ⟨uI_ (uR_ x 30197846 (st_ (hR_ x 30197846) f (some 5505056))) 30459984 (st_ (hI_ x 30459984) f (Int32.ofNat N)), f, (i1.uR (by decide)).uI (by decide), ⟨hN, by simp only [hI_uI, hL_uI, hR_uI, nx_uI, sl_uI, hI_uL, hL_uL, hR_uL, nx_uL, sl_uL, hI_uR, hL_uR, hR_uR, nx_uR, sl_uR, st_eq, if_true, if_false, eq_self, Nat.reduceEqDiff, Nat.reduceMul, reduceIte, kdT, ixT, w_cl, w_ti, w_s1, w_a, w_m12, w_m8, w_m3, w_m4]; exact i2, by omega, hps, i6, fun k hk => ?_⟩, fun Q => ?_⟩
  · simp only [hI_uI, hL_uI, hR_uI, nx_uI, sl_uI, hI_uL, hL_uL, hR_uL, nx_uL, sl_uL, hI_uR, hL_uR, hR_uR, nx_uR, sl_uR, st_eq, if_true, if_false, eq_self, Nat.reduceEqDiff, Nat.reduceMul, reduceIte, kdT, ixT, w_cl, w_ti, w_s1, w_a, w_m12, w_m8, w_m3, w_m4]
    by_cases q : k = f
    · have e0 : stk_ B N f = 0 := by unfold stk_ sot_; rw [hps, if_neg (Nat.lt_irrefl _)]
      rw [if_pos q, if_pos q, q, e0, hps]
      exact ⟨by decide, rfl, fun z => by cases z⟩
    · rw [if_neg q, if_neg q]; exact i7 k (by omega)
  · simp (disch := first | omega | assumption | decide | (apply bT_; decide)) only [s39_0, s39_1, s39_2, s39_5, s39_6, s39_7, s39_8, s39_12, s39_13, s39_16, s39_18, s39_19, s39_22, s39_23, s39_25, s39_26, s39_29, s39_32, s39_33, s39_35, s39_36, s39_39, s39_40, s39_41, s39_42, s39_44, s39_45, s39_48, s39_51, s39_54, s39_55, s39_58, s39_59, s39_62, s39_65, s39_66, s39_67, s39_70, s39_71, s39_74, s39_75, s39_76, K_v, K_0, acI, acA, acJ, acX, List.map_cons, List.map_nil, List.sum_cons, List.sum_nil, true_and, and_true, posT, b2_0, b2_1, bft, true_or, or_true, Nat.zero_le, Nat.reduceAdd, Nat.reduceLeDiff, hI_uI, hL_uI, hR_uI, nx_uI, sl_uI, hI_uL, hL_uL, hR_uL, nx_uL, sl_uL, hI_uR, hL_uR, hR_uR, nx_uR, sl_uR, st_eq, if_true, if_false, eq_self, Nat.reduceEqDiff, Nat.reduceMul, reduceIte, kdT, ixT, w_cl, w_ti, w_s1, w_a, w_m12, w_m8, w_m3, w_m4, kd_RD, ln_RD]
    refine Iff.trans (show V_ xs d 39 10 _ _ _ _ ↔ _ from k2 Q) ?_
    have nl : ¬ (N < N) := by omega
    dsimp only
    rw [s39_10]
    simp (disch := first | omega | assumption | decide | (apply bT_; decide)) only [s39_0, s39_1, s39_2, s39_5, s39_6, s39_7, s39_8, s39_12, s39_13, s39_18, s39_19, s39_22, s39_23, s39_25, s39_26, s39_29, s39_32, s39_33, s39_35, s39_36, s39_39, s39_40, s39_41, s39_42, s39_44, s39_45, s39_48, s39_51, s39_54, s39_55, s39_58, s39_59, s39_62, s39_65, s39_66, s39_67, s39_70, s39_71, s39_74, s39_75, s39_76, K_v, K_0, acI, acA, acJ, acX, List.map_cons, List.map_nil, List.sum_cons, List.sum_nil, true_and, and_true, posT, b2_0, b2_1, bft, true_or, or_true, Nat.zero_le, Nat.reduceAdd, Nat.reduceLeDiff, hI_uI, hL_uI, hR_uI, nx_uI, sl_uI, hI_uL, hL_uL, hR_uL, nx_uL, sl_uL, hI_uR, hL_uR, hR_uR, nx_uR, sl_uR, st_eq, if_true, if_false, eq_self, Nat.reduceEqDiff, Nat.reduceMul, reduceIte, kdT, ixT, w_cl, w_ti, w_s1, w_a, w_m12, w_m8, w_m3, w_m4, hCx.x0, hCx.x2, hCx.x4, hCx.x7, hCx.x8, hCx.x9, hCx.x11, hCx.f0, hCx.f1, hCx.f2, hCx.p0, hCx.p1, hCx.p2, hCx.p3, hCx.l1, hCx.l2, hCx.l3, hCx.l4, hCx.d0, hCx.d1, hCx.d2, hCx.g1, hCx.g2, hCx.g3, hCx.g4, hCx.k1, hCx.k2, hCx.k3, hCx.k4, nl, w_lt, i2, hok, kd_RD, ln_RD, kd_TK, ln_TK, kd_PLC, ln_PLC]
end CSC
