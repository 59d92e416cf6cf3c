/-! the fill: the class's search -/
theorem sub_dn : ∀ (set c s : Nat), set &&& c = set → s &&& c = s → s < set → s ≤ (set - 1) &&& c := by
  intro set
  induction set using Nat.strongRecOn with
  | _ set ih =>
    intro c s h1 h2 h3
    have d1 := Nat.and_div_two (a := set) (b := c)
    have d2 := Nat.and_div_two (a := s) (b := c)
    have d3 := Nat.and_div_two (a := set - 1) (b := c)
    rw [h1] at d1
    rw [h2] at d2
    have m2 : s % 2 = 1 → c % 2 = 1 := fun z => by
      have := Nat.and_mod_two_eq_one (a := s) (b := c)
      rw [h2] at this
      exact (this.mp z).2
    have m3 := Nat.and_mod_two_eq_one (a := set - 1) (b := c)
    generalize hx : (set - 1) &&& c = x at d3 m3 ⊢
    rcases Nat.mod_two_eq_zero_or_one set with q | q
    · have e1 : (set - 1) / 2 = set / 2 - 1 := by omega
      have e2 : (set - 1) % 2 = 1 := by omega
      rw [e1] at d3
      by_cases q2 : s / 2 < set / 2
      · have := ih (set / 2) (by omega) (c / 2) (s / 2) d1.symm d2.symm q2
        rw [← d3] at this
        by_cases q3 : s % 2 = 1
        · have := m3.mpr ⟨e2, m2 q3⟩
          omega
        · omega
      · omega
    · have e1 : (set - 1) / 2 = set / 2 := by omega
      rw [e1, ← d1] at d3
      omega
section XFI
variable {xs : Nat → Int32} {d : Nat} {h : AH} {Q : OU_ → AH → Prop} {P : PS} {sp sa : Nat → Nat} {na : Nat} {F G : Nat → Nat → Int32}
theorem OPT_.cg {A B : Nat → Prop} {s : Nat} (h : ∀ x, A x ↔ B x) (H : OPT_ P A s) : OPT_ P B s := ⟨(h s).mp H.1, fun t ht => H.2 t ((h t).mpr ht)⟩
theorem c_fillS {ch L : Nat} (hC : CS_ h) (hP : CP_ P sp h) (hB : PB_ P) (hc : ch < 4096) (hL : L ≤ 1000) (hd : 1 ≤ d) : ∀ (set best : Nat) (v6 : AV), set &&& ch = set → OPT_ P (fun s => FE_ P ch L s ∧ (s = 0 ∨ set < s)) best → (V_ xs d 77 30 [vA (some 25165831), vI (Int32.ofNat L), vI (Int32.ofNat ch), vI (Int32.ofNat best), vI (Int32.ofNat (sb_ P 1 best)), vI (Int32.ofNat set), v6] [] h Q ↔ Q (some (some (vI (Int32.ofNat (fil_ P ch L))))) h) := by
  have h12 := hP.2.1.1
  intro set
  induction set using Nat.strongRecOn with
  | _ set ih =>
    intro best v6 hsc hO
    have hsl : set < 4096 := by have := Nat.and_le_right (n := set) (m := ch); omega
    have hbl : best < 4096 := by
      have h1 : best &&& ch = best := hO.1.1.1
      have := Nat.and_le_right (n := best) (m := ch)
      omega
    by_cases q0 : set = 0
    · subst q0
      have hf : fil_ P ch L = best := fil_eq hc (hO.cg (fun x => ⟨fun z => z.1, fun z => ⟨z, by omega⟩⟩))
      have n0 : ¬ ((0 : Int32) < Int32.ofNat 0) := by decide
      rw [hf, s77_30]
      simp (disch := first | omega | assumption | decide | (apply bT_; decide)) only [s77_0, s77_1, s77_2, s77_5, s77_8, s77_11, s77_12, s77_13, s77_14, s77_15, s77_18, s77_21, s77_22, s77_23, s77_24, s77_25, s77_27, s77_28, s77_32, s77_36, s77_38, s77_41, s77_42, s77_45, s77_46, s77_48, s77_51, s77_53, s77_55, s77_57, s77_60, s77_62, s77_64, s77_67, s77_69, s77_70, s77_73, s77_76, s77_78, s77_79, s77_81, s77_83, s77_85, s77_86, s77_87, s77_88, s77_89, s77_91, s77_94, s77_95, K_v, K_0, acI, acA, acJ, acX, List.map_cons, List.map_nil, List.sum_cons, List.sum_nil, true_and, and_true, posT, b2_0, b2_1, bft, true_or, or_true, Nat.zero_le, Nat.reduceAdd, Nat.reduceLeDiff, hI_uI, hL_uI, hR_uI, nx_uI, sl_uI, hI_uL, hL_uL, hR_uL, nx_uL, sl_uL, hI_uR, hL_uR, hR_uR, nx_uR, sl_uR, st_eq, if_true, if_false, eq_self, Nat.reduceEqDiff, Nat.reduceMul, reduceIte, kdT, ixT, w_cl, w_ti, w_s1, w_a, w_m12, w_m8, w_m3, w_m4, n0]
    · have n0 : (0 : Int32) < Int32.ofNat set := (w_lt (a := 0) (by omega) (by omega)).mpr (by omega)
      have hne : set ≠ best := by
        rcases hO.1.2 with z | z <;> omega
      have hm := fun Q => c_minutesOf (xs := xs) (d := d - 1) (Q := Q) hC hP hB hsl
      have ht := fun Q => c_takingsOf (xs := xs) (d := d - 1) (Q := Q) hC hP hB hsl
      have hib := fun Q => c_isBefore (xs := xs) (d := d - 1) (h := h) (Q := Q) hne hsl hbl
      have b0 := sb_bd hB (f := 0) (s := set) (by omega)
      have b1 := sb_bd hB (f := 1) (s := set) (by omega)
      have b2 := sb_bd hB (f := 1) (s := best) (by omega)
      have hp1 := w_p1 (a := set) (by omega)
      have hnx : (set - 1) &&& ch < set := by have := Nat.and_le_left (n := set - 1) (m := ch); omega
      have hns : ((set - 1) &&& ch) &&& ch = (set - 1) &&& ch := by rw [Nat.and_assoc, Nat.and_self]
      have hA : ∀ x, FE_ P ch L x ∧ (x = 0 ∨ (set - 1) &&& ch < x) ↔ (FE_ P ch L x ∧ (x = 0 ∨ set < x)) ∨ (x = set ∧ FE_ P ch L set) := by
        intro x
        constructor
        · rintro ⟨z1, z2⟩
          by_cases c : x = set
          · exact Or.inr ⟨c, by rw [← c]; exact z1⟩
          · refine Or.inl ⟨z1, ?_⟩
            rcases z2 with z2 | z2
            · exact Or.inl z2
            · right
              rcases Nat.lt_or_ge x set with y | y
              · have := sub_dn set ch x hsc z1.1 y; omega
              · omega
        · rintro (⟨z1, z2⟩ | ⟨z1, z2⟩)
          · exact ⟨z1, by omega⟩
          · rw [z1]; exact ⟨z2, Or.inr hnx⟩
      by_cases q1 : sb_ P 0 set ≤ L
      · have n1 : ¬ (L < sb_ P 0 set) := by omega
        have hfe : FE_ P ch L set := ⟨hsc, q1⟩
        by_cases q2 : sb_ P 1 best < sb_ P 1 set
        · have := ih ((set - 1) &&& ch) hnx set (vI (Int32.ofNat (sb_ P 1 set))) hns (OPT_.cg (fun x => (hA x).symm) ⟨Or.inr ⟨rfl, hfe⟩, fun t ht => by
            rcases ht with z | z
            · rcases hO.2 t z with y | y <;> left <;> omega
            · right; rw [z.1]; exact ⟨rfl, Nat.le_refl _⟩⟩)
          rw [s77_30]
          simp (disch := first | omega | assumption | decide | (apply bT_; decide)) only [s77_0, s77_1, s77_2, s77_5, s77_8, s77_11, s77_12, s77_13, s77_14, s77_15, s77_18, s77_21, s77_22, s77_23, s77_24, s77_25, s77_27, s77_28, s77_32, s77_35, s77_36, s77_38, s77_41, s77_42, s77_45, s77_46, s77_48, s77_51, s77_53, s77_55, s77_57, s77_62, s77_64, s77_67, s77_69, s77_70, s77_73, s77_76, s77_78, s77_79, s77_81, s77_85, s77_86, s77_87, s77_88, s77_89, s77_91, s77_95, K_v, K_0, acI, acA, acJ, acX, List.map_cons, List.map_nil, List.sum_cons, List.sum_nil, true_and, and_true, posT, b2_0, b2_1, bft, true_or, or_true, Nat.zero_le, Nat.reduceAdd, Nat.reduceLeDiff, hI_uI, hL_uI, hR_uI, nx_uI, sl_uI, hI_uL, hL_uL, hR_uL, nx_uL, sl_uL, hI_uR, hL_uR, hR_uR, nx_uR, sl_uR, st_eq, if_true, if_false, eq_self, Nat.reduceEqDiff, Nat.reduceMul, reduceIte, kdT, ixT, w_cl, w_ti, w_s1, w_a, w_m12, w_m8, w_m3, w_m4, n0, hm, ht, n1, q2, hp1, w_and, w_lt, kd_X, ln_X]
          rw [s77_83]
          simp (disch := first | omega | assumption | decide | (apply bT_; decide)) only [s77_0, s77_1, s77_2, s77_5, s77_8, s77_11, s77_12, s77_13, s77_14, s77_15, s77_18, s77_21, s77_22, s77_23, s77_24, s77_25, s77_27, s77_28, s77_32, s77_35, s77_36, s77_38, s77_41, s77_42, s77_45, s77_46, s77_48, s77_51, s77_53, s77_55, s77_57, s77_60, s77_62, s77_64, s77_67, s77_69, s77_70, s77_73, s77_76, s77_78, s77_79, s77_81, s77_85, s77_86, s77_87, s77_88, s77_89, s77_91, s77_94, s77_95, K_v, K_0, acI, acA, acJ, acX, List.map_cons, List.map_nil, List.sum_cons, List.sum_nil, true_and, and_true, posT, b2_0, b2_1, bft, true_or, or_true, Nat.zero_le, Nat.reduceAdd, Nat.reduceLeDiff, hI_uI, hL_uI, hR_uI, nx_uI, sl_uI, hI_uL, hL_uL, hR_uL, nx_uL, sl_uL, hI_uR, hL_uR, hR_uR, nx_uR, sl_uR, st_eq, if_true, if_false, eq_self, Nat.reduceEqDiff, Nat.reduceMul, reduceIte, kdT, ixT, w_cl, w_ti, w_s1, w_a, w_m12, w_m8, w_m3, w_m4, hp1, w_and]
          exact this
        · by_cases q3 : sb_ P 1 set = sb_ P 1 best
          · have n3 : Int32.ofNat (sb_ P 1 set) = Int32.ofNat (sb_ P 1 best) := by rw [q3]
            by_cases q4 : key12_ set < key12_ best
            · have := ih ((set - 1) &&& ch) hnx set (vI (Int32.ofNat (sb_ P 1 set))) hns (OPT_.cg (fun x => (hA x).symm) ⟨Or.inr ⟨rfl, hfe⟩, fun t ht => by
                rcases ht with z | z
                · rcases hO.2 t z with y | y
                  · left; omega
                  · right; exact ⟨by omega, by omega⟩
                · right; rw [z.1]; exact ⟨rfl, Nat.le_refl _⟩⟩)
              have k10 : ¬ ((1 : Int32) = 0) := by decide
              rw [decide_eq_true q4] at hib
              have hib' : ∀ Q : OU_ → AH → Prop, V_ xs (d - 1) 97 0 [vI (Int32.ofNat set), vI (Int32.ofNat best), vX 0, vX 0] [] h Q ↔ Q (some (some (vI 1))) h := hib
              rw [s77_30]
              simp (disch := first | omega | assumption | decide | (apply bT_; decide)) only [s77_0, s77_1, s77_2, s77_5, s77_8, s77_11, s77_12, s77_13, s77_14, s77_15, s77_18, s77_21, s77_22, s77_23, s77_24, s77_25, s77_27, s77_28, s77_32, s77_35, s77_36, s77_38, s77_41, s77_42, s77_45, s77_46, s77_48, s77_51, s77_53, s77_55, s77_57, s77_60, s77_62, s77_64, s77_67, s77_69, s77_70, s77_73, s77_76, s77_78, s77_79, s77_81, s77_85, s77_86, s77_87, s77_88, s77_89, s77_91, s77_95, K_v, K_0, acI, acA, acJ, acX, List.map_cons, List.map_nil, List.sum_cons, List.sum_nil, true_and, and_true, posT, b2_0, b2_1, bft, true_or, or_true, Nat.zero_le, Nat.reduceAdd, Nat.reduceLeDiff, hI_uI, hL_uI, hR_uI, nx_uI, sl_uI, hI_uL, hL_uL, hR_uL, nx_uL, sl_uL, hI_uR, hL_uR, hR_uR, nx_uR, sl_uR, st_eq, if_true, if_false, eq_self, Nat.reduceEqDiff, Nat.reduceMul, reduceIte, kdT, ixT, w_cl, w_ti, w_s1, w_a, w_m12, w_m8, w_m3, w_m4, n0, hm, ht, n1, q2, if_pos n3, hib', k10, w_lt, kd_X, ln_X]
              rw [s77_83]
              simp (disch := first | omega | assumption | decide | (apply bT_; decide)) only [s77_0, s77_1, s77_2, s77_5, s77_8, s77_11, s77_12, s77_13, s77_14, s77_15, s77_18, s77_21, s77_22, s77_23, s77_24, s77_25, s77_27, s77_28, s77_32, s77_35, s77_36, s77_38, s77_41, s77_42, s77_45, s77_46, s77_48, s77_51, s77_53, s77_55, s77_57, s77_60, s77_62, s77_64, s77_67, s77_69, s77_70, s77_73, s77_76, s77_78, s77_79, s77_81, s77_85, s77_86, s77_87, s77_88, s77_89, s77_91, s77_94, s77_95, K_v, K_0, acI, acA, acJ, acX, List.map_cons, List.map_nil, List.sum_cons, List.sum_nil, true_and, and_true, posT, b2_0, b2_1, bft, true_or, or_true, Nat.zero_le, Nat.reduceAdd, Nat.reduceLeDiff, hI_uI, hL_uI, hR_uI, nx_uI, sl_uI, hI_uL, hL_uL, hR_uL, nx_uL, sl_uL, hI_uR, hL_uR, hR_uR, nx_uR, sl_uR, st_eq, if_true, if_false, eq_self, Nat.reduceEqDiff, Nat.reduceMul, reduceIte, kdT, ixT, w_cl, w_ti, w_s1, w_a, w_m12, w_m8, w_m3, w_m4, hp1, w_and]
              exact this
            · have := ih ((set - 1) &&& ch) hnx best (vI (Int32.ofNat (sb_ P 1 set))) hns (OPT_.cg (fun x => (hA x).symm) ⟨Or.inl hO.1, fun t ht => by
                rcases ht with z | z
                · exact hO.2 t z
                · right; rw [z.1]; exact ⟨q3, by omega⟩⟩)
              rw [decide_eq_false q4] at hib
              have hib' : ∀ Q : OU_ → AH → Prop, V_ xs (d - 1) 97 0 [vI (Int32.ofNat set), vI (Int32.ofNat best), vX 0, vX 0] [] h Q ↔ Q (some (some (vI 0))) h := hib
              rw [s77_30]
              simp (disch := first | omega | assumption | decide | (apply bT_; decide)) only [s77_0, s77_1, s77_2, s77_5, s77_8, s77_11, s77_12, s77_13, s77_14, s77_15, s77_18, s77_21, s77_22, s77_23, s77_24, s77_25, s77_27, s77_28, s77_32, s77_35, s77_36, s77_38, s77_41, s77_42, s77_45, s77_46, s77_48, s77_51, s77_53, s77_55, s77_57, s77_60, s77_62, s77_64, s77_67, s77_69, s77_70, s77_73, s77_78, s77_79, s77_81, s77_85, s77_86, s77_87, s77_88, s77_89, s77_91, s77_95, K_v, K_0, acI, acA, acJ, acX, List.map_cons, List.map_nil, List.sum_cons, List.sum_nil, true_and, and_true, posT, b2_0, b2_1, bft, true_or, or_true, Nat.zero_le, Nat.reduceAdd, Nat.reduceLeDiff, hI_uI, hL_uI, hR_uI, nx_uI, sl_uI, hI_uL, hL_uL, hR_uL, nx_uL, sl_uL, hI_uR, hL_uR, hR_uR, nx_uR, sl_uR, st_eq, if_true, if_false, eq_self, Nat.reduceEqDiff, Nat.reduceMul, reduceIte, kdT, ixT, w_cl, w_ti, w_s1, w_a, w_m12, w_m8, w_m3, w_m4, n0, hm, ht, n1, q2, if_pos n3, hib', w_lt, kd_X, ln_X]
              rw [s77_83]
              simp (disch := first | omega | assumption | decide | (apply bT_; decide)) only [s77_0, s77_1, s77_2, s77_5, s77_8, s77_11, s77_12, s77_13, s77_14, s77_15, s77_18, s77_21, s77_22, s77_23, s77_24, s77_25, s77_27, s77_28, s77_32, s77_35, s77_36, s77_38, s77_41, s77_42, s77_45, s77_46, s77_48, s77_51, s77_53, s77_55, s77_57, s77_60, s77_62, s77_64, s77_67, s77_69, s77_70, s77_73, s77_76, s77_78, s77_79, s77_81, s77_85, s77_86, s77_87, s77_88, s77_89, s77_91, s77_94, s77_95, K_v, K_0, acI, acA, acJ, acX, List.map_cons, List.map_nil, List.sum_cons, List.sum_nil, true_and, and_true, posT, b2_0, b2_1, bft, true_or, or_true, Nat.zero_le, Nat.reduceAdd, Nat.reduceLeDiff, hI_uI, hL_uI, hR_uI, nx_uI, sl_uI, hI_uL, hL_uL, hR_uL, nx_uL, sl_uL, hI_uR, hL_uR, hR_uR, nx_uR, sl_uR, st_eq, if_true, if_false, eq_self, Nat.reduceEqDiff, Nat.reduceMul, reduceIte, kdT, ixT, w_cl, w_ti, w_s1, w_a, w_m12, w_m8, w_m3, w_m4, hp1, w_and]
              exact this
          · have n3 : ¬ (Int32.ofNat (sb_ P 1 set) = Int32.ofNat (sb_ P 1 best)) := fun z => q3 ((w_eq (by omega) (by omega)).mp z)
            have := ih ((set - 1) &&& ch) hnx best (vI (Int32.ofNat (sb_ P 1 set))) hns (OPT_.cg (fun x => (hA x).symm) ⟨Or.inl hO.1, fun t ht => by
              rcases ht with z | z
              · exact hO.2 t z
              · left; rw [z.1]; omega⟩)
            rw [s77_30]
            simp (disch := first | omega | assumption | decide | (apply bT_; decide)) only [s77_0, s77_1, s77_2, s77_5, s77_8, s77_11, s77_12, s77_13, s77_14, s77_15, s77_18, s77_21, s77_22, s77_23, s77_24, s77_25, s77_27, s77_28, s77_32, s77_35, s77_36, s77_38, s77_41, s77_42, s77_45, s77_46, s77_48, s77_51, s77_53, s77_55, s77_57, s77_60, s77_62, s77_64, s77_69, s77_70, s77_73, s77_78, s77_79, s77_81, s77_85, s77_86, s77_87, s77_88, s77_89, s77_91, s77_95, K_v, K_0, acI, acA, acJ, acX, List.map_cons, List.map_nil, List.sum_cons, List.sum_nil, true_and, and_true, posT, b2_0, b2_1, bft, true_or, or_true, Nat.zero_le, Nat.reduceAdd, Nat.reduceLeDiff, hI_uI, hL_uI, hR_uI, nx_uI, sl_uI, hI_uL, hL_uL, hR_uL, nx_uL, sl_uL, hI_uR, hL_uR, hR_uR, nx_uR, sl_uR, st_eq, if_true, if_false, eq_self, Nat.reduceEqDiff, Nat.reduceMul, reduceIte, kdT, ixT, w_cl, w_ti, w_s1, w_a, w_m12, w_m8, w_m3, w_m4, n0, hm, ht, n1, q2, n3, w_lt, kd_X, ln_X]
            rw [s77_83]
            simp (disch := first | omega | assumption | decide | (apply bT_; decide)) only [s77_0, s77_1, s77_2, s77_5, s77_8, s77_11, s77_12, s77_13, s77_14, s77_15, s77_18, s77_21, s77_22, s77_23, s77_24, s77_25, s77_27, s77_28, s77_32, s77_35, s77_36, s77_38, s77_41, s77_42, s77_45, s77_46, s77_48, s77_51, s77_53, s77_55, s77_57, s77_60, s77_62, s77_64, s77_67, s77_69, s77_70, s77_73, s77_76, s77_78, s77_79, s77_81, s77_85, s77_86, s77_87, s77_88, s77_89, s77_91, s77_94, s77_95, K_v, K_0, acI, acA, acJ, acX, List.map_cons, List.map_nil, List.sum_cons, List.sum_nil, true_and, and_true, posT, b2_0, b2_1, bft, true_or, or_true, Nat.zero_le, Nat.reduceAdd, Nat.reduceLeDiff, hI_uI, hL_uI, hR_uI, nx_uI, sl_uI, hI_uL, hL_uL, hR_uL, nx_uL, sl_uL, hI_uR, hL_uR, hR_uR, nx_uR, sl_uR, st_eq, if_true, if_false, eq_self, Nat.reduceEqDiff, Nat.reduceMul, reduceIte, kdT, ixT, w_cl, w_ti, w_s1, w_a, w_m12, w_m8, w_m3, w_m4, hp1, w_and]
            exact this
      · have n1 : L < sb_ P 0 set := by omega
        have := ih ((set - 1) &&& ch) hnx best v6 hns (OPT_.cg (fun x => (hA x).symm) ⟨Or.inl hO.1, fun t ht => by
          rcases ht with z | z
          · exact hO.2 t z
          · exact absurd z.2.2 q1⟩)
        rw [s77_30]
        simp (disch := first | omega | assumption | decide | (apply bT_; decide)) only [s77_0, s77_1, s77_2, s77_5, s77_8, s77_11, s77_12, s77_13, s77_14, s77_15, s77_18, s77_21, s77_22, s77_23, s77_24, s77_25, s77_27, s77_28, s77_32, s77_35, s77_36, s77_38, s77_41, s77_42, s77_46, s77_48, s77_51, s77_53, s77_55, s77_57, s77_60, s77_62, s77_64, s77_67, s77_69, s77_70, s77_73, s77_76, s77_78, s77_79, s77_81, s77_85, s77_86, s77_87, s77_88, s77_89, s77_91, s77_95, K_v, K_0, acI, acA, acJ, acX, List.map_cons, List.map_nil, List.sum_cons, List.sum_nil, true_and, and_true, posT, b2_0, b2_1, bft, true_or, or_true, Nat.zero_le, Nat.reduceAdd, Nat.reduceLeDiff, hI_uI, hL_uI, hR_uI, nx_uI, sl_uI, hI_uL, hL_uL, hR_uL, nx_uL, sl_uL, hI_uR, hL_uR, hR_uR, nx_uR, sl_uR, st_eq, if_true, if_false, eq_self, Nat.reduceEqDiff, Nat.reduceMul, reduceIte, kdT, ixT, w_cl, w_ti, w_s1, w_a, w_m12, w_m8, w_m3, w_m4, n0, hm, n1, w_lt, kd_X, ln_X]
        rw [s77_83]
        simp (disch := first | omega | assumption | decide | (apply bT_; decide)) only [s77_0, s77_1, s77_2, s77_5, s77_8, s77_11, s77_12, s77_13, s77_14, s77_15, s77_18, s77_21, s77_22, s77_23, s77_24, s77_25, s77_27, s77_28, s77_32, s77_35, s77_36, s77_38, s77_41, s77_42, s77_45, s77_46, s77_48, s77_51, s77_53, s77_55, s77_57, s77_60, s77_62, s77_64, s77_67, s77_69, s77_70, s77_73, s77_76, s77_78, s77_79, s77_81, s77_85, s77_86, s77_87, s77_88, s77_89, s77_91, s77_94, s77_95, K_v, K_0, acI, acA, acJ, acX, List.map_cons, List.map_nil, List.sum_cons, List.sum_nil, true_and, and_true, posT, b2_0, b2_1, bft, true_or, or_true, Nat.zero_le, Nat.reduceAdd, Nat.reduceLeDiff, hI_uI, hL_uI, hR_uI, nx_uI, sl_uI, hI_uL, hL_uL, hR_uL, nx_uL, sl_uL, hI_uR, hL_uR, hR_uR, nx_uR, sl_uR, st_eq, if_true, if_false, eq_self, Nat.reduceEqDiff, Nat.reduceMul, reduceIte, kdT, ixT, w_cl, w_ti, w_s1, w_a, w_m12, w_m8, w_m3, w_m4, hp1, w_and]
        exact this
theorem x_fill {v : Int32} (hC : CS_ h) (hA : CA_ na sa F G h) (hP : CP_ P sp h) (hD : PD_ P) (hB : PB_ P) (hd : 8 ≤ d) : ∃ h', KF_ h h' ∧ Do_ xs d 77 [vA (some 25165831), vI v, vX 0, vX 0, vX 0, vX 0, vX 0] h (some (some (vI (if wi_ v 0 1000 = true then Int32.ofNat (fil_ P (fo_ (cbc_ F G P na) (qn_ P)) v.toNatClampNeg) else -1)))) h' := by
  have h12 := hP.2.1.1
  by_cases q : wi_ v 0 1000 = true
  · obtain ⟨u1, u2⟩ := wi_t.mp q
    obtain ⟨L, rfl, e2, e3⟩ := w_of (x := v) u1
    have hL : L ≤ 1000 := by rw [← e2] at u2; have : ((1000 : Int32).toInt) = 1000 := by decide
                             omega
    have hcl : (Int32.ofNat L).toNatClampNeg = L := w_cl e3
    obtain ⟨h1, g1, g2⟩ := x_playable (xs := xs) (d := d - 1) hC hA hP hD (by omega)
    have hml := msk_lt (f := cbc_ F G P na) (n := qn_ P)
    have hp2 : 2 ^ qn_ P ≤ 2 ^ 12 := Nat.pow_le_pow_right (by omega) h12
    have hfo := fun Q => c_firstOf (xs := xs) (d := d - 1) (Q := Q) (s := msk_ (cbc_ F G P na) (qn_ P)) (g1.cp hP) (by omega) (by omega)
    have efo : fo_ (msk_ (cbc_ F G P na) (qn_ P)).testBit (qn_ P) = fo_ (cbc_ F G P na) (qn_ P) := fo_congr (fun i hi => by rw [msk_bit, decide_eq_true hi, Bool.true_and])
    rw [efo] at hfo
    have hfl := fo_lt (c := cbc_ F G P na) (n := qn_ P)
    have e00 : sb_ P 1 0 = 0 := sm_zero (fun i _ => by rw [Nat.zero_testBit]; rfl)
    have e01 : sb_ P 0 0 = 0 := sm_zero (fun i _ => by rw [Nat.zero_testBit]; rfl)
    refine ⟨h1, g1, fun Q => ?_⟩
    have key := c_fillS (xs := xs) (d := d) (Q := Q) (ch := fo_ (cbc_ F G P na) (qn_ P)) (L := L) (g1.cs hC) (g1.cp hP) hB (by omega) hL (by omega) (fo_ (cbc_ F G P na) (qn_ P)) 0 (vX 0) (Nat.and_self _) ⟨⟨⟨Nat.zero_and _, by omega⟩, Or.inl rfl⟩, fun t ht => by
      have h1 : t &&& fo_ (cbc_ F G P na) (qn_ P) = t := ht.1.1
      have := Nat.and_le_right (n := t) (m := fo_ (cbc_ F G P na) (qn_ P))
      have : t = 0 := by rcases ht.2 with z | z <;> omega
      right; rw [this]; exact ⟨rfl, Nat.le_refl _⟩⟩
    rw [e00] at key
    have k10 : ¬ ((1 : Int32) = 0) := by decide
    have hwi : b2_ (wi_ (Int32.ofNat L) 0 1000) = 1 := by rw [q]; rfl
    rw [if_pos q, hcl]
    simp (disch := first | omega | assumption | decide | (apply bT_; decide)) only [s77_0, s77_1, s77_2, s77_5, s77_8, s77_12, s77_13, s77_14, s77_15, s77_18, s77_21, s77_22, s77_23, s77_24, s77_25, s77_27, s77_28, s77_32, s77_35, s77_36, s77_38, s77_41, s77_42, s77_45, s77_46, s77_48, s77_51, s77_53, s77_55, s77_57, s77_60, s77_62, s77_64, s77_67, s77_69, s77_70, s77_73, s77_76, s77_78, s77_79, s77_81, s77_83, s77_85, s77_86, s77_87, s77_88, s77_89, s77_91, s77_94, s77_95, K_v, K_0, acI, acA, acJ, acX, List.map_cons, List.map_nil, List.sum_cons, List.sum_nil, true_and, and_true, posT, b2_0, b2_1, bft, true_or, or_true, Nat.zero_le, Nat.reduceAdd, Nat.reduceLeDiff, hI_uI, hL_uI, hR_uI, nx_uI, sl_uI, hI_uL, hL_uL, hR_uL, nx_uL, sl_uL, hI_uR, hL_uR, hR_uR, nx_uR, sl_uR, st_eq, if_true, if_false, eq_self, Nat.reduceEqDiff, Nat.reduceMul, reduceIte, kdT, ixT, w_cl, w_ti, w_s1, w_a, w_m12, w_m8, w_m3, w_m4, c_within, hwi, k10, g2, hfo, kd_X, ln_X]
    exact key
  · refine ⟨h, KF_.rf, fun Q => ?_⟩
    have hwi : b2_ (wi_ v 0 1000) = 0 := by cases hw : wi_ v 0 1000; rfl; exact absurd hw q
    rw [if_neg q]
    simp (disch := first | omega | assumption | decide | (apply bT_; decide)) only [s77_0, s77_1, s77_2, s77_5, s77_8, s77_11, s77_12, s77_14, s77_15, s77_18, s77_21, s77_22, s77_23, s77_24, s77_25, s77_27, s77_28, s77_30, s77_32, s77_35, s77_36, s77_38, s77_41, s77_42, s77_45, s77_46, s77_48, s77_51, s77_53, s77_55, s77_57, s77_60, s77_62, s77_64, s77_67, s77_69, s77_70, s77_73, s77_76, s77_78, s77_79, s77_81, s77_83, s77_85, s77_86, s77_87, s77_88, s77_89, s77_91, s77_94, s77_95, K_v, K_0, acI, acA, acJ, acX, List.map_cons, List.map_nil, List.sum_cons, List.sum_nil, true_and, and_true, posT, b2_0, b2_1, bft, true_or, or_true, Nat.zero_le, Nat.reduceAdd, Nat.reduceLeDiff, hI_uI, hL_uI, hR_uI, nx_uI, sl_uI, hI_uL, hL_uL, hR_uL, nx_uL, sl_uL, hI_uR, hL_uR, hR_uR, nx_uR, sl_uR, st_eq, if_true, if_false, eq_self, Nat.reduceEqDiff, Nat.reduceMul, reduceIte, kdT, ixT, w_cl, w_ti, w_s1, w_a, w_m12, w_m8, w_m3, w_m4, c_within, hwi]
end XFI
