/-! max, min, abs -/
section MT2
variable {p : Program} {l : Launch} {e : Env} {R : Room} {s : State} {m : MethodId} {args : Array Value} {below : List Frame} {meth : Method} {c : Code} {dC : Nat → ClassId} {dI : Nat → Nat → Nat} {cy : Nat → ClassId} {op : Value} {B0 L : Nat} {xs : Nat → Int32} {ad0 : Nat → Nat} {n0 s0 : Nat} {Q : State → Prop} {q pc len pc' n d x q' j z ct : Nat} {ls st ls' st' as : List AV} {h h' h1 : AH} {i : Instr} {v : Option AV} {QV : OU_ → AH → Prop} {o : OU_}
theorem lgc_0 {x y : Int64} : lg_cmp x y = 0 ↔ x = y := by
  unfold lg_cmp
  simp only [gt_iff_lt, Int64.lt_iff_toInt_lt, ← Int64.toInt_inj]
  split
  · rename_i h1; constructor
    · intro z; exact absurd z (by decide)
    · intro z; omega
  · split
    · rename_i h2; exact ⟨fun _ => h2, fun _ => rfl⟩
    · rename_i h2; exact ⟨fun z => absurd z (by decide), fun z => absurd z h2⟩
theorem lgc_lt {x y : Int64} : lg_cmp x y < 0 ↔ x < y := by
  unfold lg_cmp
  simp only [gt_iff_lt, Int64.lt_iff_toInt_lt, ← Int64.toInt_inj]
  split
  · rename_i h1; constructor
    · intro z; exact absurd z (by decide)
    · intro z; omega
  · split
    · rename_i h2; constructor
      · intro z; exact absurd z (by decide)
      · intro z; omega
    · rename_i h2; constructor
      · intro _; omega
      · intro _; decide
theorem r_max {x y : Int32} (hV : V_ xs d 184 0 [vI x, vI y] [] h QV) : QV (some (some (vI (if x < y then y else x)))) h := by
  simp only [s184_0, s184_1, s184_2, s184_5, s184_6, s184_9, s184_10] at hV
  by_cases hc : x < y
  · rw [if_pos hc] at hV ⊢; exact hV
  · rw [if_neg hc] at hV ⊢; exact hV
theorem r_min {x y : Int32} (hV : V_ xs d 186 0 [vI x, vI y] [] h QV) : QV (some (some (vI (if y < x then y else x)))) h := by
  simp only [s186_0, s186_1, s186_2, s186_5, s186_6, s186_9, s186_10] at hV
  by_cases hc : y < x
  · rw [if_pos hc] at hV ⊢; exact hV
  · rw [if_neg hc] at hV ⊢; exact hV
theorem r_abs {x : Int32} (hV : V_ xs d 183 0 [vI x] [] h QV) : QV (some (some (vI (if 0 ≤ x then x else 0 - x)))) h := by
  simp only [s183_0, s183_1, s183_4, s183_5, s183_6, s183_9, s183_10] at hV
  by_cases hc : x < 0
  · rw [if_pos hc] at hV
    rw [if_neg (fun z => i_ge.mp z hc), Int32.zero_sub]
    exact hV
  · rw [if_neg hc] at hV
    rw [if_pos (i_ge.mpr hc)]
    exact hV
theorem r_maxJ {x y : Int64} (hV : V_ xs d 185 0 [vJ x, vX 0, vJ y, vX 0] [] h QV) : QV (some (some (vJ (if y < x then x else y)))) h := by
  simp only [s185_0, s185_1, s185_2, s185_3, s185_6, s185_7, s185_10, s185_11, lgc_lt] at hV
  by_cases hc : x < y
  · rw [if_pos hc] at hV
    rw [if_neg (by simp only [Int64.lt_iff_toInt_lt] at hc ⊢; omega)]
    exact hV
  · rw [if_neg hc] at hV
    by_cases h2 : y < x
    · rw [if_pos h2]; exact hV
    · have : x = y := by simp only [Int64.lt_iff_toInt_lt] at hc h2; exact Int64.toInt_inj.mp (by omega)
      subst this
      rw [if_neg h2]; exact hV
theorem sd_max (C : Cx_ p l R s m args meth c dC dI cy op B0 L xs q) (hd : decode (cod_ q) pc = .ok (.invokestatic x, 3)) (hm : mth_ (kap_ q) x = some (184, j, z)) (hna : nar_ 184 ≤ st.length) (hsum : ((st.drop (nar_ 184)).map acat_).sum ≤ 8) (hpk : pok_ 184 (st.take (nar_ 184)).reverse = true) (hrun : run_ xs n d 184 0 (ent_ (st.take (nar_ 184)).reverse (mxl_ 184)) [] h = some (some v, h1)) (hfr : 1 ≤ R.frames) (hlo : 120 ≤ R.locals) (hrc : nx_ h1 - n0 ≤ R.cells) (hrs : sl_ h1 - s0 ≤ R.slots)
    (K : Sm_ p l e R s m args below meth c dC dI cy op B0 L xs ad0 n0 s0 Q q (pc + 3) ls (v.toList ++ st.drop (nar_ 184)) h1) : Sm_ p l e R s m args below meth c dC dI cy op B0 L xs ad0 n0 s0 Q q pc ls st h := by
  obtain ⟨⟨hx, hb, hml, ho, ht⟩, hK0, ⟨hB, hL4, hq200⟩, hlk, hrt, hnm, hst9⟩ := C
  intro ad la H locs e1 hR hKC hL hc1 hc2 hF hS hn hs
  have hop : op.category = 1 := hKC.2.2.2
  obtain ⟨hlink, hz⟩ := mth_mem (kap_lt hq200) hm (by decide)
  have hz0 : z = 0 := by omega
  rw [hz0, if_neg (by decide)] at hlink
  have hna2 : 2 ≤ st.length := hna
  match st, hna2 with
  | w1 :: w0 :: r, _ =>
    have hV := V_of_run hrun
    have hsum' : (((r.map (cv_ ad op)).map fun v => v.category).sum) ≤ 8 := by rw [cv_sum hop]; exact hsum
    have hcr : ∀ w ∈ r, vc_ L h w := fun w hw => hc2 w (List.mem_cons_of_mem _ (List.mem_cons_of_mem _ hw))
    rcases w0 with x0 | x0 | x0 | x0
    case inl =>
      rcases w1 with x1 | x1 | x1 | x1
      case inl =>
        obtain ⟨hv, hh⟩ := r_max hV
        cases hv
        cases hh
        exact va_mmax hx hb (hml.trans hL.1.symm) ho (zgw_ ht hlink rfl) (zgw_ ht (show lw_tbl[820]? = some (.static Lib.Math.max.name) by decide +kernel) rfl) (zgw_ ht (show lw_tbl[80]? = some (.initialized "java/lang/Math") by decide +kernel) rfl) (zgw_ ht (show lw_tbl[821]? = some (.code Lib.Math.max.name Lib.Math.max.code 2 (some .int)) by decide +kernel) rfl) hfr (by omega) hrc hrs hd (K ad la H locs e1 hR hKC hL hc1 (all_cons vcI hcr) hF hS hn hs)
      case inr.inl => exact absurd hpk (by intro y; cases y)
      all_goals
        exfalso
        obtain ⟨y, hy⟩ := V_needI (show decode (cod_ 184) 1 = .ok (.iload_n 1, 1) by decide +kernel) (s184_0.mp hV)
        cases hy
    all_goals
      exfalso
      obtain ⟨y, hy⟩ := V_needI (show decode (cod_ 184) 0 = .ok (.iload_n 0, 1) by decide +kernel) hV
      cases hy
theorem sd_min (C : Cx_ p l R s m args meth c dC dI cy op B0 L xs q) (hd : decode (cod_ q) pc = .ok (.invokestatic x, 3)) (hm : mth_ (kap_ q) x = some (186, j, z)) (hna : nar_ 186 ≤ st.length) (hsum : ((st.drop (nar_ 186)).map acat_).sum ≤ 8) (hpk : pok_ 186 (st.take (nar_ 186)).reverse = true) (hrun : run_ xs n d 186 0 (ent_ (st.take (nar_ 186)).reverse (mxl_ 186)) [] h = some (some v, h1)) (hfr : 1 ≤ R.frames) (hlo : 120 ≤ R.locals) (hrc : nx_ h1 - n0 ≤ R.cells) (hrs : sl_ h1 - s0 ≤ R.slots)
    (K : Sm_ p l e R s m args below meth c dC dI cy op B0 L xs ad0 n0 s0 Q q (pc + 3) ls (v.toList ++ st.drop (nar_ 186)) h1) : Sm_ p l e R s m args below meth c dC dI cy op B0 L xs ad0 n0 s0 Q q pc ls st h := by
  obtain ⟨⟨hx, hb, hml, ho, ht⟩, hK0, ⟨hB, hL4, hq200⟩, hlk, hrt, hnm, hst9⟩ := C
  intro ad la H locs e1 hR hKC hL hc1 hc2 hF hS hn hs
  have hop : op.category = 1 := hKC.2.2.2
  obtain ⟨hlink, hz⟩ := mth_mem (kap_lt hq200) hm (by decide)
  have hz0 : z = 0 := by omega
  rw [hz0, if_neg (by decide)] at hlink
  have hna2 : 2 ≤ st.length := hna
  match st, hna2 with
  | w1 :: w0 :: r, _ =>
    have hV := V_of_run hrun
    have hsum' : (((r.map (cv_ ad op)).map fun v => v.category).sum) ≤ 8 := by rw [cv_sum hop]; exact hsum
    have hcr : ∀ w ∈ r, vc_ L h w := fun w hw => hc2 w (List.mem_cons_of_mem _ (List.mem_cons_of_mem _ hw))
    rcases w0 with x0 | x0 | x0 | x0
    case inl =>
      rcases w1 with x1 | x1 | x1 | x1
      case inl =>
        obtain ⟨hv, hh⟩ := r_min hV
        cases hv
        cases hh
        exact va_mmin hx hb (hml.trans hL.1.symm) ho (zgw_ ht hlink rfl) (zgw_ ht (show lw_tbl[530]? = some (.static Lib.Math.min.name) by decide +kernel) rfl) (zgw_ ht (show lw_tbl[80]? = some (.initialized "java/lang/Math") by decide +kernel) rfl) (zgw_ ht (show lw_tbl[531]? = some (.code Lib.Math.min.name Lib.Math.min.code 2 (some .int)) by decide +kernel) rfl) hfr (by omega) hrc hrs hd (K ad la H locs e1 hR hKC hL hc1 (all_cons vcI hcr) hF hS hn hs)
      case inr.inl => exact absurd hpk (by intro y; cases y)
      all_goals
        exfalso
        obtain ⟨y, hy⟩ := V_needI (show decode (cod_ 186) 1 = .ok (.iload_n 1, 1) by decide +kernel) (s186_0.mp hV)
        cases hy
    all_goals
      exfalso
      obtain ⟨y, hy⟩ := V_needI (show decode (cod_ 186) 0 = .ok (.iload_n 0, 1) by decide +kernel) hV
      cases hy
theorem sd_abs (C : Cx_ p l R s m args meth c dC dI cy op B0 L xs q) (hd : decode (cod_ q) pc = .ok (.invokestatic x, 3)) (hm : mth_ (kap_ q) x = some (183, j, z)) (hna : nar_ 183 ≤ st.length) (hsum : ((st.drop (nar_ 183)).map acat_).sum ≤ 8) (hpk : pok_ 183 (st.take (nar_ 183)).reverse = true) (hrun : run_ xs n d 183 0 (ent_ (st.take (nar_ 183)).reverse (mxl_ 183)) [] h = some (some v, h1)) (hfr : 1 ≤ R.frames) (hlo : 120 ≤ R.locals) (hrc : nx_ h1 - n0 ≤ R.cells) (hrs : sl_ h1 - s0 ≤ R.slots)
    (K : Sm_ p l e R s m args below meth c dC dI cy op B0 L xs ad0 n0 s0 Q q (pc + 3) ls (v.toList ++ st.drop (nar_ 183)) h1) : Sm_ p l e R s m args below meth c dC dI cy op B0 L xs ad0 n0 s0 Q q pc ls st h := by
  obtain ⟨⟨hx, hb, hml, ho, ht⟩, hK0, ⟨hB, hL4, hq200⟩, hlk, hrt, hnm, hst9⟩ := C
  intro ad la H locs e1 hR hKC hL hc1 hc2 hF hS hn hs
  have hop : op.category = 1 := hKC.2.2.2
  obtain ⟨hlink, hz⟩ := mth_mem (kap_lt hq200) hm (by decide)
  have hz0 : z = 0 := by omega
  rw [hz0, if_neg (by decide)] at hlink
  have hna2 : 1 ≤ st.length := hna
  match st, hna2 with
  | w0 :: r, _ =>
    have hV := V_of_run hrun
    have hsum' : (((r.map (cv_ ad op)).map fun v => v.category).sum) ≤ 8 := by rw [cv_sum hop]; exact hsum
    have hcr : ∀ w ∈ r, vc_ L h w := fun w hw => hc2 w (List.mem_cons_of_mem _ hw)
    rcases w0 with x0 | x0 | x0 | x0
    case inl =>
      obtain ⟨hv, hh⟩ := r_abs hV
      cases hv
      cases hh
      exact va_mabs hx hb (hml.trans hL.1.symm) ho (zgw_ ht hlink rfl) (zgw_ ht (show lw_tbl[527]? = some (.static Lib.Math.abs.name) by decide +kernel) rfl) (zgw_ ht (show lw_tbl[80]? = some (.initialized "java/lang/Math") by decide +kernel) rfl) (zgw_ ht (show lw_tbl[528]? = some (.code Lib.Math.abs.name Lib.Math.abs.code 1 (some .int)) by decide +kernel) rfl) hfr (by omega) hrc hrs hd (K ad la H locs e1 hR hKC hL hc1 (all_cons vcI hcr) hF hS hn hs)
    all_goals
      exfalso
      obtain ⟨y, hy⟩ := V_needI (show decode (cod_ 183) 0 = .ok (.iload_n 0, 1) by decide +kernel) hV
      cases hy
theorem sd_maxJ (C : Cx_ p l R s m args meth c dC dI cy op B0 L xs q) (hd : decode (cod_ q) pc = .ok (.invokestatic x, 3)) (hm : mth_ (kap_ q) x = some (185, j, z)) (hna : nar_ 185 ≤ st.length) (hsum : ((st.drop (nar_ 185)).map acat_).sum ≤ 8) (hpk : pok_ 185 (st.take (nar_ 185)).reverse = true) (hrun : run_ xs n d 185 0 (ent_ (st.take (nar_ 185)).reverse (mxl_ 185)) [] h = some (some v, h1)) (hfr : 1 ≤ R.frames) (hlo : 120 ≤ R.locals) (hrc : nx_ h1 - n0 ≤ R.cells) (hrs : sl_ h1 - s0 ≤ R.slots)
    (K : Sm_ p l e R s m args below meth c dC dI cy op B0 L xs ad0 n0 s0 Q q (pc + 3) ls (v.toList ++ st.drop (nar_ 185)) h1) : Sm_ p l e R s m args below meth c dC dI cy op B0 L xs ad0 n0 s0 Q q pc ls st h := by
  obtain ⟨⟨hx, hb, hml, ho, ht⟩, hK0, ⟨hB, hL4, hq200⟩, hlk, hrt, hnm, hst9⟩ := C
  intro ad la H locs e1 hR hKC hL hc1 hc2 hF hS hn hs
  have hop : op.category = 1 := hKC.2.2.2
  obtain ⟨hlink, hz⟩ := mth_mem (kap_lt hq200) hm (by decide)
  have hz0 : z = 0 := by omega
  rw [hz0, if_neg (by decide)] at hlink
  have hna2 : 2 ≤ st.length := hna
  match st, hna2 with
  | w1 :: w0 :: r, _ =>
    have hV := V_of_run hrun
    have hsum' : (((r.map (cv_ ad op)).map fun v => v.category).sum) ≤ 8 := by rw [cv_sum hop]; exact hsum
    have hcr : ∀ w ∈ r, vc_ L h w := fun w hw => hc2 w (List.mem_cons_of_mem _ (List.mem_cons_of_mem _ hw))
    rcases w0 with x0 | x0 | x0 | x0
    case inr.inl =>
      rcases w1 with x1 | x1 | x1 | x1
      case inr.inl =>
        obtain ⟨hv, hh⟩ := r_maxJ hV
        cases hv
        cases hh
        exact va_mmax_long hx hb (hml.trans hL.1.symm) ho (zgw_ ht hlink rfl) (zgw_ ht (show lw_tbl[473]? = some (.static Lib.MathLoose.max_long.x) by decide +kernel) rfl) (zgw_ ht (show lw_tbl[80]? = some (.initialized "java/lang/Math") by decide +kernel) rfl) (zgw_ ht (show lw_tbl[474]? = some (.code Lib.MathLoose.max_long.x Lib.MathLoose.max_long.code 4 (some .long)) by decide +kernel) rfl) hfr (by omega) hrc hrs hd (K ad la H locs e1 hR hKC hL hc1 (all_cons vcJ hcr) hF hS hn hs)
      all_goals
        exfalso
        obtain ⟨y, hy⟩ := V_needL (show decode (cod_ 185) 1 = .ok (.lload_n 2, 1) by decide +kernel) (s185_0.mp hV)
        cases hy
    all_goals
      exfalso
      obtain ⟨y, hy⟩ := V_needL (show decode (cod_ 185) 0 = .ok (.lload_n 0, 1) by decide +kernel) hV
      cases hy
end MT2
