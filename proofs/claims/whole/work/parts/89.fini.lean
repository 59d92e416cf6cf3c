/-! the constructors -/
def look_ : List (Nat × Nat × Nat) → Nat → Nat → Option Nat
  | [], _, _ => none
  | e :: E, a, j => if a = e.1 ∧ j = e.2.1 then some e.2.2 else look_ E a j
def IN_ (E : List (Nat × Nat × Nat)) (nx sl : Nat) (I : Nat → Nat → Int32) (h : AH) : Prop := nx_ h = nx ∧ sl_ h = sl ∧ (∀ a j, hI_ h a j = I a j) ∧ (∀ a j, hL_ h a j = 0) ∧ (∀ a j, hR_ h a j = look_ E a j) ∧ (∀ e, e ∈ E → sr_ e.1 < nx) ∧ (∀ a, nx ≤ sr_ a → ∀ j, I a j = 0)
section INI
variable {E : List (Nat × Nat × Nat)} {nx sl : Nat} {I : Nat → Nat → Int32} {h : AH}
theorem look_no {a : Nat} : ∀ {E : List (Nat × Nat × Nat)}, (∀ e, e ∈ E → sr_ e.1 < nx) → nx ≤ sr_ a → ∀ j, look_ E a j = none := by
  intro E
  induction E with
  | nil => intro _ _ j; rfl
  | cons e E ih =>
    intro h1 h2 j
    show (if a = e.1 ∧ j = e.2.1 then some e.2.2 else look_ E a j) = none
    have := h1 e List.mem_cons_self
    rw [if_neg (fun z => by rw [← z.1] at this; omega)]
    exact ih (fun e he => h1 e (List.mem_cons_of_mem _ he)) h2 j
theorem IN_.nw {k n s : Nat} (H : IN_ E nx sl I h) (hk : k < 64) (hn : n < 4096) : IN_ E (nx + 1) (sl + s) I (nw_ h k n s) := by
  obtain ⟨a1, a2, a3, a4, a5, a6, a7⟩ := H
  have hs : sr_ (mk_ (nx_ h) k n) = nx := by rw [sr_mk hk hn, a1]
  refine ⟨by rw [nx_nw, a1], by rw [sl_nw, a2], fun a j => ?_, fun a j => ?_, fun a j => ?_, fun e he => by have := a6 e he; omega, fun a ha j => a7 a (by omega) j⟩
  · rw [hI_nw]
    by_cases q : a = mk_ (nx_ h) k n
    · rw [if_pos q, a7 a (by rw [q, hs]; exact Nat.le_refl _)]
    · rw [if_neg q]; exact a3 a j
  · rw [hL_nw]
    by_cases q : a = mk_ (nx_ h) k n
    · rw [if_pos q]
    · rw [if_neg q]; exact a4 a j
  · rw [hR_nw]
    by_cases q : a = mk_ (nx_ h) k n
    · rw [if_pos q, look_no a6 (by rw [q, hs]; exact Nat.le_refl _)]
    · rw [if_neg q]; exact a5 a j
theorem IN_.uR {a j v : Nat} (H : IN_ E nx sl I h) (ha : sr_ a < nx) : IN_ ((a, j, v) :: E) nx sl I (uR_ h a (st_ (hR_ h a) j (some v))) := by
  obtain ⟨a1, a2, a3, a4, a5, a6, a7⟩ := H
  refine ⟨a1, a2, a3, a4, fun b k => ?_, fun e he => ?_, a7⟩
  · show _ = if b = a ∧ k = j then some v else look_ E b k
    rw [hR_uR]
    by_cases q : b = a
    · rw [if_pos q, st_eq]
      by_cases q2 : k = j
      · rw [if_pos q2, if_pos ⟨q, q2⟩]
      · rw [if_neg q2, if_neg (fun z => q2 z.2), q]; exact a5 a k
    · rw [if_neg q, if_neg (fun z => q z.1)]; exact a5 b k
  · rcases List.mem_cons.mp he with z | z
    · rw [z]; exact ha
    · exact a6 e z
theorem IN_.uI {a j : Nat} {v : Int32} (H : IN_ E nx sl I h) (ha : sr_ a < nx) : IN_ E nx sl (up2_ I a j v) (uI_ h a (st_ (hI_ h a) j v)) := by
  obtain ⟨a1, a2, a3, a4, a5, a6, a7⟩ := H
  refine ⟨a1, a2, fun b k => ?_, a4, a5, a6, fun b hb k => ?_⟩
  · unfold up2_
    rw [hI_uI]
    by_cases q : b = a
    · rw [if_pos q, st_eq]
      by_cases q2 : k = j
      · rw [if_pos q2, if_pos ⟨q, q2⟩]
      · rw [if_neg q2, if_neg (fun z => q2 z.2), q]; exact a3 a k
    · rw [if_neg q, if_neg (fun z => q z.1)]; exact a3 b k
  · unfold up2_
    rw [if_neg (fun z => by rw [z.1] at hb; omega)]
    exact a7 b hb k
end INI
def EXX_ : List (Nat × Nat × Nat) := [(25165831, 13, 32243713), (32243713, 4, 33343504), (32243713, 3, 33030800), (32243713, 2, 32768656), (32243713, 1, 32506518), (25165831, 12, 30932993), (30932993, 4, 32032784), (30932993, 3, 31720080), (30932993, 2, 31457936), (30932993, 1, 31195798), (25165831, 11, 29884421), (29884421, 2, 30722128), (29884421, 1, 30459984), (29884421, 0, 30197846), (25165831, 9, 29673489), (25165831, 8, 28311555), (28311555, 4, 29361424), (28311555, 3, 29110800), (28311555, 2, 28848656), (28311555, 1, 28586512), (25165831, 7, 27000838), (27000838, 3, 28049936), (27000838, 2, 27918352), (27000838, 1, 27529232), (27000838, 0, 27263504), (25165831, 4, 25952258), (25952258, 2, 26739411), (25952258, 1, 26477264), (25952258, 0, 26230803), (25165831, 2, 25690901), (25165831, 0, 25428756)]
def EMM_ : List (Nat × Nat × Nat) := [(33554440, 47, 42467984), (33554440, 46, 42205840), (33554440, 45, 41943696), (33554440, 44, 41681552), (33554440, 43, 41419408), (33554440, 42, 41157264), (33554440, 40, 40945681), (33554440, 38, 40683537), (33554440, 37, 40382992), (33554440, 36, 40120848), (33554440, 35, 39858704), (33554440, 30, 39584272), (33554440, 29, 39322128), (33554440, 25, 39075856), (33554440, 24, 38813712), (33554440, 23, 38535696), (33554440, 21, 38273552), (33554440, 20, 38011408), (33554440, 18, 37751056), (33554440, 17, 37487376), (33554440, 16, 37230610), (33554440, 15, 36968464), (33554440, 14, 36706320), (33554440, 13, 36438800), (33554440, 12, 36176656), (33554440, 11, 35914512), (33554440, 10, 35652368), (33554440, 9, 35390224), (33554440, 7, 35136528), (33554440, 6, 34865938), (33554440, 5, 34603794), (33554440, 4, 34341648), (33554440, 3, 34079504), (33554440, 2, 33817360)]
section CON
variable {xs : Nat → Int32} {d : Nat} {E : List (Nat × Nat × Nat)} {sl : Nat} {I : Nat → Nat → Int32} {h : AH}
theorem c_init12 (H : IN_ E 100 sl I h) (hd : 1 ≤ d) : ∃ h', IN_ ((25952258, 2, 26739411) :: (25952258, 1, 26477264) :: (25952258, 0, 26230803) :: E) 103 (sl + 278) I h' ∧ Do_ xs d 12 [vA (some 25952258)] h (some none) h' := by
  have n0 := H.1
  have H1 := (H.nw (k := 19) (n := 256) (s := 256) (by decide) (by decide)).uR (a := 25952258) (j := 0) (v := 26230803) (by decide)
  have H2 := (H1.nw (k := 16) (n := 11) (s := 11) (by decide) (by decide)).uR (a := 25952258) (j := 1) (v := 26477264) (by decide)
  have H3 := (H2.nw (k := 19) (n := 11) (s := 11) (by decide) (by decide)).uR (a := 25952258) (j := 2) (v := 26739411) (by decide)
  have m0 : mk_ 100 19 256 = 26230803 := rfl
  have m1 : mk_ 101 16 11 = 26477264 := rfl
  have m2 : mk_ 102 19 11 = 26739411 := rfl
  refine ⟨_, H3, fun Q => ?_⟩
  simp (disch := first | omega | assumption | decide | (apply bT_; decide)) only [s12_0, s12_1, s12_4, s12_5, s12_10, s12_13, s12_14, s12_18, s12_21, s12_22, s12_26, s12_29, K_v, K_0, acI, acA, acJ, acX, List.map_cons, List.map_nil, List.sum_cons, List.sum_nil, true_and, and_true, posT, b2_0, b2_1, bft, true_or, or_true, Nat.zero_le, Nat.reduceAdd, Nat.reduceLeDiff, nx_nw, nx_uR, n0, m0, m1, m2, Nat.reduceAdd, kd_FI, s12_8 (n := 256) (N := 256) (by decide) (by decide), s12_16 (n := 11) (N := 11) (by decide) (by decide), s12_24 (n := 11) (N := 11) (by decide) (by decide)]
theorem c_init53 (H : IN_ E 104 sl I h) (hd : 1 ≤ d) : ∃ h', IN_ ((27000838, 3, 28049936) :: (27000838, 2, 27918352) :: (27000838, 1, 27529232) :: (27000838, 0, 27263504) :: E) 108 (sl + 2128) I h' ∧ Do_ xs d 53 [vA (some 27000838)] h (some none) h' := by
  have n0 := H.1
  have H1 := (H.nw (k := 16) (n := 8) (s := 8) (by decide) (by decide)).uR (a := 27000838) (j := 0) (v := 27263504) (by decide)
  have H2 := (H1.nw (k := 16) (n := 64) (s := 64) (by decide) (by decide)).uR (a := 27000838) (j := 1) (v := 27529232) (by decide)
  have H3 := (H2.nw (k := 16) (n := 2048) (s := 2048) (by decide) (by decide)).uR (a := 27000838) (j := 2) (v := 27918352) (by decide)
  have H4 := (H3.nw (k := 16) (n := 8) (s := 8) (by decide) (by decide)).uR (a := 27000838) (j := 3) (v := 28049936) (by decide)
  have m0 : mk_ 104 16 8 = 27263504 := rfl
  have m1 : mk_ 105 16 64 = 27529232 := rfl
  have m2 : mk_ 106 16 2048 = 27918352 := rfl
  have m3 : mk_ 107 16 8 = 28049936 := rfl
  refine ⟨_, H4, fun Q => ?_⟩
  simp (disch := first | omega | assumption | decide | (apply bT_; decide)) only [s53_0, s53_1, s53_4, s53_5, s53_9, s53_12, s53_13, s53_17, s53_20, s53_21, s53_26, s53_29, s53_30, s53_34, s53_37, K_v, K_0, acI, acA, acJ, acX, List.map_cons, List.map_nil, List.sum_cons, List.sum_nil, true_and, and_true, posT, b2_0, b2_1, bft, true_or, or_true, Nat.zero_le, Nat.reduceAdd, Nat.reduceLeDiff, nx_nw, nx_uR, n0, m0, m1, m2, m3, Nat.reduceAdd, kd_PL, s53_7 (n := 8) (N := 8) (by decide) (by decide), s53_15 (n := 64) (N := 64) (by decide) (by decide), s53_24 (n := 2048) (N := 2048) (by decide) (by decide), s53_32 (n := 8) (N := 8) (by decide) (by decide)]
theorem c_init24 (H : IN_ E 109 sl I h) (hd : 1 ≤ d) : ∃ h', IN_ ((28311555, 4, 29361424) :: (28311555, 3, 29110800) :: (28311555, 2, 28848656) :: (28311555, 1, 28586512) :: E) 113 (sl + 620) I h' ∧ Do_ xs d 24 [vA (some 28311555)] h (some none) h' := by
  have n0 := H.1
  have H1 := (H.nw (k := 16) (n := 200) (s := 200) (by decide) (by decide)).uR (a := 28311555) (j := 1) (v := 28586512) (by decide)
  have H2 := (H1.nw (k := 16) (n := 200) (s := 200) (by decide) (by decide)).uR (a := 28311555) (j := 2) (v := 28848656) (by decide)
  have H3 := (H2.nw (k := 16) (n := 200) (s := 200) (by decide) (by decide)).uR (a := 28311555) (j := 3) (v := 29110800) (by decide)
  have H4 := (H3.nw (k := 16) (n := 20) (s := 20) (by decide) (by decide)).uR (a := 28311555) (j := 4) (v := 29361424) (by decide)
  have m0 : mk_ 109 16 200 = 28586512 := rfl
  have m1 : mk_ 110 16 200 = 28848656 := rfl
  have m2 : mk_ 111 16 200 = 29110800 := rfl
  have m3 : mk_ 112 16 20 = 29361424 := rfl
  refine ⟨_, H4, fun Q => ?_⟩
  simp (disch := first | omega | assumption | decide | (apply bT_; decide)) only [s24_0, s24_1, s24_4, s24_5, s24_10, s24_13, s24_14, s24_19, s24_22, s24_23, s24_28, s24_31, s24_32, s24_36, s24_39, K_v, K_0, acI, acA, acJ, acX, List.map_cons, List.map_nil, List.sum_cons, List.sum_nil, true_and, and_true, posT, b2_0, b2_1, bft, true_or, or_true, Nat.zero_le, Nat.reduceAdd, Nat.reduceLeDiff, nx_nw, nx_uR, n0, m0, m1, m2, m3, Nat.reduceAdd, kd_LE, s24_8 (n := 200) (N := 200) (by decide) (by decide), s24_17 (n := 200) (N := 200) (by decide) (by decide), s24_26 (n := 200) (N := 200) (by decide) (by decide), s24_34 (n := 20) (N := 20) (by decide) (by decide)]
theorem c_init37 (H : IN_ E 115 sl I h) (hd : 1 ≤ d) : ∃ h', IN_ ((29884421, 2, 30722128) :: (29884421, 1, 30459984) :: (29884421, 0, 30197846) :: E) 118 (sl + 2403) I h' ∧ Do_ xs d 37 [vA (some 29884421)] h (some none) h' := by
  have n0 := H.1
  have H1 := (H.nw (k := 22) (n := 801) (s := 801) (by decide) (by decide)).uR (a := 29884421) (j := 0) (v := 30197846) (by decide)
  have H2 := (H1.nw (k := 16) (n := 801) (s := 801) (by decide) (by decide)).uR (a := 29884421) (j := 1) (v := 30459984) (by decide)
  have H3 := (H2.nw (k := 16) (n := 801) (s := 801) (by decide) (by decide)).uR (a := 29884421) (j := 2) (v := 30722128) (by decide)
  have m0 : mk_ 115 22 801 = 30197846 := rfl
  have m1 : mk_ 116 16 801 = 30459984 := rfl
  have m2 : mk_ 117 16 801 = 30722128 := rfl
  refine ⟨_, H3, fun Q => ?_⟩
  simp (disch := first | omega | assumption | decide | (apply bT_; decide)) only [s37_0, s37_1, s37_4, s37_5, s37_11, s37_14, s37_15, s37_20, s37_23, s37_24, s37_29, s37_32, K_v, K_0, acI, acA, acJ, acX, List.map_cons, List.map_nil, List.sum_cons, List.sum_nil, true_and, and_true, posT, b2_0, b2_1, bft, true_or, or_true, Nat.zero_le, Nat.reduceAdd, Nat.reduceLeDiff, nx_nw, nx_uR, n0, m0, m1, m2, Nat.reduceAdd, kd_RD, s37_8 (n := 801) (N := 801) (by decide) (by decide), s37_18 (n := 801) (N := 801) (by decide) (by decide), s37_27 (n := 801) (N := 801) (by decide) (by decide)]
theorem c_init3a (H : IN_ E 119 sl I h) (hd : 1 ≤ d) : ∃ h', IN_ ((30932993, 4, 32032784) :: (30932993, 3, 31720080) :: (30932993, 2, 31457936) :: (30932993, 1, 31195798) :: E) 123 (sl + 830) I h' ∧ Do_ xs d 3 [vA (some 30932993)] h (some none) h' := by
  have n0 := H.1
  have H1 := (H.nw (k := 22) (n := 10) (s := 10) (by decide) (by decide)).uR (a := 30932993) (j := 1) (v := 31195798) (by decide)
  have H2 := (H1.nw (k := 16) (n := 10) (s := 10) (by decide) (by decide)).uR (a := 30932993) (j := 2) (v := 31457936) (by decide)
  have H3 := (H2.nw (k := 16) (n := 10) (s := 10) (by decide) (by decide)).uR (a := 30932993) (j := 3) (v := 31720080) (by decide)
  have H4 := (H3.nw (k := 16) (n := 800) (s := 800) (by decide) (by decide)).uR (a := 30932993) (j := 4) (v := 32032784) (by decide)
  have m0 : mk_ 119 22 10 = 31195798 := rfl
  have m1 : mk_ 120 16 10 = 31457936 := rfl
  have m2 : mk_ 121 16 10 = 31720080 := rfl
  have m3 : mk_ 122 16 800 = 32032784 := rfl
  refine ⟨_, H4, fun Q => ?_⟩
  simp (disch := first | omega | assumption | decide | (apply bT_; decide)) only [s3_0, s3_1, s3_4, s3_5, s3_10, s3_13, s3_14, s3_18, s3_21, s3_22, s3_26, s3_29, s3_30, s3_35, s3_38, K_v, K_0, acI, acA, acJ, acX, List.map_cons, List.map_nil, List.sum_cons, List.sum_nil, true_and, and_true, posT, b2_0, b2_1, bft, true_or, or_true, Nat.zero_le, Nat.reduceAdd, Nat.reduceLeDiff, nx_nw, nx_uR, n0, m0, m1, m2, m3, Nat.reduceAdd, kd_G1, s3_7 (n := 10) (N := 10) (by decide) (by decide), s3_16 (n := 10) (N := 10) (by decide) (by decide), s3_24 (n := 10) (N := 10) (by decide) (by decide), s3_33 (n := 800) (N := 800) (by decide) (by decide)]
theorem c_init3b (H : IN_ E 124 sl I h) (hd : 1 ≤ d) : ∃ h', IN_ ((32243713, 4, 33343504) :: (32243713, 3, 33030800) :: (32243713, 2, 32768656) :: (32243713, 1, 32506518) :: E) 128 (sl + 830) I h' ∧ Do_ xs d 3 [vA (some 32243713)] h (some none) h' := by
  have n0 := H.1
  have H1 := (H.nw (k := 22) (n := 10) (s := 10) (by decide) (by decide)).uR (a := 32243713) (j := 1) (v := 32506518) (by decide)
  have H2 := (H1.nw (k := 16) (n := 10) (s := 10) (by decide) (by decide)).uR (a := 32243713) (j := 2) (v := 32768656) (by decide)
  have H3 := (H2.nw (k := 16) (n := 10) (s := 10) (by decide) (by decide)).uR (a := 32243713) (j := 3) (v := 33030800) (by decide)
  have H4 := (H3.nw (k := 16) (n := 800) (s := 800) (by decide) (by decide)).uR (a := 32243713) (j := 4) (v := 33343504) (by decide)
  have m0 : mk_ 124 22 10 = 32506518 := rfl
  have m1 : mk_ 125 16 10 = 32768656 := rfl
  have m2 : mk_ 126 16 10 = 33030800 := rfl
  have m3 : mk_ 127 16 800 = 33343504 := rfl
  refine ⟨_, H4, fun Q => ?_⟩
  simp (disch := first | omega | assumption | decide | (apply bT_; decide)) only [s3_0, s3_1, s3_4, s3_5, s3_10, s3_13, s3_14, s3_18, s3_21, s3_22, s3_26, s3_29, s3_30, s3_35, s3_38, K_v, K_0, acI, acA, acJ, acX, List.map_cons, List.map_nil, List.sum_cons, List.sum_nil, true_and, and_true, posT, b2_0, b2_1, bft, true_or, or_true, Nat.zero_le, Nat.reduceAdd, Nat.reduceLeDiff, nx_nw, nx_uR, n0, m0, m1, m2, m3, Nat.reduceAdd, kd_G2, s3_7 (n := 10) (N := 10) (by decide) (by decide), s3_16 (n := 10) (N := 10) (by decide) (by decide), s3_24 (n := 10) (N := 10) (by decide) (by decide), s3_33 (n := 800) (N := 800) (by decide) (by decide)]
theorem c_init62 (H : IN_ E 97 sl I h) (hd : 2 ≤ d) : ∃ E' sl' h', IN_ E' 128 sl' (up2_ I 25165831 5 (-1)) h' ∧ sl' ≤ sl + 20000 ∧ E' = EXX_ ++ E ∧ Do_ xs d 62 [vA (some 25165831)] h (some none) h' := by
  have n0 := H.1
  have H1 := (H.nw (k := 20) (n := 12) (s := 12) (by decide) (by decide)).uR (a := 25165831) (j := 0) (v := 25428756) (by decide)
  have H2 := (H1.nw (k := 21) (n := 12) (s := 12) (by decide) (by decide)).uR (a := 25165831) (j := 2) (v := 25690901) (by decide)
  have A3 := H2.nw (k := 2) (n := 0) (s := 4) (by decide) (by decide)
  obtain ⟨g3, B3, D3⟩ := c_init12 (xs := xs) (d := d - 1) A3 (by omega)
  have n3 := B3.1
  have H3 := B3.uR (a := 25165831) (j := 4) (v := 25952258) (by decide)
  have H4 := H3.uI (a := 25165831) (j := 5) (v := -1) (by decide)
  have A5 := H4.nw (k := 6) (n := 0) (s := 5) (by decide) (by decide)
  obtain ⟨g5, B5, D5⟩ := c_init53 (xs := xs) (d := d - 1) A5 (by omega)
  have n5 := B5.1
  have H5 := B5.uR (a := 25165831) (j := 7) (v := 27000838) (by decide)
  have A6 := H5.nw (k := 3) (n := 0) (s := 5) (by decide) (by decide)
  obtain ⟨g6, B6, D6⟩ := c_init24 (xs := xs) (d := d - 1) A6 (by omega)
  have n6 := B6.1
  have H6 := B6.uR (a := 25165831) (j := 8) (v := 28311555) (by decide)
  have H7 := (H6.nw (k := 17) (n := 800) (s := 800) (by decide) (by decide)).uR (a := 25165831) (j := 9) (v := 29673489) (by decide)
  have A8 := H7.nw (k := 5) (n := 0) (s := 7) (by decide) (by decide)
  obtain ⟨g8, B8, D8⟩ := c_init37 (xs := xs) (d := d - 1) A8 (by omega)
  have n8 := B8.1
  have H8 := B8.uR (a := 25165831) (j := 11) (v := 29884421) (by decide)
  have A9 := H8.nw (k := 1) (n := 0) (s := 6) (by decide) (by decide)
  obtain ⟨g9, B9, D9⟩ := c_init3a (xs := xs) (d := d - 1) A9 (by omega)
  have n9 := B9.1
  have H9 := B9.uR (a := 25165831) (j := 12) (v := 30932993) (by decide)
  have A10 := H9.nw (k := 1) (n := 0) (s := 6) (by decide) (by decide)
  obtain ⟨g10, B10, D10⟩ := c_init3b (xs := xs) (d := d - 1) A10 (by omega)
  have n10 := B10.1
  have H10 := B10.uR (a := 25165831) (j := 13) (v := 32243713) (by decide)
  have mACT : mk_ 97 20 12 = 25428756 := rfl
  have mREP : mk_ 98 21 12 = 25690901 := rfl
  have mFI : mk_ 99 2 0 = 25952258 := rfl
  have mPL : mk_ 103 6 0 = 27000838 := rfl
  have mLE : mk_ 108 3 0 = 28311555 := rfl
  have mTP : mk_ 113 17 800 = 29673489 := rfl
  have mRD : mk_ 114 5 0 = 29884421 := rfl
  have mG1 : mk_ 118 1 0 = 30932993 := rfl
  have mG2 : mk_ 123 1 0 = 32243713 := rfl
  refine ⟨_, _, _, H10, by omega, rfl, fun Q => ?_⟩
  simp (disch := first | omega | assumption | decide | (apply bT_; decide)) only [s62_0, s62_1, s62_4, s62_5, s62_10, s62_13, s62_14, s62_19, s62_22, s62_23, s62_26, s62_26i, s62_27, s62_30, s62_33, s62_34, s62_35, s62_38, s62_39, s62_42, s62_42i, s62_43, s62_46, s62_49, s62_50, s62_53, s62_53i, s62_54, s62_57, s62_60, s62_61, s62_66, s62_69, s62_70, s62_73, s62_73i, s62_74, s62_77, s62_80, s62_81, s62_84, s62_84i, s62_85, s62_88, s62_91, s62_92, s62_95, s62_95i, s62_96, s62_99, s62_102, K_v, K_0, acI, acA, acJ, acX, List.map_cons, List.map_nil, List.sum_cons, List.sum_nil, true_and, and_true, posT, b2_0, b2_1, bft, true_or, or_true, Nat.zero_le, Nat.reduceAdd, Nat.reduceLeDiff, nx_nw, nx_uR, nx_uI, n0, n3, n5, n6, n8, n9, n10, mACT, mREP, mFI, mPL, mLE, mTP, mRD, mG1, mG2, Nat.reduceAdd, D3, D5, D6, D8, D9, D10, kd_X, kd_FI, kd_PL, kd_LE, kd_RD, kd_G1, kd_G2, s62_7 (n := 12) (N := 12) (by decide) (by decide), s62_16 (n := 12) (N := 12) (by decide) (by decide), s62_64 (n := 800) (N := 800) (by decide) (by decide)]
theorem c_init108 (H : IN_ E 129 sl I h) (hd : 1 ≤ d) : ∃ E' sl' h', IN_ E' 163 sl' (up2_ I 33554440 19 (-1)) h' ∧ sl' ≤ sl + 20000 ∧ E' = EMM_ ++ E ∧ Do_ xs d 108 [vA (some 33554440)] h (some none) h' := by
  have n0 := H.1
  have H0 := (H.nw (k := 16) (n := 12) (s := 12) (by decide) (by decide)).uR (a := 33554440) (j := 2) (v := 33817360) (by decide)
  have H1 := (H0.nw (k := 16) (n := 12) (s := 12) (by decide) (by decide)).uR (a := 33554440) (j := 3) (v := 34079504) (by decide)
  have H2 := (H1.nw (k := 16) (n := 12) (s := 12) (by decide) (by decide)).uR (a := 33554440) (j := 4) (v := 34341648) (by decide)
  have H3 := (H2.nw (k := 18) (n := 12) (s := 12) (by decide) (by decide)).uR (a := 33554440) (j := 5) (v := 34603794) (by decide)
  have H4 := (H3.nw (k := 18) (n := 12) (s := 12) (by decide) (by decide)).uR (a := 33554440) (j := 6) (v := 34865938) (by decide)
  have H5 := (H4.nw (k := 16) (n := 144) (s := 144) (by decide) (by decide)).uR (a := 33554440) (j := 7) (v := 35136528) (by decide)
  have H6 := (H5.nw (k := 16) (n := 12) (s := 12) (by decide) (by decide)).uR (a := 33554440) (j := 9) (v := 35390224) (by decide)
  have H7 := (H6.nw (k := 16) (n := 12) (s := 12) (by decide) (by decide)).uR (a := 33554440) (j := 10) (v := 35652368) (by decide)
  have H8 := (H7.nw (k := 16) (n := 12) (s := 12) (by decide) (by decide)).uR (a := 33554440) (j := 11) (v := 35914512) (by decide)
  have H9 := (H8.nw (k := 16) (n := 12) (s := 12) (by decide) (by decide)).uR (a := 33554440) (j := 12) (v := 36176656) (by decide)
  have H10 := (H9.nw (k := 16) (n := 12) (s := 12) (by decide) (by decide)).uR (a := 33554440) (j := 13) (v := 36438800) (by decide)
  have H11 := (H10.nw (k := 16) (n := 96) (s := 96) (by decide) (by decide)).uR (a := 33554440) (j := 14) (v := 36706320) (by decide)
  have H12 := (H11.nw (k := 16) (n := 96) (s := 96) (by decide) (by decide)).uR (a := 33554440) (j := 15) (v := 36968464) (by decide)
  have H13 := (H12.nw (k := 18) (n := 96) (s := 96) (by decide) (by decide)).uR (a := 33554440) (j := 16) (v := 37230610) (by decide)
  have H14 := (H13.nw (k := 16) (n := 12) (s := 12) (by decide) (by decide)).uR (a := 33554440) (j := 17) (v := 37487376) (by decide)
  have H15 := (H14.nw (k := 16) (n := 36) (s := 36) (by decide) (by decide)).uR (a := 33554440) (j := 18) (v := 37751056) (by decide)
  have HU := H15.uI (a := 33554440) (j := 19) (v := -1) (by decide)
  have H16 := (HU.nw (k := 16) (n := 8) (s := 8) (by decide) (by decide)).uR (a := 33554440) (j := 20) (v := 38011408) (by decide)
  have H17 := (H16.nw (k := 16) (n := 8) (s := 8) (by decide) (by decide)).uR (a := 33554440) (j := 21) (v := 38273552) (by decide)
  have H18 := (H17.nw (k := 16) (n := 8) (s := 8) (by decide) (by decide)).uR (a := 33554440) (j := 23) (v := 38535696) (by decide)
  have H19 := (H18.nw (k := 16) (n := 256) (s := 256) (by decide) (by decide)).uR (a := 33554440) (j := 24) (v := 38813712) (by decide)
  have H20 := (H19.nw (k := 16) (n := 256) (s := 256) (by decide) (by decide)).uR (a := 33554440) (j := 25) (v := 39075856) (by decide)
  have H21 := (H20.nw (k := 16) (n := 8) (s := 8) (by decide) (by decide)).uR (a := 33554440) (j := 29) (v := 39322128) (by decide)
  have H22 := (H21.nw (k := 16) (n := 8) (s := 8) (by decide) (by decide)).uR (a := 33554440) (j := 30) (v := 39584272) (by decide)
  have H23 := (H22.nw (k := 16) (n := 200) (s := 200) (by decide) (by decide)).uR (a := 33554440) (j := 35) (v := 39858704) (by decide)
  have H24 := (H23.nw (k := 16) (n := 200) (s := 200) (by decide) (by decide)).uR (a := 33554440) (j := 36) (v := 40120848) (by decide)
  have H25 := (H24.nw (k := 16) (n := 200) (s := 200) (by decide) (by decide)).uR (a := 33554440) (j := 37) (v := 40382992) (by decide)
  have H26 := (H25.nw (k := 17) (n := 800) (s := 800) (by decide) (by decide)).uR (a := 33554440) (j := 38) (v := 40683537) (by decide)
  have H27 := (H26.nw (k := 17) (n := 800) (s := 800) (by decide) (by decide)).uR (a := 33554440) (j := 40) (v := 40945681) (by decide)
  have H28 := (H27.nw (k := 16) (n := 10) (s := 10) (by decide) (by decide)).uR (a := 33554440) (j := 42) (v := 41157264) (by decide)
  have H29 := (H28.nw (k := 16) (n := 10) (s := 10) (by decide) (by decide)).uR (a := 33554440) (j := 43) (v := 41419408) (by decide)
  have H30 := (H29.nw (k := 16) (n := 10) (s := 10) (by decide) (by decide)).uR (a := 33554440) (j := 44) (v := 41681552) (by decide)
  have H31 := (H30.nw (k := 16) (n := 10) (s := 10) (by decide) (by decide)).uR (a := 33554440) (j := 45) (v := 41943696) (by decide)
  have H32 := (H31.nw (k := 16) (n := 10) (s := 10) (by decide) (by decide)).uR (a := 33554440) (j := 46) (v := 42205840) (by decide)
  have H33 := (H32.nw (k := 16) (n := 10) (s := 10) (by decide) (by decide)).uR (a := 33554440) (j := 47) (v := 42467984) (by decide)
  have mmFee : mk_ 129 16 12 = 33817360 := rfl
  have mmBirth : mk_ 130 16 12 = 34079504 := rfl
  have mmJoined : mk_ 131 16 12 = 34341648 := rfl
  have mmGuest : mk_ 132 18 12 = 34603794 := rfl
  have mmIn : mk_ 133 18 12 = 34865938 := rfl
  have mmGrade : mk_ 134 16 144 = 35136528 := rfl
  have mmMin : mk_ 135 16 12 = 35390224 := rfl
  have mmTak : mk_ 136 16 12 = 35652368 := rfl
  have mmSto : mk_ 137 16 12 = 35914512 := rfl
  have mmWei : mk_ 138 16 12 = 36176656 := rfl
  have mmRoles : mk_ 139 16 12 = 36438800 := rfl
  have mmKinds : mk_ 140 16 96 = 36706320 := rfl
  have mmLeast : mk_ 141 16 96 = 36968464 := rfl
  have mmNeed : mk_ 142 18 96 = 37230610 := rfl
  have mmDM : mk_ 143 16 12 = 37487376 := rfl
  have mmBoth : mk_ 144 16 36 = 37751056 := rfl
  have mmHand : mk_ 145 16 8 = 38011408 := rfl
  have mmOld : mk_ 146 16 8 = 38273552 := rfl
  have mmHas : mk_ 147 16 8 = 38535696 := rfl
  have mmTab : mk_ 148 16 256 = 38813712 := rfl
  have mmFur : mk_ 149 16 256 = 39075856 := rfl
  have mmOrder : mk_ 150 16 8 = 39322128 := rfl
  have mmTried : mk_ 151 16 8 = 39584272 := rfl
  have mmFI : mk_ 152 16 200 = 39858704 := rfl
  have mmFD : mk_ 153 16 200 = 40120848 := rfl
  have mmFH : mk_ 154 16 200 = 40382992 := rfl
  have mmTape : mk_ 155 17 800 = 40683537 := rfl
  have mmText : mk_ 156 17 800 = 40945681 := rfl
  have mmKind : mk_ 157 16 10 = 41157264 := rfl
  have mmAmount : mk_ 158 16 10 = 41419408 := rfl
  have mmBegins : mk_ 159 16 10 = 41681552 := rfl
  have mmNKind : mk_ 160 16 10 = 41943696 := rfl
  have mmNAmount : mk_ 161 16 10 = 42205840 := rfl
  have mmNBegins : mk_ 162 16 10 = 42467984 := rfl
  refine ⟨_, _, _, H33, by omega, rfl, fun Q => ?_⟩
  simp (disch := first | omega | assumption | decide | (apply bT_; decide)) only [s108_0, s108_1, s108_4, s108_5, s108_9, s108_12, s108_13, s108_17, s108_20, s108_21, s108_25, s108_28, s108_29, s108_33, s108_36, s108_37, s108_41, s108_44, s108_45, s108_50, s108_53, s108_54, s108_58, s108_61, s108_62, s108_66, s108_69, s108_70, s108_74, s108_77, s108_78, s108_82, s108_85, s108_86, s108_90, s108_93, s108_94, s108_98, s108_101, s108_102, s108_106, s108_109, s108_110, s108_114, s108_117, s108_118, s108_122, s108_125, s108_126, s108_130, s108_133, s108_134, s108_135, s108_138, s108_139, s108_143, s108_146, s108_147, s108_151, s108_154, s108_155, s108_159, s108_162, s108_163, s108_168, s108_171, s108_172, s108_177, s108_180, s108_181, s108_185, s108_188, s108_189, s108_193, s108_196, s108_197, s108_202, s108_205, s108_206, s108_211, s108_214, s108_215, s108_220, s108_223, s108_224, s108_229, s108_232, s108_233, s108_238, s108_241, s108_242, s108_246, s108_249, s108_250, s108_254, s108_257, s108_258, s108_262, s108_265, s108_266, s108_270, s108_273, s108_274, s108_278, s108_281, s108_282, s108_286, s108_289, K_v, K_0, acI, acA, acJ, acX, List.map_cons, List.map_nil, List.sum_cons, List.sum_nil, true_and, and_true, posT, b2_0, b2_1, bft, true_or, or_true, Nat.zero_le, Nat.reduceAdd, Nat.reduceLeDiff, nx_nw, nx_uR, nx_uI, n0, mmFee, mmBirth, mmJoined, mmGuest, mmIn, mmGrade, mmMin, mmTak, mmSto, mmWei, mmRoles, mmKinds, mmLeast, mmNeed, mmDM, mmBoth, mmHand, mmOld, mmHas, mmTab, mmFur, mmOrder, mmTried, mmFI, mmFD, mmFH, mmTape, mmText, mmKind, mmAmount, mmBegins, mmNKind, mmNAmount, mmNBegins, Nat.reduceAdd, kd_M, s108_7 (n := 12) (N := 12) (by decide) (by decide), s108_15 (n := 12) (N := 12) (by decide) (by decide), s108_23 (n := 12) (N := 12) (by decide) (by decide), s108_31 (n := 12) (N := 12) (by decide) (by decide), s108_39 (n := 12) (N := 12) (by decide) (by decide), s108_48 (n := 144) (N := 144) (by decide) (by decide), s108_56 (n := 12) (N := 12) (by decide) (by decide), s108_64 (n := 12) (N := 12) (by decide) (by decide), s108_72 (n := 12) (N := 12) (by decide) (by decide), s108_80 (n := 12) (N := 12) (by decide) (by decide), s108_88 (n := 12) (N := 12) (by decide) (by decide), s108_96 (n := 96) (N := 96) (by decide) (by decide), s108_104 (n := 96) (N := 96) (by decide) (by decide), s108_112 (n := 96) (N := 96) (by decide) (by decide), s108_120 (n := 12) (N := 12) (by decide) (by decide), s108_128 (n := 36) (N := 36) (by decide) (by decide), s108_141 (n := 8) (N := 8) (by decide) (by decide), s108_149 (n := 8) (N := 8) (by decide) (by decide), s108_157 (n := 8) (N := 8) (by decide) (by decide), s108_166 (n := 256) (N := 256) (by decide) (by decide), s108_175 (n := 256) (N := 256) (by decide) (by decide), s108_183 (n := 8) (N := 8) (by decide) (by decide), s108_191 (n := 8) (N := 8) (by decide) (by decide), s108_200 (n := 200) (N := 200) (by decide) (by decide), s108_209 (n := 200) (N := 200) (by decide) (by decide), s108_218 (n := 200) (N := 200) (by decide) (by decide), s108_227 (n := 800) (N := 800) (by decide) (by decide), s108_236 (n := 800) (N := 800) (by decide) (by decide), s108_244 (n := 10) (N := 10) (by decide) (by decide), s108_252 (n := 10) (N := 10) (by decide) (by decide), s108_260 (n := 10) (N := 10) (by decide) (by decide), s108_268 (n := 10) (N := 10) (by decide) (by decide), s108_276 (n := 10) (N := 10) (by decide) (by decide), s108_284 (n := 10) (N := 10) (by decide) (by decide)]
end CON
