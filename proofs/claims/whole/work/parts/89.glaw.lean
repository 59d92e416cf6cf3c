/-! the law: its start -/
theorem iv0 {sl : Nat} {h : AH} (H : IN_ (EMM_ ++ (EXX_ ++ [])) 164 sl (up2_ (up2_ (fun _ _ => 0) 25165831 5 (-1)) 33554440 19 (-1)) h) (hs : sl ≤ 100000) : IV_ 0 h := by
  obtain ⟨a1, a2, a3, a4, a5, a6, a7⟩ := H
  have z : ∀ a j, ¬ (a = 33554440 ∧ j = 19) → ¬ (a = 25165831 ∧ j = 5) → hI_ h a j = 0 := fun a j q1 q2 => by
    rw [a3]; unfold up2_; rw [if_neg q1, if_neg q2]
  have g1 : hI_ h 25165831 5 = -1 := by
    rw [a3]; unfold up2_; rw [if_neg (by decide), if_pos (by decide)]
  have g2 : hI_ h 33554440 19 = -1 := by
    rw [a3]; unfold up2_; rw [if_pos (by decide)]
  have n0 : ∀ {p : Prop} {i : Nat}, i < 0 → p := fun q => absurd q (Nat.not_lt_zero _)
  have rA : ∀ i, i < 12 → look_ (EMM_ ++ (EXX_ ++ [])) 25428756 i = none := by decide +kernel
  have rP : ∀ i, i < 12 → look_ (EMM_ ++ (EXX_ ++ [])) 25690901 i = none := by decide +kernel
  have hCS : CS_ h := by unfold CS_; simp only [a5]; decide +kernel
  have hMS : MS_ h := by unfold MS_; simp only [a5]; decide +kernel
  have hOC : OC_ 0 0 (fun _ => -1) := ⟨fun r _ => Or.inl ⟨rfl, by unfold dg_; simp⟩, fun r _ _ => rfl⟩
  have hPV : PV_ (0, fun _ _ => 0, fun _ => 0, fun _ _ => 0, fun _ _ => 0, fun _ _ => false, fun _ => 0, fun _ _ => 0) := ⟨by decide, fun _ _ => ⟨rfl, rfl⟩, fun _ => Nat.zero_le _, fun _ => Nat.zero_le _⟩
  refine ⟨0, fun _ _ => 0, fun _ _ => 0, (0, fun _ _ => 0, fun _ => 0, fun _ _ => 0, fun _ _ => 0, fun _ _ => false, fun _ => 0, fun _ _ => 0), 0, fun _ _ => 0, 0, fun _ => 0, none, fun _ => -1, 0, 0, fun _ => 0, [], ⟨hCS, ⟨fun _ => 0, ?_⟩, ⟨fun _ => 0, ?_⟩, ?_, ?_, ?_, ?_, ?_, by rw [a1]; exact Nat.le_refl _⟩, ⟨hMS, ?_, ?_, ?_, ?_, ?_, ?_, ?_, ?_⟩, ?_, by rw [a1]; exact Nat.le_refl _, by rw [a2]; omega⟩
  · exact ⟨z _ _ (by decide) (by decide), Nat.zero_le _, fun _ q => n0 q, fun i _ hi => by rw [a5]; exact rA i hi, fun _ _ q => n0 q, fun _ _ q => n0 q, fun _ _ _ q => n0 q⟩
  · exact ⟨z _ _ (by decide) (by decide), hPV, fun _ q => n0 q, fun i _ hi => by rw [a5]; exact rP i hi, fun _ _ q => n0 q, fun _ q => n0 q, fun _ _ q => n0 q, fun _ _ q => n0 q, fun _ _ _ q => n0 q⟩
  · exact ⟨z _ _ (by decide) (by decide), Nat.zero_le _, fun _ q => n0 q, fun _ q => n0 q⟩
  · exact ⟨z _ _ (by decide) (by decide), Nat.zero_le _, fun _ q => n0 q⟩
  · exact ⟨g1, a4 _ _⟩
  · exact ⟨z _ _ (by decide) (by decide), Nat.zero_le _, fun _ q => n0 q⟩
  · exact Or.inl ⟨by rw [a5]; decide +kernel, by rw [a5]; decide +kernel, z _ _ (by decide) (by decide), Nat.zero_le _, fun _ q => n0 q, fun _ q => n0 q⟩
  · exact ⟨z _ _ (by decide) (by decide), Nat.zero_le _, fun _ q => n0 q, fun _ _ q => n0 q⟩
  · exact ⟨z _ _ (by decide) (by decide), hPV, fun _ q => n0 q, fun p _ => ⟨z _ _ (fun q => absurd q.1 (by decide)) (fun q => absurd q.1 (by decide)), z _ _ (fun q => absurd q.1 (by decide)) (fun q => absurd q.1 (by decide))⟩, fun _ _ _ q => n0 q, fun _ _ _ q => n0 q⟩
  · exact ⟨z _ _ (by decide) (by decide), Nat.zero_le _, fun _ q => n0 q⟩
  · exact ⟨z _ _ (by decide) (by decide), Nat.zero_le _, fun _ q => n0 q⟩
  · exact ⟨g2, fun p q => (nomatch q), fun q => absurd rfl q⟩
  · exact ⟨z _ _ (by decide) (by decide), Nat.zero_le _, fun _ q => n0 q⟩
  · exact ⟨fun _ => 0, 0, ⟨Nat.zero_le _, fun _ q => n0 q⟩, z _ _ (by decide) (by decide), z _ _ (by decide) (by decide), Nat.zero_le _, fun _ q => n0 q, fun _ q => (nomatch q)⟩
  · exact ⟨0, fun _ => 0, fun _ => 0, 38813712, 39075856, z _ _ (by decide) (by decide), Nat.zero_le _, fun _ _ => z _ _ (fun q => absurd q.1 (by decide)) (fun q => absurd q.1 (by decide)), fun _ _ => z _ _ (fun q => absurd q.1 (by decide)) (fun q => absurd q.1 (by decide)), by rw [a5]; decide +kernel, by rw [a5]; decide +kernel, Or.inl ⟨rfl, rfl⟩⟩
  · exact ⟨fun _ _ q => n0 q, fun _ q => n0 q, fun _ q => n0 q, fun _ q => n0 q, ⟨fun _ q => n0 q, by decide⟩, by decide, fun _ => hOC, fun p q => (nomatch q)⟩
theorem law_start {xs : Nat → Int32} {d s : Nat} (hd : 100 ≤ d) : ∃ h, IV_ 0 h ∧ ∀ Q : OU_ → AH → Prop, V_ xs d 178 0 [vA (some s), vX 0, vX 0, vX 0, vX 0, vX 0, vX 0] [] (fun _ _ => 0, fun _ _ => 0, fun _ _ => none, [], 96, 0) Q ↔ V_ xs d 178 23 [vA (some s), vA (some 25165831), vA (some 33554440), vA (some 42729555), vI 0, vX 0, vX 0] [] h Q := by
  obtain ⟨hh, e0⟩ : ∃ hh : AH, hh = (fun _ _ => 0, fun _ _ => 0, fun _ _ => none, [], 96, 0) := ⟨_, rfl⟩
  have H0 : IN_ [] 96 0 (fun _ _ => 0) hh := by
    rw [e0]
    exact ⟨rfl, rfl, fun _ _ => rfl, fun _ _ => rfl, fun _ _ => rfl, fun e q => (nomatch q), fun _ _ _ => rfl⟩
  rw [← e0]
  have H1 := H0.nw (k := 7) (n := 0) (s := 14) (by decide) (by decide)
  obtain ⟨E1, s1, h1, I1, b1, rfl, D1⟩ := c_init62 (xs := xs) (d := d - 1) H1 (by omega)
  have H2 := I1.nw (k := 8) (n := 0) (s := 61) (by decide) (by decide)
  obtain ⟨E2, s2, h2, I2, b2, rfl, D2⟩ := c_init108 (xs := xs) (d := d - 1) H2 (by omega)
  have H3 := I2.nw (k := 19) (n := 1) (s := 1) (by decide) (by decide)
  refine ⟨_, iv0 H3 (by omega), fun Q => ?_⟩
  have n0 : nx_ hh = 96 := H0.1
  have n1 : nx_ h1 = 128 := I1.1
  have n2 : nx_ h2 = 163 := I2.1
  have m0 : mk_ 96 7 0 = 25165831 := rfl
  have m1 : mk_ 128 8 0 = 33554440 := rfl
  have m2 : mk_ 163 19 1 = 42729555 := rfl
  simp (disch := first | omega | assumption | decide | (apply bT_; decide)) only [s178_0, s178_3, s178_3i, s178_4, s178_7, s178_8, s178_11, s178_11i, s178_12, s178_15, s178_16, K_v, K_0, acI, acA, acJ, acX, List.map_cons, List.map_nil, List.sum_cons, List.sum_nil, true_and, and_true, posT, b2_0, b2_1, bft, true_or, or_true, Nat.zero_le, Nat.reduceAdd, Nat.reduceLeDiff, s178_19, s178_20, s178_21, n0, n1, n2, m0, m1, m2, kd_X, kd_M, D1, D2, s178_17 (n := 1) (N := 1) (by decide) (by decide)]
