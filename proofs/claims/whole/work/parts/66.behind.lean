/-! the week: the least work behind -/
def mnl_ (c : Nat → Bool) (g : Nat → Nat) : Nat → Nat
  | 0 => 1000000
  | n + 1 => if c n = true then min (mnl_ c g n) (g n) else mnl_ c g n
section CBE
variable {xs : Nat → Int32} {d : Nat} {h : AH} {Q : OU_ → AH → Prop} {P : PS} {sp : Nat → Nat} {l : List Nat} {b : Nat → Nat → Nat} {rest first : Nat}
theorem mnl_le {c : Nat → Bool} {g : Nat → Nat} : ∀ {n : Nat}, mnl_ c g n ≤ 1000000 := by
  intro n
  induction n with
  | zero => exact Nat.le_refl _
  | succ n ih =>
    show (if c n = true then min (mnl_ c g n) (g n) else mnl_ c g n) ≤ _
    split <;> omega
def wl_ (P : PS) (l : List Nat) (i j : Nat) : Nat := wk_ P (l.getD i 0) (l.getD j 0)
theorem c_onward {next : Nat} (hC : CS_ h) (hG : CG_ P l h) (hl : l.length ≤ 8) (hf : first < l.length) (hn : next < l.length) (hr : rest < 256) (hb : hI_ h 27918352 (8 * rest + next) = Int32.ofNat (b rest next)) : V_ xs d 59 0 [vA (some 27000838), vI (Int32.ofNat first), vI (Int32.ofNat rest), vI (Int32.ofNat next)] [] h Q ↔ Q (some (some (vI (Int32.ofNat (wl_ P l first next + b rest next))))) h := by
  have w8 : ∀ i, i < 256 → ∀ j, j < 8 → Int32.ofNat i * 8 + Int32.ofNat j = Int32.ofNat (8 * i + j) := by decide +kernel
  have e1 := w8 first (by omega) next (by omega)
  have e2 := w8 rest hr next (by omega)
  have e3 := hG first next hf hn
  simp (disch := first | omega | assumption | decide | (apply bT_; decide)) only [s59_0, s59_1, s59_4, s59_5, s59_7, s59_8, s59_9, s59_10, s59_11, s59_12, s59_15, s59_16, s59_18, s59_19, s59_20, s59_21, s59_22, s59_23, K_v, K_0, acI, acA, acJ, acX, List.map_cons, List.map_nil, List.sum_cons, List.sum_nil, true_and, and_true, posT, b2_0, b2_1, bft, true_or, or_true, Nat.zero_le, Nat.reduceAdd, Nat.reduceLeDiff, hI_uI, hL_uI, hR_uI, nx_uI, sl_uI, hI_uL, hL_uL, hR_uL, nx_uL, sl_uL, hI_uR, hL_uR, hR_uR, nx_uR, sl_uR, st_eq, if_true, if_false, eq_self, Nat.reduceEqDiff, Nat.reduceMul, reduceIte, kdT, ixT, w_cl, w_ti, w_s1, w_a, w_m12, w_m8, w_m3, w_m4, hC.x0, hC.x2, hC.x4, hC.x7, hC.x8, hC.x9, hC.x11, hC.f0, hC.f1, hC.f2, hC.p0, hC.p1, hC.p2, hC.p3, hC.l1, hC.l2, hC.l3, hC.l4, hC.d0, hC.d1, hC.d2, hC.g1, hC.g2, hC.g3, hC.g4, hC.k1, hC.k2, hC.k3, hC.k4, e1, e2, e3, hb, kd_PL, ln_PL, kd_CHG, ln_CHG, kd_BEH, ln_BEH]
  unfold wl_
  try rfl
end CBE
