/-! what the tokens say -/
/-- an expression: its steps, operands first, and what it says -/
abbrev Ex_ := List Int32 × ((Nat → Int) → Bool)
def pk_ (w : Nat) (b : Bool) (v : Int32) : Int32 := (if b = true then 3 else 4) ||| (Int32.ofNat w) <<< ((3 : Int32) &&& 31) ||| v <<< ((6 : Int32) &&& 31)
def cmpE_ (w : Nat) (b : Bool) (v : Int32) : Ex_ := ([pk_ w b v], fun m => if b = true then decide (m w < v.toInt) else decide (v.toInt ≤ m w))
def notE_ (e : Ex_) : Ex_ := (e.1 ++ [0], fun m => !(e.2 m))
def andE_ (a b : Ex_) : Ex_ := (a.1 ++ b.1 ++ [1], fun m => a.2 m && b.2 m)
def orE_ (a b : Ex_) : Ex_ := (a.1 ++ b.1 ++ [2], fun m => a.2 m || b.2 m)
/-- one step on a stack of bits -/
def chd_ (m : Nat → Int) (x : Int32) : Bool := (decide (m (x >>> ((3 : Int32) &&& 31) &&& 7).toNatClampNeg < (x >>> ((6 : Int32) &&& 31)).toInt)) == decide (x &&& 7 = 3)
def rst_ (m : Nat → Int) (σ : Nat) (x : Int32) : Nat := if x &&& 7 = 0 then 2 * (σ / 2) + (1 - σ % 2) else if x &&& 7 = 1 then 2 * (σ / 4) + (if σ / 2 % 2 = 1 ∧ σ % 2 = 1 then 1 else 0) else if x &&& 7 = 2 then 2 * (σ / 4) + (if σ / 2 % 2 = 1 ∨ σ % 2 = 1 then 1 else 0) else 2 * σ + (chd_ m x).toNat
def bnd_ (m : Nat → Int) (M : Nat) : List Int32 → Nat → Prop
  | [], σ => σ < M
  | x :: l, σ => σ < M ∧ bnd_ m M l (rst_ m σ x)
def LV_ (D : Nat) (e : Ex_) : Prop := ∀ m σ M, 2 ^ D * (σ + 1) ≤ M → bnd_ m M e.1 σ ∧ e.1.foldl (rst_ m) σ = 2 * σ + (e.2 m).toNat
abbrev PR_ := (Nat × Nat) ⊕ (Ex_ × Nat)
def wof_ (s : Nat) : Nat := [0, 1, 2, 3, 6].getD (s - 20) 0
def psm_ (S : Nat → Nat) (W : Nat → Int32) (k : Nat) : PR_ := if S k = 18 then .inr (cmpE_ 4 false 1, k + 1) else if S k < 20 then .inl (1, k) else if S (k + 1) = 7 ∨ S (k + 1) = 8 then (if S (k + 2) = 2 then .inr (cmpE_ (wof_ (S k)) (decide (S (k + 1) = 7)) (W (k + 2)), k + 3) else .inl (1, k + 2)) else .inl (1, k + 1)
def plp_ (S : Nat → Nat) (t : Nat) (mk : Ex_ → Ex_ → Ex_) (sub : Nat → PR_) : Nat → Ex_ → Nat → PR_
  | 0, e, k => .inr (e, k)
  | m + 1, e, k => if S k = t then (match sub (k + 1) with | .inl x => .inl x | .inr (e2, k2) => plp_ S t mk sub m (mk e e2) k2) else .inr (e, k)
def pst_ (S : Nat → Nat) (t : Nat) (mk : Ex_ → Ex_ → Ex_) (sub : Nat → PR_) (k : Nat) : PR_ := match sub k with
  | .inl x => .inl x
  | .inr (e, k1) => plp_ S t mk sub 800 e k1
def pF_ (S : Nat → Nat) (W : Nat → Int32) : Nat → Nat → PR_
  | 0, k => if S k = 17 ∨ S k = 4 then .inl (2, k) else psm_ S W k
  | n + 1, k => if S k = 17 ∨ S k = 4 then (if S k = 4 then (match pst_ S 15 orE_ (pst_ S 16 andE_ (pF_ S W n)) (k + 1) with | .inl x => .inl x | .inr (e, k1) => if S k1 = 5 then .inr (e, k1 + 1) else .inl (1, k1)) else (match pF_ S W n (k + 1) with | .inl x => .inl x | .inr (e, k1) => .inr (notE_ e, k1))) else psm_ S W k
def pT_ (S : Nat → Nat) (W : Nat → Int32) (n : Nat) : Nat → PR_ := pst_ S 16 andE_ (pF_ S W n)
def pE_ (S : Nat → Nat) (W : Nat → Int32) (n : Nat) : Nat → PR_ := pst_ S 15 orE_ (pT_ S W n)
def PO_ (f k D : Nat) (r : PR_) : Prop := match r with
  | .inl (c, k1) => k ≤ k1 ∧ k1 ≤ f ∧ (c = 1 ∨ c = 2)
  | .inr (e, k1) => k < k1 ∧ k1 ≤ f ∧ k + e.1.length ≤ k1 ∧ LV_ D e
section PAR
variable {S : Nat → Nat} {W : Nat → Int32} {f k : Nat}
theorem bnd_app {m : Nat → Int} {M : Nat} : ∀ {a b : List Int32} {σ : Nat}, bnd_ m M a σ → bnd_ m M b (a.foldl (rst_ m) σ) → bnd_ m M (a ++ b) σ := by
  intro a
  induction a with
  | nil => intro b σ _ h; exact h
  | cons x a ih => intro b σ h1 h2; exact ⟨h1.1, ih h1.2 h2⟩
theorem w_shlk {n k : Nat} {y : Int32} (hk : k < 10) (hy : y.toBitVec.smod 32 = BitVec.ofNat 32 k) (hn : n < 4194304) : Int32.ofNat n <<< y = Int32.ofNat (n * 2 ^ k) := by
  apply Int32.toBitVec_inj.mp
  show (BitVec.ofNat 32 n) <<< (y.toBitVec.smod 32) = BitVec.ofNat 32 (n * 2 ^ k)
  rw [hy, BitVec.shiftLeft_eq']
  apply BitVec.eq_of_toNat_eq
  rw [BitVec.toNat_shiftLeft, BitVec.toNat_ofNat, BitVec.toNat_ofNat, BitVec.toNat_ofNat, Nat.shiftLeft_eq, Nat.mod_eq_of_lt (show k < 2 ^ 32 by omega), Nat.mod_eq_of_lt (show n < 2 ^ 32 by omega)]
theorem pk_nat {w : Nat} {b : Bool} {n : Nat} (hw : w < 7) (hn : n < 1000000) : pk_ w b (Int32.ofNat n) = Int32.ofNat (64 * n + (8 * w + (if b = true then 3 else 4))) := by
  unfold pk_
  rw [w_shlk (k := 3) (by omega) (by decide +kernel) (by omega), w_shlk (k := 6) (by omega) (by decide +kernel) (by omega)]
  have e : (if b = true then (3 : Int32) else 4) = Int32.ofNat (if b = true then 3 else 4) := by cases b <;> rfl
  have hb : (if b = true then 3 else 4) < 8 := by cases b <;> decide
  rw [e, w_or, w_or]
  generalize (if b = true then 3 else 4) = c at hb
  have h1 : c ||| w * 2 ^ 3 = 8 * w + c := by
    rw [Nat.or_comm, Nat.mul_comm]
    exact (Nat.two_pow_add_eq_or_of_lt (i := 3) hb w).symm
  have h2 : (8 * w + c) ||| n * 2 ^ 6 = 64 * n + (8 * w + c) := by
    rw [Nat.or_comm, Nat.mul_comm n]
    exact (Nat.two_pow_add_eq_or_of_lt (i := 6) (show 8 * w + c < 2 ^ 6 by omega) n).symm
  rw [h1, h2]
theorem pk_dec {w : Nat} {b : Bool} {n : Nat} (hw : w < 7) (hn : n < 1000000) : pk_ w b (Int32.ofNat n) &&& 7 = (if b = true then 3 else 4) ∧ (pk_ w b (Int32.ofNat n) >>> ((3 : Int32) &&& 31) &&& 7) = Int32.ofNat w ∧ pk_ w b (Int32.ofNat n) >>> ((6 : Int32) &&& 31) = Int32.ofNat n := by
  rw [pk_nat hw hn]
  have hb : (if b = true then 3 else 4) < 8 := by cases b <;> decide
  have e : (if b = true then (3 : Int32) else 4) = Int32.ofNat (if b = true then 3 else 4) := by cases b <;> rfl
  rw [e]
  generalize (if b = true then 3 else 4) = c at hb
  have a7 : ∀ x, x &&& 7 = x % 8 := fun x => Nat.and_two_pow_sub_one_eq_mod (n := 3) (x := x)
  have s3 := w_shr (M := 64 * n + (8 * w + c)) (m := 3) (by omega) (by omega)
  have s6 := w_shr (M := 64 * n + (8 * w + c)) (m := 6) (by omega) (by omega)
  refine ⟨?_, ?_, ?_⟩
  · rw [show (7 : Int32) = Int32.ofNat 7 from rfl, w_and, a7]
    congr 1
    omega
  · rw [show (3 : Int32) = Int32.ofNat 3 from rfl, s3, show (7 : Int32) = Int32.ofNat 7 from rfl, w_and, a7]
    congr 1
    omega
  · rw [show (6 : Int32) = Int32.ofNat 6 from rfl, s6]
    congr 1
    omega
theorem LV_cmp {w n : Nat} {b : Bool} (hw : w < 7) (hn : n < 1000000) : LV_ 1 (cmpE_ w b (Int32.ofNat n)) := by
  intro m σ M hM
  obtain ⟨h1, h2, h3⟩ := pk_dec (b := b) hw hn
  have hst : rst_ m σ (pk_ w b (Int32.ofNat n)) = 2 * σ + ((cmpE_ w b (Int32.ofNat n)).2 m).toNat := by
    have hc : chd_ m (pk_ w b (Int32.ofNat n)) = (cmpE_ w b (Int32.ofNat n)).2 m := by
      unfold chd_
      rw [h1, h2, h3, w_cl (by omega)]
      show _ = if b = true then decide (m w < (Int32.ofNat n).toInt) else decide ((Int32.ofNat n).toInt ≤ m w)
      cases b
      · by_cases q : m w < (Int32.ofNat n).toInt
        · rw [decide_eq_true q, if_neg (by decide), if_neg (by decide), decide_eq_false (show ¬ ((Int32.ofNat n).toInt ≤ m w) by omega)]; rfl
        · rw [decide_eq_false q, if_neg (by decide), if_neg (by decide), decide_eq_true (show (Int32.ofNat n).toInt ≤ m w by omega)]; rfl
      · rw [if_pos rfl, if_pos rfl]
        by_cases q : m w < (Int32.ofNat n).toInt
        · rw [decide_eq_true q]; rfl
        · rw [decide_eq_false q]; rfl
    unfold rst_
    rw [h1, hc]
    cases b <;> rfl
  have hv : ((cmpE_ w b (Int32.ofNat n)).2 m).toNat ≤ 1 := Bool.toNat_le _
  refine ⟨⟨by omega, ?_⟩, hst⟩
  show rst_ m σ (pk_ w b (Int32.ofNat n)) < M
  rw [hst]
  omega
theorem LV_not {D : Nat} {e : Ex_} (h : LV_ D e) (hD : 1 ≤ D) : LV_ D (notE_ e) := by
  intro m σ M hM
  obtain ⟨h1, h2⟩ := h m σ M hM
  have hp : 2 ^ 1 ≤ 2 ^ D := Nat.pow_le_pow_right (by omega) hD
  have hp2 : 2 * (σ + 1) ≤ 2 ^ D * (σ + 1) := Nat.mul_le_mul_right _ hp
  have hst : rst_ m (2 * σ + (e.2 m).toNat) 0 = 2 * σ + (!(e.2 m)).toNat := by
    show 2 * ((2 * σ + (e.2 m).toNat) / 2) + (1 - (2 * σ + (e.2 m).toNat) % 2) = _
    cases e.2 m
    · show 2 * ((2 * σ + 0) / 2) + (1 - (2 * σ + 0) % 2) = 2 * σ + 1; omega
    · show 2 * ((2 * σ + 1) / 2) + (1 - (2 * σ + 1) % 2) = 2 * σ + 0; omega
  have hv : (!(e.2 m)).toNat ≤ 1 := Bool.toNat_le _
  have hv2 : (e.2 m).toNat ≤ 1 := Bool.toNat_le _
  refine ⟨bnd_app h1 ?_, ?_⟩
  · rw [h2]
    refine ⟨by omega, ?_⟩
    show rst_ m (2 * σ + (e.2 m).toNat) 0 < M
    rw [hst]; omega
  · show (e.1 ++ [0]).foldl (rst_ m) σ = _
    rw [List.foldl_append, h2]
    exact hst
theorem LV_bin {D D' : Nat} {a b : Ex_} {c : Int32} {v : Bool → Bool → Bool} (ha : LV_ D a) (hb : LV_ D' b) (hD : D ≤ D' + 1) (hc : ∀ (m : Nat → Int) (σ : Nat) (x y : Bool), rst_ m (2 * (2 * σ + x.toNat) + y.toNat) c = 2 * σ + (v x y).toNat) : LV_ (D' + 1) (a.1 ++ b.1 ++ [c], fun m => v (a.2 m) (b.2 m)) := by
  intro m σ M hM
  have hp : 2 ^ D ≤ 2 ^ (D' + 1) := Nat.pow_le_pow_right (by omega) hD
  have hp2 : 2 ^ D * (σ + 1) ≤ 2 ^ (D' + 1) * (σ + 1) := Nat.mul_le_mul_right _ hp
  have hva : (a.2 m).toNat ≤ 1 := Bool.toNat_le _
  have hvb : (b.2 m).toNat ≤ 1 := Bool.toNat_le _
  have hvc : (v (a.2 m) (b.2 m)).toNat ≤ 1 := Bool.toNat_le _
  obtain ⟨h1, h2⟩ := ha m σ M (by omega)
  have hle : 2 ^ D' * (2 * σ + (a.2 m).toNat + 1) ≤ 2 ^ (D' + 1) * (σ + 1) := by
    rw [Nat.pow_succ, Nat.mul_assoc]
    exact Nat.mul_le_mul_left _ (by omega)
  obtain ⟨h3, h4⟩ := hb m (2 * σ + (a.2 m).toNat) M (by omega)
  have hpos : 1 ≤ 2 ^ D' := Nat.two_pow_pos _
  have h5 : 2 * (σ + 1) ≤ 2 ^ (D' + 1) * (σ + 1) := by
    refine Nat.mul_le_mul_right _ ?_
    rw [Nat.pow_succ]; omega
  have hst := hc m σ (a.2 m) (b.2 m)
  have hlast : bnd_ m M ([] : List Int32) (2 * (2 * σ + (a.2 m).toNat) + (b.2 m).toNat) := by
    have : ∀ (l : List Int32) (σ : Nat), bnd_ m M l σ → l.foldl (rst_ m) σ < M := by
      intro l
      induction l with
      | nil => intro σ h; exact h
      | cons x l ih => intro σ h; exact ih _ h.2
    have := this b.1 _ h3
    rw [h4] at this
    exact this
  refine ⟨bnd_app (bnd_app h1 (by rw [h2]; exact h3)) ?_, ?_⟩
  · rw [List.foldl_append, h2, h4]
    refine ⟨hlast, ?_⟩
    show rst_ m (2 * (2 * σ + (a.2 m).toNat) + (b.2 m).toNat) c < M
    rw [hst]; omega
  · show (a.1 ++ b.1 ++ [c]).foldl (rst_ m) σ = _
    rw [List.foldl_append, List.foldl_append, h2, h4]
    exact hst
theorem LV_and {D D' : Nat} {a b : Ex_} (ha : LV_ D a) (hb : LV_ D' b) (hD : D ≤ D' + 1) : LV_ (D' + 1) (andE_ a b) := LV_bin (c := 1) (v := fun x y => x && y) ha hb hD (fun m σ x y => by
  show 2 * ((2 * (2 * σ + x.toNat) + y.toNat) / 4) + (if (2 * (2 * σ + x.toNat) + y.toNat) / 2 % 2 = 1 ∧ (2 * (2 * σ + x.toNat) + y.toNat) % 2 = 1 then 1 else 0) = _
  cases x <;> cases y
  · show 2 * ((2 * (2 * σ + 0) + 0) / 4) + (if (2 * (2 * σ + 0) + 0) / 2 % 2 = 1 ∧ (2 * (2 * σ + 0) + 0) % 2 = 1 then 1 else 0) = 2 * σ + 0
    rw [if_neg (by omega)]; omega
  · show 2 * ((2 * (2 * σ + 0) + 1) / 4) + (if (2 * (2 * σ + 0) + 1) / 2 % 2 = 1 ∧ (2 * (2 * σ + 0) + 1) % 2 = 1 then 1 else 0) = 2 * σ + 0
    rw [if_neg (by omega)]; omega
  · show 2 * ((2 * (2 * σ + 1) + 0) / 4) + (if (2 * (2 * σ + 1) + 0) / 2 % 2 = 1 ∧ (2 * (2 * σ + 1) + 0) % 2 = 1 then 1 else 0) = 2 * σ + 0
    rw [if_neg (by omega)]; omega
  · show 2 * ((2 * (2 * σ + 1) + 1) / 4) + (if (2 * (2 * σ + 1) + 1) / 2 % 2 = 1 ∧ (2 * (2 * σ + 1) + 1) % 2 = 1 then 1 else 0) = 2 * σ + 1
    rw [if_pos (by omega)]; omega)
theorem LV_or {D D' : Nat} {a b : Ex_} (ha : LV_ D a) (hb : LV_ D' b) (hD : D ≤ D' + 1) : LV_ (D' + 1) (orE_ a b) := LV_bin (c := 2) (v := fun x y => x || y) ha hb hD (fun m σ x y => by
  show 2 * ((2 * (2 * σ + x.toNat) + y.toNat) / 4) + (if (2 * (2 * σ + x.toNat) + y.toNat) / 2 % 2 = 1 ∨ (2 * (2 * σ + x.toNat) + y.toNat) % 2 = 1 then 1 else 0) = _
  cases x <;> cases y
  · show 2 * ((2 * (2 * σ + 0) + 0) / 4) + (if (2 * (2 * σ + 0) + 0) / 2 % 2 = 1 ∨ (2 * (2 * σ + 0) + 0) % 2 = 1 then 1 else 0) = 2 * σ + 0
    rw [if_neg (by omega)]; omega
  · show 2 * ((2 * (2 * σ + 0) + 1) / 4) + (if (2 * (2 * σ + 0) + 1) / 2 % 2 = 1 ∨ (2 * (2 * σ + 0) + 1) % 2 = 1 then 1 else 0) = 2 * σ + 1
    rw [if_pos (by omega)]; omega
  · show 2 * ((2 * (2 * σ + 1) + 0) / 4) + (if (2 * (2 * σ + 1) + 0) / 2 % 2 = 1 ∨ (2 * (2 * σ + 1) + 0) % 2 = 1 then 1 else 0) = 2 * σ + 1
    rw [if_pos (by omega)]; omega
  · show 2 * ((2 * (2 * σ + 1) + 1) / 4) + (if (2 * (2 * σ + 1) + 1) / 2 % 2 = 1 ∨ (2 * (2 * σ + 1) + 1) % 2 = 1 then 1 else 0) = 2 * σ + 1
    rw [if_pos (by omega)]; omega)
theorem LV_up {D D' : Nat} {e : Ex_} (h : LV_ D e) (hD : D ≤ D') : LV_ D' e := by
  intro m σ M hM
  have hp : 2 ^ D ≤ 2 ^ D' := Nat.pow_le_pow_right (by omega) hD
  have hp2 : 2 ^ D * (σ + 1) ≤ 2 ^ D' * (σ + 1) := Nat.mul_le_mul_right _ hp
  exact h m σ M (by omega)
theorem psm_ok (hf : ∀ k, f ≤ k → S k = 0) (hW : ∀ k, S k = 2 → ∃ n, W k = Int32.ofNat n ∧ n < 1000000) (hS : ∀ k, S k < 25) (hk : k ≤ f) : PO_ f k 1 (psm_ S W k) := by
  have lt : ∀ k, S k ≠ 0 → k < f := fun k z => by
    rcases Nat.lt_or_ge k f with y | y
    · exact y
    · exact absurd (hf k y) z
  unfold psm_
  by_cases q1 : S k = 18
  · rw [if_pos q1]
    have := lt k (by omega)
    exact ⟨by omega, by omega, by show k + 1 ≤ k + 1; omega, LV_cmp (n := 1) (by decide) (by decide)⟩
  · rw [if_neg q1]
    by_cases q2 : S k < 20
    · rw [if_pos q2]; exact ⟨Nat.le_refl _, hk, Or.inl rfl⟩
    · rw [if_neg q2]
      have h1 := lt k (by omega)
      by_cases q3 : S (k + 1) = 7 ∨ S (k + 1) = 8
      · rw [if_pos q3]
        have h2 := lt (k + 1) (by omega)
        by_cases q4 : S (k + 2) = 2
        · rw [if_pos q4]
          have h3 := lt (k + 2) (by omega)
          have hw : ∀ s, s < 25 → wof_ s < 7 := by decide +kernel
          obtain ⟨n, en, hn⟩ := hW _ q4
          rw [en]
          exact ⟨by omega, by omega, by show k + 1 ≤ k + 3; omega, LV_cmp (hw _ (hS k)) hn⟩
        · rw [if_neg q4]; exact ⟨by omega, by omega, Or.inl rfl⟩
      · rw [if_neg q3]; exact ⟨by omega, by omega, Or.inl rfl⟩
theorem plp_ok {t D : Nat} {mk : Ex_ → Ex_ → Ex_} {sub : Nat → PR_} (ht : t ≠ 0) (hf : ∀ k, f ≤ k → S k = 0) (hm : ∀ a b : Ex_, (mk a b).1.length = a.1.length + b.1.length + 1 ∧ ∀ D, LV_ (D + 1) a → LV_ D b → LV_ (D + 1) (mk a b)) (hsub : ∀ k, k ≤ f → PO_ f k D (sub k)) : ∀ (m : Nat) (e : Ex_) (k0 k : Nat), k0 < k → k ≤ f → k0 + e.1.length ≤ k → LV_ (D + 1) e → PO_ f k0 (D + 1) (plp_ S t mk sub m e k) := by
  intro m
  induction m with
  | zero => intro e k0 k h1 h2 h3 h4; exact ⟨h1, h2, h3, h4⟩
  | succ m ih =>
    intro e k0 k h1 h2 h3 h4
    show PO_ f k0 (D + 1) (if S k = t then (match sub (k + 1) with | .inl x => .inl x | .inr (e2, k2) => plp_ S t mk sub m (mk e e2) k2) else .inr (e, k))
    by_cases q : S k = t
    · rw [if_pos q]
      have hlt : k < f := by
        rcases Nat.lt_or_ge k f with y | y
        · exact y
        · rw [hf k y] at q; exact absurd q.symm ht
      have hs := hsub (k + 1) hlt
      cases hr : sub (k + 1) with
      | inl x =>
        obtain ⟨c, k1⟩ := x
        rw [hr] at hs
        obtain ⟨a1, a2, a3⟩ := hs
        exact ⟨by omega, a2, a3⟩
      | inr x =>
        obtain ⟨e2, k2⟩ := x
        rw [hr] at hs
        obtain ⟨a1, a2, a3, a4⟩ := hs
        obtain ⟨b1, b2⟩ := hm e e2
        exact ih (mk e e2) k0 k2 (by omega) a2 (by omega) (b2 D h4 a4)
    · rw [if_neg q]; exact ⟨h1, h2, h3, h4⟩
theorem pst_ok {t D : Nat} {mk : Ex_ → Ex_ → Ex_} {sub : Nat → PR_} (ht : t ≠ 0) (hf : ∀ k, f ≤ k → S k = 0) (hm : ∀ a b : Ex_, (mk a b).1.length = a.1.length + b.1.length + 1 ∧ ∀ D, LV_ (D + 1) a → LV_ D b → LV_ (D + 1) (mk a b)) (hsub : ∀ k, k ≤ f → PO_ f k D (sub k)) (hk : k ≤ f) : PO_ f k (D + 1) (pst_ S t mk sub k) := by
  unfold pst_
  have hs := hsub k hk
  cases hr : sub k with
  | inl x =>
    obtain ⟨c, k1⟩ := x
    rw [hr] at hs
    exact hs
  | inr x =>
    obtain ⟨e, k1⟩ := x
    rw [hr] at hs
    obtain ⟨a1, a2, a3, a4⟩ := hs
    exact plp_ok ht hf hm hsub 800 e k k1 a1 a2 a3 (LV_up a4 (by omega))
theorem mk_and (a b : Ex_) : (andE_ a b).1.length = a.1.length + b.1.length + 1 ∧ ∀ D, LV_ (D + 1) a → LV_ D b → LV_ (D + 1) (andE_ a b) := ⟨by show (a.1 ++ b.1 ++ [1]).length = _; rw [List.length_append, List.length_append]; rfl, fun D x y => LV_and x y (Nat.le_refl _)⟩
theorem mk_or (a b : Ex_) : (orE_ a b).1.length = a.1.length + b.1.length + 1 ∧ ∀ D, LV_ (D + 1) a → LV_ D b → LV_ (D + 1) (orE_ a b) := ⟨by show (a.1 ++ b.1 ++ [2]).length = _; rw [List.length_append, List.length_append]; rfl, fun D x y => LV_or x y (Nat.le_refl _)⟩
theorem pF_ok (hf : ∀ k, f ≤ k → S k = 0) (hW : ∀ k, S k = 2 → ∃ n, W k = Int32.ofNat n ∧ n < 1000000) (hS : ∀ k, S k < 25) : ∀ (n k : Nat), k ≤ f → PO_ f k (1 + 2 * n) (pF_ S W n k) := by
  have lt : ∀ k, S k ≠ 0 → k < f := fun k z => by
    rcases Nat.lt_or_ge k f with y | y
    · exact y
    · exact absurd (hf k y) z
  have up : ∀ {D D' k : Nat} {r : PR_}, D ≤ D' → PO_ f k D r → PO_ f k D' r := by
    intro D D' k r hle h
    cases r with
    | inl x => obtain ⟨c, k1⟩ := x; exact h
    | inr x => obtain ⟨e, k1⟩ := x; obtain ⟨a1, a2, a3, a4⟩ := h; exact ⟨a1, a2, a3, LV_up a4 hle⟩
  intro n
  induction n with
  | zero =>
    intro k hk
    show PO_ f k 1 (if S k = 17 ∨ S k = 4 then .inl (2, k) else psm_ S W k)
    by_cases q : S k = 17 ∨ S k = 4
    · rw [if_pos q]; exact ⟨Nat.le_refl _, hk, Or.inr rfl⟩
    · rw [if_neg q]; exact psm_ok hf hW hS hk
  | succ n ih =>
    intro k hk
    show PO_ f k (1 + 2 * (n + 1)) (if S k = 17 ∨ S k = 4 then (if S k = 4 then (match pst_ S 15 orE_ (pst_ S 16 andE_ (pF_ S W n)) (k + 1) with | .inl x => .inl x | .inr (e, k1) => if S k1 = 5 then .inr (e, k1 + 1) else .inl (1, k1)) else (match pF_ S W n (k + 1) with | .inl x => .inl x | .inr (e, k1) => .inr (notE_ e, k1))) else psm_ S W k)
    by_cases q : S k = 17 ∨ S k = 4
    · have hlt := lt k (by omega)
      rw [if_pos q]
      by_cases q2 : S k = 4
      · rw [if_pos q2]
        have hE := pst_ok (k := k + 1) (t := 15) (by decide) hf mk_or (fun k hk => pst_ok (t := 16) (by decide) hf mk_and ih hk) hlt
        cases hr : pst_ S 15 orE_ (pst_ S 16 andE_ (pF_ S W n)) (k + 1) with
        | inl x =>
          obtain ⟨c, k1⟩ := x
          rw [hr] at hE
          obtain ⟨a1, a2, a3⟩ := hE
          exact ⟨by omega, a2, a3⟩
        | inr x =>
          obtain ⟨e, k1⟩ := x
          rw [hr] at hE
          obtain ⟨a1, a2, a3, a4⟩ := hE
          show PO_ f k (1 + 2 * (n + 1)) (if S k1 = 5 then .inr (e, k1 + 1) else .inl (1, k1))
          by_cases q3 : S k1 = 5
          · rw [if_pos q3]
            have := lt k1 (by omega)
            exact ⟨by omega, by omega, by omega, LV_up a4 (by omega)⟩
          · rw [if_neg q3]; exact ⟨by omega, a2, Or.inl rfl⟩
      · rw [if_neg q2]
        have hF := ih (k + 1) hlt
        cases hr : pF_ S W n (k + 1) with
        | inl x =>
          obtain ⟨c, k1⟩ := x
          rw [hr] at hF
          obtain ⟨a1, a2, a3⟩ := hF
          exact ⟨by omega, a2, a3⟩
        | inr x =>
          obtain ⟨e, k1⟩ := x
          rw [hr] at hF
          obtain ⟨a1, a2, a3, a4⟩ := hF
          refine ⟨by omega, a2, ?_, LV_up (LV_not a4 (by omega)) (by omega)⟩
          show k + (e.1 ++ [0]).length ≤ k1
          rw [List.length_append]
          show k + (e.1.length + 1) ≤ k1
          omega
    · rw [if_neg q]; exact up (by omega) (psm_ok hf hW hS hk)
theorem pT_ok (hf : ∀ k, f ≤ k → S k = 0) (hW : ∀ k, S k = 2 → ∃ n, W k = Int32.ofNat n ∧ n < 1000000) (hS : ∀ k, S k < 25) (n k : Nat) (hk : k ≤ f) : PO_ f k (2 + 2 * n) (pT_ S W n k) := by
  have := pst_ok (k := k) (t := 16) (by decide) hf mk_and (pF_ok hf hW hS n) hk
  rw [show 1 + 2 * n + 1 = 2 + 2 * n by omega] at this
  exact this
theorem pE_ok (hf : ∀ k, f ≤ k → S k = 0) (hW : ∀ k, S k = 2 → ∃ n, W k = Int32.ofNat n ∧ n < 1000000) (hS : ∀ k, S k < 25) (n k : Nat) (hk : k ≤ f) : PO_ f k (3 + 2 * n) (pE_ S W n k) := by
  have := pst_ok (k := k) (t := 15) (by decide) hf mk_or (pT_ok hf hW hS n) hk
  rw [show 2 + 2 * n + 1 = 3 + 2 * n by omega] at this
  exact this
end PAR
