/-! rules of V, an instruction each -/
/-- .. and no 'new' -/
def pl2_ (i : Instr) : Bool := match i with
  | .new _ => false
  | i => pln_ i
theorem pl2_of {i : Instr} (h : pl2_ i = true) : pln_ i = true ∧ ∀ x, i ≠ .new x := by
  cases i <;> first | exact ⟨h, fun x e => by cases e⟩ | (cases h; done)
section VINS
variable {xs : Nat → Int32} {d m pc : Nat} {ls st : List AV} {h : AH} {Q : OU_ → AH → Prop}
theorem V_plain {len : Nat} {i : Instr} {pc' : Nat} {ls' st' : List AV} {h' : AH} (hd : decode (cod_ m) pc = .ok (i, len)) (hk0 : lok_ i len = true) (hp : pl2_ i = true) (he : ex_ xs m pc len i ls st h = some (pc', ls', st', h')) : V_ xs d m pc ls st h Q ↔ V_ xs d m pc' ls' st' h' Q := by
  exact V_ex hd hk0 (pl2_of hp).1 (thr_no hd (pl2_of hp).2) he
theorem V_const {len : Nat} {i : Instr} {v : AV} (hd : decode (cod_ m) pc = .ok (i, len)) (hk0 : lok_ i len = true) (hp : pl2_ i = true) (hv : exc_ i = some v) : V_ xs d m pc ls st h Q ↔ V_ xs d m (pc + len) ls (v :: st) h Q :=
  V_plain hd hk0 hp (by unfold ex_; rw [hv])
theorem V_poolk {x len : Nat} {i : Instr} {v : AV} (hd : decode (cod_ m) pc = .ok (i, len)) (hk0 : lok_ i len = true) (hi : i = .ldc x ∨ i = .ldc_w x ∨ i = .ldc2_w x ∨ i = .getstatic x) (hv : exk_ (kap_ m) i = some v) : V_ xs d m pc ls st h Q ↔ V_ xs d m (pc + len) ls (v :: st) h Q := by
  rcases hi with rfl | rfl | rfl | rfl <;> exact V_plain hd hk0 rfl (by unfold ex_; rw [hv]; rfl)
theorem V_load {len : Nat} {i : Instr} {v : AV} (hd : decode (cod_ m) pc = .ok (i, len)) (hk0 : lok_ i len = true) (hp : pl2_ i = true) (hc : exc_ i = none) (hv : exl_ i ls = some v) : V_ xs d m pc ls st h Q ↔ V_ xs d m (pc + len) ls (v :: st) h Q :=
  V_plain hd hk0 hp (by unfold ex_; rw [hc]; dsimp only; rw [hv])
theorem V_arith {len : Nat} {i : Instr} {st' : List AV} (hd : decode (cod_ m) pc = .ok (i, len)) (hk0 : lok_ i len = true) (hp : pl2_ i = true) (hc : exc_ i = none) (hl : exl_ i ls = none) (hv : exa_ i st = some st') : V_ xs d m pc ls st h Q ↔ V_ xs d m (pc + len) ls st' h Q :=
  V_plain hd hk0 hp (by unfold ex_; rw [hc]; dsimp only; rw [hl]; dsimp only; rw [hv])
theorem V_store {len : Nat} {i : Instr} {ls' st' : List AV} (hd : decode (cod_ m) pc = .ok (i, len)) (hk0 : lok_ i len = true) (hp : pl2_ i = true) (hc : exc_ i = none) (hl : exl_ i ls = none) (ha : exa_ i st = none) (hv : exs_ (lgs_ m) i ls st = some (ls', st')) : V_ xs d m pc ls st h Q ↔ V_ xs d m (pc + len) ls' st' h Q :=
  V_plain hd hk0 hp (by unfold ex_; rw [hc]; dsimp only; rw [hl]; dsimp only; rw [ha]; dsimp only; rw [hv])
theorem V_goto {o : Int} {t : Nat} (hd : decode (cod_ m) pc = .ok (.goto o, 3)) (ht : (pc : Int) + o = (t : Int)) : V_ xs d m pc ls st h Q ↔ V_ xs d m t ls st h Q :=
  V_plain hd rfl rfl (by unfold ex_; simp [exc_, exl_, exa_, exs_, exj_, tk_, tg_, ht])
theorem ex_if {c : ClassFile.Cond} {o : Int} {t : Nat} {x : Int32} (ht : (pc : Int) + o = (t : Int)) : ex_ xs m pc 3 (.ifCond c o) ls (.inl x :: st) h = some ((if cb_ c x 0 = true then t else pc + 3), ls, st, h) := by
  unfold ex_
  by_cases q : cb_ c x 0 = true <;> simp [exc_, exl_, exa_, exs_, exj_, tk_, tg_, ht, q]
theorem ex_icmp {c : ClassFile.Cond} {o : Int} {t : Nat} {x y : Int32} (ht : (pc : Int) + o = (t : Int)) : ex_ xs m pc 3 (.if_icmp c o) ls (.inl y :: .inl x :: st) h = some ((if cb_ c x y = true then t else pc + 3), ls, st, h) := by
  unfold ex_
  by_cases q : cb_ c x y = true <;> simp [exc_, exl_, exa_, exs_, exj_, tk_, tg_, ht, q]
theorem V_ite {c : Prop} (hc : Decidable c) {a b : Nat} : V_ xs d m (if c then a else b) ls st h Q ↔ (if c then V_ xs d m a ls st h Q else V_ xs d m b ls st h Q) := by split <;> exact Iff.rfl
theorem V_ifeq {o : Int} {t : Nat} {x : Int32} (hd : decode (cod_ m) pc = .ok (.ifCond .eq o, 3)) (ht : (pc : Int) + o = (t : Int)) : V_ xs d m pc ls (.inl x :: st) h Q ↔ (if x = 0 then V_ xs d m t ls st h Q else V_ xs d m (pc + 3) ls st h Q) := by
  rw [V_plain hd rfl rfl (ex_if ht)]
  by_cases q : x = 0 <;> simp [cb_, q]
theorem V_ifne {o : Int} {t : Nat} {x : Int32} (hd : decode (cod_ m) pc = .ok (.ifCond .ne o, 3)) (ht : (pc : Int) + o = (t : Int)) : V_ xs d m pc ls (.inl x :: st) h Q ↔ (if x = 0 then V_ xs d m (pc + 3) ls st h Q else V_ xs d m t ls st h Q) := by
  rw [V_plain hd rfl rfl (ex_if ht)]
  by_cases q : x = 0 <;> simp [cb_, q]
theorem V_iflt {o : Int} {t : Nat} {x : Int32} (hd : decode (cod_ m) pc = .ok (.ifCond .lt o, 3)) (ht : (pc : Int) + o = (t : Int)) : V_ xs d m pc ls (.inl x :: st) h Q ↔ (if x < 0 then V_ xs d m t ls st h Q else V_ xs d m (pc + 3) ls st h Q) := by
  rw [V_plain hd rfl rfl (ex_if ht)]
  by_cases q : x < 0 <;> simp [cb_, q]
theorem i_ge {x y : Int32} : y ≤ x ↔ ¬ x < y := by
  simp only [Int32.le_iff_toInt_le, Int32.lt_iff_toInt_lt]; omega
theorem V_ifge {o : Int} {t : Nat} {x : Int32} (hd : decode (cod_ m) pc = .ok (.ifCond .ge o, 3)) (ht : (pc : Int) + o = (t : Int)) : V_ xs d m pc ls (.inl x :: st) h Q ↔ (if x < 0 then V_ xs d m (pc + 3) ls st h Q else V_ xs d m t ls st h Q) := by
  rw [V_plain hd rfl rfl (ex_if ht)]
  have e : cb_ .ge x 0 = true ↔ ¬ x < 0 := by unfold cb_; rw [decide_eq_true_iff]; exact i_ge
  by_cases q : x < 0
  · rw [if_neg (fun z => (e.mp z) q), if_pos q]
  · rw [if_pos (e.mpr q), if_neg q]
theorem V_ifgt {o : Int} {t : Nat} {x : Int32} (hd : decode (cod_ m) pc = .ok (.ifCond .gt o, 3)) (ht : (pc : Int) + o = (t : Int)) : V_ xs d m pc ls (.inl x :: st) h Q ↔ (if 0 < x then V_ xs d m t ls st h Q else V_ xs d m (pc + 3) ls st h Q) := by
  rw [V_plain hd rfl rfl (ex_if ht)]
  by_cases q : 0 < x <;> simp [cb_, q]
theorem V_ifle {o : Int} {t : Nat} {x : Int32} (hd : decode (cod_ m) pc = .ok (.ifCond .le o, 3)) (ht : (pc : Int) + o = (t : Int)) : V_ xs d m pc ls (.inl x :: st) h Q ↔ (if 0 < x then V_ xs d m (pc + 3) ls st h Q else V_ xs d m t ls st h Q) := by
  rw [V_plain hd rfl rfl (ex_if ht)]
  have e : cb_ .le x 0 = true ↔ ¬ 0 < x := by unfold cb_; rw [decide_eq_true_iff]; exact i_ge
  by_cases q : 0 < x
  · rw [if_neg (fun z => (e.mp z) q), if_pos q]
  · rw [if_pos (e.mpr q), if_neg q]
theorem V_iceq {o : Int} {t : Nat} {x y : Int32} (hd : decode (cod_ m) pc = .ok (.if_icmp .eq o, 3)) (ht : (pc : Int) + o = (t : Int)) : V_ xs d m pc ls (.inl y :: .inl x :: st) h Q ↔ (if x = y then V_ xs d m t ls st h Q else V_ xs d m (pc + 3) ls st h Q) := by
  rw [V_plain hd rfl rfl (ex_icmp ht)]
  by_cases q : x = y <;> simp [cb_, q]
theorem V_icne {o : Int} {t : Nat} {x y : Int32} (hd : decode (cod_ m) pc = .ok (.if_icmp .ne o, 3)) (ht : (pc : Int) + o = (t : Int)) : V_ xs d m pc ls (.inl y :: .inl x :: st) h Q ↔ (if x = y then V_ xs d m (pc + 3) ls st h Q else V_ xs d m t ls st h Q) := by
  rw [V_plain hd rfl rfl (ex_icmp ht)]
  by_cases q : x = y <;> simp [cb_, q]
theorem V_iclt {o : Int} {t : Nat} {x y : Int32} (hd : decode (cod_ m) pc = .ok (.if_icmp .lt o, 3)) (ht : (pc : Int) + o = (t : Int)) : V_ xs d m pc ls (.inl y :: .inl x :: st) h Q ↔ (if x < y then V_ xs d m t ls st h Q else V_ xs d m (pc + 3) ls st h Q) := by
  rw [V_plain hd rfl rfl (ex_icmp ht)]
  by_cases q : x < y <;> simp [cb_, q]
theorem V_icge {o : Int} {t : Nat} {x y : Int32} (hd : decode (cod_ m) pc = .ok (.if_icmp .ge o, 3)) (ht : (pc : Int) + o = (t : Int)) : V_ xs d m pc ls (.inl y :: .inl x :: st) h Q ↔ (if x < y then V_ xs d m (pc + 3) ls st h Q else V_ xs d m t ls st h Q) := by
  rw [V_plain hd rfl rfl (ex_icmp ht)]
  have e : cb_ .ge x y = true ↔ ¬ x < y := by unfold cb_; rw [decide_eq_true_iff]; exact i_ge
  by_cases q : x < y
  · rw [if_neg (fun z => (e.mp z) q), if_pos q]
  · rw [if_pos (e.mpr q), if_neg q]
theorem V_icgt {o : Int} {t : Nat} {x y : Int32} (hd : decode (cod_ m) pc = .ok (.if_icmp .gt o, 3)) (ht : (pc : Int) + o = (t : Int)) : V_ xs d m pc ls (.inl y :: .inl x :: st) h Q ↔ (if y < x then V_ xs d m t ls st h Q else V_ xs d m (pc + 3) ls st h Q) := by
  rw [V_plain hd rfl rfl (ex_icmp ht)]
  by_cases q : y < x <;> simp [cb_, q]
theorem V_icle {o : Int} {t : Nat} {x y : Int32} (hd : decode (cod_ m) pc = .ok (.if_icmp .le o, 3)) (ht : (pc : Int) + o = (t : Int)) : V_ xs d m pc ls (.inl y :: .inl x :: st) h Q ↔ (if y < x then V_ xs d m (pc + 3) ls st h Q else V_ xs d m t ls st h Q) := by
  rw [V_plain hd rfl rfl (ex_icmp ht)]
  have e : cb_ .le x y = true ↔ ¬ y < x := by unfold cb_; rw [decide_eq_true_iff]; exact i_ge
  by_cases q : y < x
  · rw [if_neg (fun z => (e.mp z) q), if_pos q]
  · rw [if_pos (e.mpr q), if_neg q]
theorem V_ifnull {o : Int} {t : Nat} {x : Option Nat} (hd : decode (cod_ m) pc = .ok (.ifnull o, 3)) (ht : (pc : Int) + o = (t : Int)) : V_ xs d m pc ls (.inr (.inr (.inl x)) :: st) h Q ↔ (if x = none then V_ xs d m t ls st h Q else V_ xs d m (pc + 3) ls st h Q) := by
  have e : ex_ xs m pc 3 (.ifnull o) ls (.inr (.inr (.inl x)) :: st) h = some ((if x = none then t else pc + 3), ls, st, h) := by
    unfold ex_
    by_cases q : x = none <;> simp [exc_, exl_, exa_, exs_, exj_, tk_, tg_, ht, q]
  rw [V_plain hd rfl rfl e]
  by_cases q : x = none <;> simp [q]
theorem V_ifnonnull {o : Int} {t : Nat} {x : Option Nat} (hd : decode (cod_ m) pc = .ok (.ifnonnull o, 3)) (ht : (pc : Int) + o = (t : Int)) : V_ xs d m pc ls (.inr (.inr (.inl x)) :: st) h Q ↔ (if x = none then V_ xs d m (pc + 3) ls st h Q else V_ xs d m t ls st h Q) := by
  have e : ex_ xs m pc 3 (.ifnonnull o) ls (.inr (.inr (.inl x)) :: st) h = some ((if x = none then pc + 3 else t), ls, st, h) := by
    unfold ex_
    by_cases q : x = none <;> simp [exc_, exl_, exa_, exs_, exj_, tk_, tg_, ht, q]
  rw [V_plain hd rfl rfl e]
  by_cases q : x = none <;> simp [q]
theorem V_acmpeq {o : Int} {t : Nat} {x y : Option Nat} (hd : decode (cod_ m) pc = .ok (.if_acmp .eq o, 3)) (ht : (pc : Int) + o = (t : Int)) (hx : tkb_ x = true) (hy : tkb_ y = true) : V_ xs d m pc ls (.inr (.inr (.inl y)) :: .inr (.inr (.inl x)) :: st) h Q ↔ (if x = y then V_ xs d m t ls st h Q else V_ xs d m (pc + 3) ls st h Q) := by
  have e : ex_ xs m pc 3 (.if_acmp .eq o) ls (.inr (.inr (.inl y)) :: .inr (.inr (.inl x)) :: st) h = some ((if x = y then t else pc + 3), ls, st, h) := by
    unfold ex_
    by_cases q : x = y <;> simp [exc_, exl_, exa_, exs_, exj_, tk_, tg_, ht, q, hx, hy, ca_]
  rw [V_plain hd rfl rfl e]
  by_cases q : x = y <;> simp [q]
theorem V_acmpne {o : Int} {t : Nat} {x y : Option Nat} (hd : decode (cod_ m) pc = .ok (.if_acmp .ne o, 3)) (ht : (pc : Int) + o = (t : Int)) (hx : tkb_ x = true) (hy : tkb_ y = true) : V_ xs d m pc ls (.inr (.inr (.inl y)) :: .inr (.inr (.inl x)) :: st) h Q ↔ (if x = y then V_ xs d m (pc + 3) ls st h Q else V_ xs d m t ls st h Q) := by
  have e : ex_ xs m pc 3 (.if_acmp .ne o) ls (.inr (.inr (.inl y)) :: .inr (.inr (.inl x)) :: st) h = some ((if x = y then pc + 3 else t), ls, st, h) := by
    unfold ex_
    by_cases q : x = y <;> simp [exc_, exl_, exa_, exs_, exj_, tk_, tg_, ht, q, hx, hy, ca_]
  rw [V_plain hd rfl rfl e]
  by_cases q : x = y <;> simp [q]
theorem V_tswIn {dl lo hi : Int} {os : Array Int} {len t : Nat} {x : Int32} {o : Int} (hd : decode (cod_ m) pc = .ok (.tableswitch dl lo hi os, len)) (h1 : ¬ (x.toInt < lo ∨ hi < x.toInt)) (ho : os[(x.toInt - lo).toNat]? = some o) (ht : (pc : Int) + o = (t : Int)) : V_ xs d m pc ls (.inl x :: st) h Q ↔ V_ xs d m t ls st h Q := by
  refine V_plain hd rfl rfl ?_
  unfold ex_
  simp only [exc_, exl_, exa_, exs_, exj_]
  rw [if_neg h1, ho]
  simp [tk_, tg_, ht]
theorem V_tswOut {dl lo hi : Int} {os : Array Int} {len t : Nat} {x : Int32} (hd : decode (cod_ m) pc = .ok (.tableswitch dl lo hi os, len)) (h1 : x.toInt < lo ∨ hi < x.toInt) (ht : (pc : Int) + dl = (t : Int)) : V_ xs d m pc ls (.inl x :: st) h Q ↔ V_ xs d m t ls st h Q := by
  refine V_plain hd rfl rfl ?_
  unfold ex_
  simp only [exc_, exl_, exa_, exs_, exj_]
  rw [if_pos h1]
  simp [tk_, tg_, ht]
/-- a rule of the heap: what it asks, and what goes on -/
theorem V_heap {len : Nat} {i : Instr} {c : Prop} {st' : List AV} {h' : AH} (hd : decode (cod_ m) pc = .ok (i, len)) (hk0 : lok_ i len = true) (hp : pl2_ i = true) (hc : exc_ i = none) (hl : exl_ i ls = none) (ha : exa_ i st = none) (hs : exs_ (lgs_ m) i ls st = none) (hj : exj_ pc i st = none) (hk : exk_ (kap_ m) i = none)
    (ht : c → exh_ xs (kap_ m) ((nam_ m).name == "<init>") i st h = some (st', h')) (hf : ¬ c → exh_ xs (kap_ m) ((nam_ m).name == "<init>") i st h = none) : V_ xs d m pc ls st h Q ↔ (c ∧ V_ xs d m (pc + len) ls st' h' Q) := by
  have e : ∀ r, exh_ xs (kap_ m) ((nam_ m).name == "<init>") i st h = r → ex_ xs m pc len i ls st h = r.map (fun q => (pc + len, ls, q.1, q.2)) := by
    intro r hr
    unfold ex_
    rw [hc]; dsimp only; rw [hl]; dsimp only; rw [ha]; dsimp only; rw [hs]; dsimp only; rw [hj]; dsimp only; rw [hk]; dsimp only; rw [hr]
    cases r <;> rfl
  have hn : thr_ m pc = false := thr_no hd (pl2_of hp).2
  by_cases q : c
  · rw [V_ex hd hk0 (pl2_of hp).1 hn (e _ (ht q))]
    exact ⟨fun z => ⟨q, z⟩, fun z => z.2⟩
  · rw [V_exN hd hk0 (pl2_of hp).1 hn (e _ (hf q))]
    exact ⟨False.elim, fun z => q z.1⟩
theorem V_getI {x kk p t j a : Nat} (hd : decode (cod_ m) pc = .ok (.getfield x, 3)) (hf : fld_ (kap_ m) x = some (kk, p, t, j)) (ht : t ≠ 1 ∧ t ≠ 2) (hk : kk < 16) : V_ xs d m pc ls (.inr (.inr (.inl (some a))) :: st) h Q ↔ (kd_ a = kk ∧ V_ xs d m (pc + 3) ls (.inl (hI_ h a p) :: st) h Q) := by
  refine V_heap hd rfl rfl rfl rfl rfl rfl rfl rfl (fun q => ?_) (fun q => ?_) <;> (unfold exh_; dsimp only; rw [hf]; dsimp only)
  · rw [if_pos q, if_pos hk, if_neg ht.1, if_neg ht.2]
  · rw [if_neg q]
theorem V_getL {x kk p j a : Nat} (hd : decode (cod_ m) pc = .ok (.getfield x, 3)) (hf : fld_ (kap_ m) x = some (kk, p, 1, j)) (hk : kk < 16) : V_ xs d m pc ls (.inr (.inr (.inl (some a))) :: st) h Q ↔ (kd_ a = kk ∧ V_ xs d m (pc + 3) ls (.inr (.inl (hL_ h a p)) :: st) h Q) := by
  refine V_heap hd rfl rfl rfl rfl rfl rfl rfl rfl (fun q => ?_) (fun q => ?_) <;> (unfold exh_; dsimp only; rw [hf]; dsimp only)
  · rw [if_pos q, if_pos hk, if_pos rfl]
  · rw [if_neg q]
theorem V_getR {x kk p j a : Nat} (hd : decode (cod_ m) pc = .ok (.getfield x, 3)) (hf : fld_ (kap_ m) x = some (kk, p, 2, j)) (hk : kk < 16) : V_ xs d m pc ls (.inr (.inr (.inl (some a))) :: st) h Q ↔ (kd_ a = kk ∧ V_ xs d m (pc + 3) ls (.inr (.inr (.inl (hR_ h a p))) :: st) h Q) := by
  refine V_heap hd rfl rfl rfl rfl rfl rfl rfl rfl (fun q => ?_) (fun q => ?_) <;> (unfold exh_; dsimp only; rw [hf]; dsimp only)
  · rw [if_pos q, if_pos hk, if_neg (by decide), if_pos rfl]
  · rw [if_neg q]
theorem V_getCI {x kk p t j a : Nat} (hd : decode (cod_ m) pc = .ok (.getfield x, 3)) (hf : fld_ (kap_ m) x = some (kk, p, t, j)) (ht : t ≠ 2) (hk : ¬ kk < 16) : V_ xs d m pc ls (.inr (.inr (.inl (some a))) :: st) h Q ↔ (kd_ a = kk ∧ V_ xs d m (pc + 3) ls (.inl (cI_ a p) :: st) h Q) := by
  refine V_heap hd rfl rfl rfl rfl rfl rfl rfl rfl (fun q => ?_) (fun q => ?_) <;> (unfold exh_; dsimp only; rw [hf]; dsimp only)
  · rw [if_pos q, if_neg hk, if_neg ht]
  · rw [if_neg q]
theorem V_getCR {x kk p j a : Nat} (hd : decode (cod_ m) pc = .ok (.getfield x, 3)) (hf : fld_ (kap_ m) x = some (kk, p, 2, j)) (hk : ¬ kk < 16) : V_ xs d m pc ls (.inr (.inr (.inl (some a))) :: st) h Q ↔ (kd_ a = kk ∧ V_ xs d m (pc + 3) ls (.inr (.inr (.inl (cR_ a p))) :: st) h Q) := by
  refine V_heap hd rfl rfl rfl rfl rfl rfl rfl rfl (fun q => ?_) (fun q => ?_) <;> (unfold exh_; dsimp only; rw [hf]; dsimp only)
  · rw [if_pos q, if_neg hk, if_pos rfl]
  · rw [if_neg q]
theorem V_putI {x kk p t j a : Nat} {y : Int32} (hd : decode (cod_ m) pc = .ok (.putfield x, 3)) (hf : fld_ (kap_ m) x = some (kk, p, t, j)) (ht : t ≠ 1 ∧ t ≠ 2) (hk : kk < 16) (hfin : (fnl_ kk p = false ∨ ((nam_ m).name == "<init>") = true ∧ kap_ m = kk)) : V_ xs d m pc ls (.inl y :: .inr (.inr (.inl (some a))) :: st) h Q ↔ ((kd_ a = kk ∧ nb_ t y = true) ∧ V_ xs d m (pc + 3) ls st (uI_ h a (st_ (hI_ h a) p y)) Q) := by
  refine V_heap hd rfl rfl rfl rfl rfl rfl rfl rfl (fun q => ?_) (fun q => ?_) <;> (unfold exh_; dsimp only; rw [hf]; dsimp only)
  · rw [if_pos ⟨q.1, hk, hfin⟩, if_pos ⟨ht.1, ht.2, q.2⟩]
  · by_cases q1 : kd_ a = kk
    · rw [if_pos ⟨q1, hk, hfin⟩, if_neg (fun z => q ⟨q1, z.2.2⟩)]
    · rw [if_neg (fun z => q1 z.1)]
theorem V_putL {x kk p j a : Nat} {y : Int64} (hd : decode (cod_ m) pc = .ok (.putfield x, 3)) (hf : fld_ (kap_ m) x = some (kk, p, 1, j)) (hk : kk < 16) (hfin : (fnl_ kk p = false ∨ ((nam_ m).name == "<init>") = true ∧ kap_ m = kk)) : V_ xs d m pc ls (.inr (.inl y) :: .inr (.inr (.inl (some a))) :: st) h Q ↔ (kd_ a = kk ∧ V_ xs d m (pc + 3) ls st (uL_ h a (st_ (hL_ h a) p y)) Q) := by
  refine V_heap hd rfl rfl rfl rfl rfl rfl rfl rfl (fun q => ?_) (fun q => ?_) <;> (unfold exh_; dsimp only; rw [hf]; dsimp only)
  · rw [if_pos ⟨q, hk, hfin⟩, if_pos rfl]
  · rw [if_neg (fun z => q z.1)]
theorem V_putR {x kk p j a : Nat} {y : Option Nat} (hd : decode (cod_ m) pc = .ok (.putfield x, 3)) (hf : fld_ (kap_ m) x = some (kk, p, 2, j)) (hk : kk < 16) (hfin : (fnl_ kk p = false ∨ ((nam_ m).name == "<init>") = true ∧ kap_ m = kk)) : V_ xs d m pc ls (.inr (.inr (.inl y)) :: .inr (.inr (.inl (some a))) :: st) h Q ↔ (kd_ a = kk ∧ V_ xs d m (pc + 3) ls st (uR_ h a (st_ (hR_ h a) p y)) Q) := by
  refine V_heap hd rfl rfl rfl rfl rfl rfl rfl rfl (fun q => ?_) (fun q => ?_) <;> (unfold exh_; dsimp only; rw [hf]; dsimp only)
  · rw [if_pos ⟨q, hk, hfin⟩, if_pos rfl]
  · rw [if_neg (fun z => q z.1)]
/-- an index is in its row -/
def ix_ (i : Int32) (n : Nat) : Prop := 0 ≤ i.toInt ∧ i.toInt < n
theorem inb_iff {i : Int32} {n : Nat} : inb_ i n = true ↔ ix_ i n := by
  unfold inb_ ix_
  rw [Bool.and_eq_true, decide_eq_true_iff, decide_eq_true_iff]
theorem V_iald {a : Nat} {i : Int32} (hd : decode (cod_ m) pc = .ok (.iaload, 1)) (hk : kd_ a = 16) : V_ xs d m pc ls (.inl i :: .inr (.inr (.inl (some a))) :: st) h Q ↔ (ix_ i (ln_ a) ∧ V_ xs d m (pc + 1) ls (.inl (hI_ h a i.toNatClampNeg) :: st) h Q) := by
  refine V_heap hd rfl rfl rfl rfl rfl rfl rfl rfl (fun q => ?_) (fun q => ?_) <;> (unfold exh_; dsimp only)
  · rw [if_pos (inb_iff.mpr q), if_pos hk]
  · rw [if_neg (fun z => q (inb_iff.mp z))]
theorem V_iaxs {a : Nat} {i : Int32} (hd : decode (cod_ m) pc = .ok (.iaload, 1)) (hk : kd_ a = 36) : V_ xs d m pc ls (.inl i :: .inr (.inr (.inl (some a))) :: st) h Q ↔ (ix_ i (ln_ a) ∧ V_ xs d m (pc + 1) ls (.inl (xs i.toNatClampNeg) :: st) h Q) := by
  refine V_heap hd rfl rfl rfl rfl rfl rfl rfl rfl (fun q => ?_) (fun q => ?_) <;> (unfold exh_; dsimp only)
  · rw [if_pos (inb_iff.mpr q), if_neg (by rw [hk]; decide), if_pos hk]
  · rw [if_neg (fun z => q (inb_iff.mp z))]
theorem V_bald {a : Nat} {i : Int32} (hd : decode (cod_ m) pc = .ok (.baload, 1)) (hk : kd_ a = 17 ∨ kd_ a = 18) : V_ xs d m pc ls (.inl i :: .inr (.inr (.inl (some a))) :: st) h Q ↔ (ix_ i (ln_ a) ∧ V_ xs d m (pc + 1) ls (.inl (hI_ h a i.toNatClampNeg) :: st) h Q) := by
  refine V_heap hd rfl rfl rfl rfl rfl rfl rfl rfl (fun q => ?_) (fun q => ?_) <;> (unfold exh_; dsimp only)
  · rw [if_pos (inb_iff.mpr q), if_pos hk]
  · rw [if_neg (fun z => q (inb_iff.mp z))]
theorem V_baldC {a : Nat} {i : Int32} (hd : decode (cod_ m) pc = .ok (.baload, 1)) (hk : kd_ a = 34) : V_ xs d m pc ls (.inl i :: .inr (.inr (.inl (some a))) :: st) h Q ↔ (ix_ i (ln_ a) ∧ V_ xs d m (pc + 1) ls (.inl (cI_ a i.toNatClampNeg) :: st) h Q) := by
  refine V_heap hd rfl rfl rfl rfl rfl rfl rfl rfl (fun q => ?_) (fun q => ?_) <;> (unfold exh_; dsimp only)
  · rw [if_pos (inb_iff.mpr q), if_neg (by rw [hk]; decide), if_pos hk]
  · rw [if_neg (fun z => q (inb_iff.mp z))]
theorem V_lald {a : Nat} {i : Int32} (hd : decode (cod_ m) pc = .ok (.laload, 1)) (hk : kd_ a = 19) : V_ xs d m pc ls (.inl i :: .inr (.inr (.inl (some a))) :: st) h Q ↔ (ix_ i (ln_ a) ∧ V_ xs d m (pc + 1) ls (.inr (.inl (hL_ h a i.toNatClampNeg)) :: st) h Q) := by
  refine V_heap hd rfl rfl rfl rfl rfl rfl rfl rfl (fun q => ?_) (fun q => ?_) <;> (unfold exh_; dsimp only)
  · rw [if_pos ⟨inb_iff.mpr q, hk⟩]
  · rw [if_neg (fun z => q (inb_iff.mp z.1))]
theorem V_aald {a : Nat} {i : Int32} (hd : decode (cod_ m) pc = .ok (.aaload, 1)) (hk : kd_ a = 20 ∨ kd_ a = 21 ∨ kd_ a = 22) : V_ xs d m pc ls (.inl i :: .inr (.inr (.inl (some a))) :: st) h Q ↔ (ix_ i (ln_ a) ∧ V_ xs d m (pc + 1) ls (.inr (.inr (.inl (hR_ h a i.toNatClampNeg))) :: st) h Q) := by
  refine V_heap hd rfl rfl rfl rfl rfl rfl rfl rfl (fun q => ?_) (fun q => ?_) <;> (unfold exh_; dsimp only)
  · rw [if_pos (inb_iff.mpr q), if_pos hk]
  · rw [if_neg (fun z => q (inb_iff.mp z))]
theorem V_aaldC {a : Nat} {i : Int32} (hd : decode (cod_ m) pc = .ok (.aaload, 1)) (hk : kd_ a = 35) : V_ xs d m pc ls (.inl i :: .inr (.inr (.inl (some a))) :: st) h Q ↔ (ix_ i (ln_ a) ∧ V_ xs d m (pc + 1) ls (.inr (.inr (.inl (cR_ a i.toNatClampNeg))) :: st) h Q) := by
  refine V_heap hd rfl rfl rfl rfl rfl rfl rfl rfl (fun q => ?_) (fun q => ?_) <;> (unfold exh_; dsimp only)
  · rw [if_pos (inb_iff.mpr q), if_neg (by rw [hk]; decide), if_pos hk]
  · rw [if_neg (fun z => q (inb_iff.mp z))]
theorem V_iast {a : Nat} {i v : Int32} (hd : decode (cod_ m) pc = .ok (.iastore, 1)) (hk : kd_ a = 16) : V_ xs d m pc ls (.inl v :: .inl i :: .inr (.inr (.inl (some a))) :: st) h Q ↔ (ix_ i (ln_ a) ∧ V_ xs d m (pc + 1) ls st (uI_ h a (st_ (hI_ h a) i.toNatClampNeg v)) Q) := by
  refine V_heap hd rfl rfl rfl rfl rfl rfl rfl rfl (fun q => ?_) (fun q => ?_) <;> (unfold exh_; dsimp only)
  · rw [if_pos ⟨inb_iff.mpr q, hk⟩]
  · rw [if_neg (fun z => q (inb_iff.mp z.1))]
theorem V_bast {a : Nat} {i v : Int32} (hd : decode (cod_ m) pc = .ok (.bastore, 1)) (hk : kd_ a = 17 ∧ nb_ 4 v = true ∨ kd_ a = 18 ∧ nb_ 3 v = true) : V_ xs d m pc ls (.inl v :: .inl i :: .inr (.inr (.inl (some a))) :: st) h Q ↔ (ix_ i (ln_ a) ∧ V_ xs d m (pc + 1) ls st (uI_ h a (st_ (hI_ h a) i.toNatClampNeg v)) Q) := by
  refine V_heap hd rfl rfl rfl rfl rfl rfl rfl rfl (fun q => ?_) (fun q => ?_) <;> (unfold exh_; dsimp only)
  · rw [if_pos ⟨inb_iff.mpr q, hk⟩]
  · rw [if_neg (fun z => q (inb_iff.mp z.1))]
theorem V_last {a : Nat} {i : Int32} {v : Int64} (hd : decode (cod_ m) pc = .ok (.lastore, 1)) (hk : kd_ a = 19) : V_ xs d m pc ls (.inr (.inl v) :: .inl i :: .inr (.inr (.inl (some a))) :: st) h Q ↔ (ix_ i (ln_ a) ∧ V_ xs d m (pc + 1) ls st (uL_ h a (st_ (hL_ h a) i.toNatClampNeg v)) Q) := by
  refine V_heap hd rfl rfl rfl rfl rfl rfl rfl rfl (fun q => ?_) (fun q => ?_) <;> (unfold exh_; dsimp only)
  · rw [if_pos ⟨inb_iff.mpr q, hk⟩]
  · rw [if_neg (fun z => q (inb_iff.mp z.1))]
theorem V_aast {a : Nat} {i : Int32} {v : Option Nat} (hd : decode (cod_ m) pc = .ok (.aastore, 1)) (hk : kd_ a = 20 ∧ ok1_ 0 v = true ∨ kd_ a = 21 ∧ ok1_ 4 v = true ∨ kd_ a = 22 ∧ ok1_ 32 v = true) : V_ xs d m pc ls (.inr (.inr (.inl v)) :: .inl i :: .inr (.inr (.inl (some a))) :: st) h Q ↔ (ix_ i (ln_ a) ∧ V_ xs d m (pc + 1) ls st (uR_ h a (st_ (hR_ h a) i.toNatClampNeg v)) Q) := by
  refine V_heap hd rfl rfl rfl rfl rfl rfl rfl rfl (fun q => ?_) (fun q => ?_) <;> (unfold exh_; dsimp only)
  · rw [if_pos ⟨inb_iff.mpr q, hk⟩]
  · rw [if_neg (fun z => q (inb_iff.mp z.1))]
theorem V_alen {a : Nat} (hd : decode (cod_ m) pc = .ok (.arraylength, 1)) (hk : 16 ≤ kd_ a ∧ kd_ a ≤ 22 ∨ 34 ≤ kd_ a ∧ kd_ a ≤ 36) : V_ xs d m pc ls (.inr (.inr (.inl (some a))) :: st) h Q ↔ V_ xs d m (pc + 1) ls (.inl (Int32.ofNat (ln_ a)) :: st) h Q := by
  have e : ex_ xs m pc 1 .arraylength ls (.inr (.inr (.inl (some a))) :: st) h = some (pc + 1, ls, .inl (Int32.ofNat (ln_ a)) :: st, h) := by
    unfold ex_
    simp only [exc_, exl_, exa_, exs_, exj_, exk_, exh_]
    rw [if_pos hk]
  exact V_plain hd rfl rfl e
theorem V_newa {t : ArrayType} {n : Int32} {N k : Nat} (hd : decode (cod_ m) pc = .ok (.newarray t, 2)) (hk : arr_ t = k) (hk2 : k < 63) (hn : n.toInt = (N : Int)) (hN : N < 4096) : V_ xs d m pc ls (.inl n :: st) h Q ↔ V_ xs d m (pc + 2) ls (.inr (.inr (.inl (some (mk_ (nx_ h) k N)))) :: st) (nw_ h k N N) Q := by
  have hc : n.toNatClampNeg = N := by unfold Int32.toNatClampNeg; rw [hn]; rfl
  have e : ex_ xs m pc 2 (.newarray t) ls (.inl n :: st) h = some (pc + 2, ls, .inr (.inr (.inl (some (mk_ (nx_ h) k N)))) :: st, nw_ h k N N) := by
    unfold ex_
    simp only [exc_, exl_, exa_, exs_, exj_, exk_, exh_]
    rw [if_pos ⟨by omega, by rw [hc]; exact hN, by rw [hk]; exact hk2⟩, hc, hk]
  exact V_plain hd rfl rfl e
theorem V_anew {x c j : Nat} {n : Int32} {N k : Nat} (hd : decode (cod_ m) pc = .ok (.anewarray x, 3)) (hx : cls_ (kap_ m) x = some (c, j)) (hk : c = 0 ∧ k = 20 ∨ c = 4 ∧ k = 21 ∨ c = 32 ∧ k = 22) (hn : n.toInt = (N : Int)) (hN : N < 4096) : V_ xs d m pc ls (.inl n :: st) h Q ↔ V_ xs d m (pc + 3) ls (.inr (.inr (.inl (some (mk_ (nx_ h) k N)))) :: st) (nw_ h k N N) Q := by
  have hc : n.toNatClampNeg = N := by unfold Int32.toNatClampNeg; rw [hn]; rfl
  have hkk : (if c = 0 then 20 else if c = 4 then 21 else 22) = k := by rcases hk with ⟨rfl, rfl⟩ | ⟨rfl, rfl⟩ | ⟨rfl, rfl⟩ <;> rfl
  have hcc : c = 0 ∨ c = 4 ∨ c = 32 := by omega
  have e : ex_ xs m pc 3 (.anewarray x) ls (.inl n :: st) h = some (pc + 3, ls, .inr (.inr (.inl (some (mk_ (nx_ h) k N)))) :: st, nw_ h k N N) := by
    unfold ex_
    simp only [exc_, exl_, exa_, exs_, exj_, exk_, exh_, hx]
    rw [if_pos ⟨by omega, by rw [hc]; exact hN, hcc⟩, hc, hkk]
  exact V_plain hd rfl rfl e
theorem V_new {x c j N : Nat} (hd : decode (cod_ m) pc = .ok (.new x, 3)) (ht : thr_ m pc = false) (hx : cls_ (kap_ m) x = some (c, j)) (hk : c < 16) (hN : nfl_ c = N) : V_ xs d m pc ls st h Q ↔ V_ xs d m (pc + 3) ls (.inr (.inr (.inl (some (mk_ (nx_ h) c 0)))) :: st) (nw_ h c 0 N) Q := by
  have e : ex_ xs m pc 3 (.new x) ls st h = some (pc + 3, ls, .inr (.inr (.inl (some (mk_ (nx_ h) c 0)))) :: st, nw_ h c 0 N) := by
    unfold ex_
    simp only [exc_, exl_, exa_, exs_, exj_, exk_, exh_, hx]
    rw [if_pos hk, hN]
  exact V_ex hd rfl rfl ht e
theorem V_throw {x : Nat} (hd : decode (cod_ m) pc = .ok (.new x, 3)) (ht : thr_ m pc = true) : V_ xs d m pc ls [] h Q ↔ Q none (xh_ h) := by
  rw [V_one]
  unfold run_
  rw [hd]
  constructor
  · rintro ⟨n, o, hh, h1, h2⟩
    dsimp only at h1
    rw [if_pos (show lok_ (.new x) 3 = true from rfl), if_pos ht] at h1
    cases h1
    exact h2
  · intro h2
    exact ⟨0, _, _, by dsimp only; rw [if_pos (show lok_ (.new x) 3 = true from rfl), if_pos ht], h2⟩
theorem V_objinit {x a j z : Nat} (hd : decode (cod_ m) pc = .ok (.invokespecial x, 3)) (hm : mth_ (kap_ m) x = some (1000, j, z)) (h0 : 0 < d) (hk : kd_ a < 16) (hs : (st.map acat_).sum ≤ 8) : V_ xs d m pc ls (.inr (.inr (.inl (some a))) :: st) h Q ↔ V_ xs d m (pc + 3) ls st h Q := by
  have e : ∀ n, run_ xs (n + 1) d m pc ls (.inr (.inr (.inl (some a))) :: st) h = run_ xs n d m (pc + 3) ls st h := by
    intro n
    conv => lhs; unfold run_
    rw [hd]
    dsimp only
    rw [if_pos (show lok_ (.invokespecial x) 3 = true from rfl), hm]
    unfold cal_
    dsimp only
    rw [if_pos rfl, if_pos ⟨rfl, hk, hs, h0⟩]
  rw [V_one]
  simp only [e]
  exact Iff.rfl
theorem V_callS {x q j z : Nat} (as : List AV) (hd : decode (cod_ m) pc = .ok (.invokestatic x, 3)) (hm : mth_ (kap_ m) x = some (q, j, z)) (h3 : as.length = nar_ q) (hpk : pok_ q as = true) (hq : (decide (q < 200) && (cty_ 0 q && decide (rcv_ q = 99))) = true) : V_ xs d m pc ls (as.reverse ++ st) h Q ↔ (0 < d ∧ (st.map acat_).sum ≤ 8 ∧ V_ xs (d - 1) q 0 (ent_ as (mxl_ q)) [] h (K_ xs d m (pc + 3) ls st Q)) := by
  simp only [Bool.and_eq_true, decide_eq_true_iff] at hq
  obtain ⟨h1, h2, h4⟩ := hq
  have hl : (as.reverse).length = nar_ q := by rw [List.length_reverse]; exact h3
  rw [V_cal (q := q) (j := j) (z := z) (ct := 0) (fun n => by conv => lhs; unfold run_
                                                              rw [hd]; dsimp only; rw [if_pos (show lok_ (.invokestatic x) 3 = true from rfl), hm]) h1 h2 (by rw [List.length_append, hl]; omega) (by rw [← hl, List.take_left, List.reverse_reverse]; exact hpk)]
  rw [← hl, List.drop_left, List.take_left, List.reverse_reverse, h4]
  simp [rok_]
theorem rok_v {k a : Nat} {as : List AV} (h4 : k ≠ 99) : rok_ k ((as ++ [.inr (.inr (.inl (some a)))]) ++ st) (as ++ [.inr (.inr (.inl (some a)))] : List AV).length = true ↔ kd_ a = k := by
  unfold rok_
  rw [if_neg h4, List.take_left, List.getLast?_concat]
  simp
theorem V_callV {x q j z a : Nat} (as : List AV) (hd : decode (cod_ m) pc = .ok (.invokevirtual x, 3)) (hm : mth_ (kap_ m) x = some (q, j, z)) (h3 : as.length + 1 = nar_ q) (hpk : pok_ q (.inr (.inr (.inl (some a))) :: as) = true) (hq : (decide (q < 200) && (cty_ 1 q && decide (rcv_ q ≠ 99))) = true) : V_ xs d m pc ls (as.reverse ++ .inr (.inr (.inl (some a))) :: st) h Q ↔ (0 < d ∧ (st.map acat_).sum ≤ 8 ∧ kd_ a = rcv_ q ∧ V_ xs (d - 1) q 0 (ent_ (.inr (.inr (.inl (some a))) :: as) (mxl_ q)) [] h (K_ xs d m (pc + 3) ls st Q)) := by
  simp only [Bool.and_eq_true, decide_eq_true_iff] at hq
  obtain ⟨h1, h2, h4⟩ := hq
  have hl : (as.reverse ++ [.inr (.inr (.inl (some a)))] : List AV).length = nar_ q := by rw [List.length_append, List.length_reverse]; exact h3
  have hst : (as.reverse ++ .inr (.inr (.inl (some a))) :: st : List AV) = (as.reverse ++ [.inr (.inr (.inl (some a)))]) ++ st := by simp
  rw [hst, V_cal (q := q) (j := j) (z := z) (ct := 1) (fun n => by conv => lhs; unfold run_
                                                                   rw [hd]; dsimp only; rw [if_pos (show lok_ (.invokevirtual x) 3 = true from rfl), hm]) h1 h2 (by rw [List.length_append, hl]; omega) (by rw [← hl, List.take_left, List.reverse_append, List.reverse_reverse]; exact hpk)]
  rw [← hl, List.drop_left, rok_v h4, List.take_left, List.reverse_append, List.reverse_reverse]
  exact Iff.rfl
theorem V_callI {x q j z a : Nat} (as : List AV) (hd : decode (cod_ m) pc = .ok (.invokespecial x, 3)) (hm : mth_ (kap_ m) x = some (q, j, z)) (h3 : as.length + 1 = nar_ q) (hpk : pok_ q (.inr (.inr (.inl (some a))) :: as) = true) (hq : (decide (q < 200) && (cty_ 2 q && decide (rcv_ q ≠ 99))) = true) : V_ xs d m pc ls (as.reverse ++ .inr (.inr (.inl (some a))) :: st) h Q ↔ (0 < d ∧ (st.map acat_).sum ≤ 8 ∧ kd_ a = rcv_ q ∧ V_ xs (d - 1) q 0 (ent_ (.inr (.inr (.inl (some a))) :: as) (mxl_ q)) [] h (K_ xs d m (pc + 3) ls st Q)) := by
  simp only [Bool.and_eq_true, decide_eq_true_iff] at hq
  obtain ⟨h1, h2, h4⟩ := hq
  have hl : (as.reverse ++ [.inr (.inr (.inl (some a)))] : List AV).length = nar_ q := by rw [List.length_append, List.length_reverse]; exact h3
  have hst : (as.reverse ++ .inr (.inr (.inl (some a))) :: st : List AV) = (as.reverse ++ [.inr (.inr (.inl (some a)))]) ++ st := by simp
  rw [hst, V_cal (q := q) (j := j) (z := z) (ct := 2) (fun n => by conv => lhs; unfold run_
                                                                   rw [hd]; dsimp only; rw [if_pos (show lok_ (.invokespecial x) 3 = true from rfl), hm]) h1 h2 (by rw [List.length_append, hl]; omega) (by rw [← hl, List.take_left, List.reverse_append, List.reverse_reverse]; exact hpk)]
  rw [← hl, List.drop_left, rok_v h4, List.take_left, List.reverse_append, List.reverse_reverse]
  exact Iff.rfl
theorem K_v {v : AV} {h' : AH} : K_ xs d m pc ls st Q (some (some v)) h' ↔ V_ xs d m pc ls (v :: st) h' Q := Iff.rfl
theorem K_0 {h' : AH} : K_ xs d m pc ls st Q (some none) h' ↔ V_ xs d m pc ls st h' Q := Iff.rfl
theorem V_putI0 {x kk p j a : Nat} {y : Int32} (hd : decode (cod_ m) pc = .ok (.putfield x, 3)) (hf : fld_ (kap_ m) x = some (kk, p, 0, j)) (hk : kk < 16) (hfin : (fnl_ kk p = false ∨ ((nam_ m).name == "<init>") = true ∧ kap_ m = kk)) : V_ xs d m pc ls (.inl y :: .inr (.inr (.inl (some a))) :: st) h Q ↔ (kd_ a = kk ∧ V_ xs d m (pc + 3) ls st (uI_ h a (st_ (hI_ h a) p y)) Q) := by
  rw [V_putI hd hf ⟨by decide, by decide⟩ hk hfin]
  simp [nb_]
theorem nb_3 {y : Int32} : nb_ 3 y = true ↔ (y = 0 ∨ y = 1) := by simp [nb_]
theorem V_iret0 {x : Int32} (hd : decode (cod_ m) pc = .ok (.ireturn, 1)) (hr : rty_ m = some .int) : V_ xs d m pc ls [.inl x] h Q ↔ Q (some (some (.inl x))) h := by
  rw [V_iret hd, hr]
  simp [rb_]
theorem V_iretZ {x : Int32} (hd : decode (cod_ m) pc = .ok (.ireturn, 1)) (hr : rty_ m = some .boolean) : V_ xs d m pc ls [.inl x] h Q ↔ ((x = 0 ∨ x = 1) ∧ Q (some (some (.inl x))) h) := by
  rw [V_iret hd, hr]
  simp [rb_]
theorem V_idiv {x y : Int32} (hd : decode (cod_ m) pc = .ok (.idiv, 1)) (hy : ¬ y = 0) : V_ xs d m pc ls (.inl y :: .inl x :: st) h Q ↔ V_ xs d m (pc + 1) ls (.inl (x / y) :: st) h Q :=
  V_arith hd rfl rfl rfl rfl (by show (if y = 0 then none else some _) = _; rw [if_neg hy])
theorem V_irem {x y : Int32} (hd : decode (cod_ m) pc = .ok (.irem, 1)) (hy : ¬ y = 0) : V_ xs d m pc ls (.inl y :: .inl x :: st) h Q ↔ V_ xs d m (pc + 1) ls (.inl (x - x / y * y) :: st) h Q :=
  V_arith hd rfl rfl rfl rfl (by show (if y = 0 then none else some _) = _; rw [if_neg hy])
theorem V_ldiv {x y : Int64} (hd : decode (cod_ m) pc = .ok (.ldiv, 1)) (hy : ¬ y = 0) : V_ xs d m pc ls (.inr (.inl y) :: .inr (.inl x) :: st) h Q ↔ V_ xs d m (pc + 1) ls (.inr (.inl (x / y)) :: st) h Q :=
  V_arith hd rfl rfl rfl rfl (by show (if y = 0 then none else some _) = _; rw [if_neg hy])
end VINS

