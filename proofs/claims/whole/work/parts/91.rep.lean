/-! what the small machine's state says of the machine's -/
def cv_ (ad : Nat → Nat) (op : Value) (v : AV) : Value := match v with
  | .inl x => .int x
  | .inr (.inl x) => .long x
  | .inr (.inr (.inl o)) => va_rf (o.map ad)
  | .inr (.inr (.inr _)) => op
theorem va_rf_cat (o : Option Nat) : (va_rf o).category = 1 := by cases o <;> rfl
theorem cv_cat {ad : Nat → Nat} {op : Value} (hop : op.category = 1) (v : AV) : (cv_ ad op v).category = acat_ v := by
  rcases v with x | x | x | x
  · rfl
  · rfl
  · exact va_rf_cat _
  · exact hop
theorem cv_sum {ad : Nat → Nat} {op : Value} (hop : op.category = 1) (st : List AV) : ((st.map (cv_ ad op)).map fun v => v.category).sum = (st.map acat_).sum := by
  rw [List.map_map]
  congr 1
  apply List.map_congr_left
  intro v _
  exact cv_cat hop v
def tok_ (i : Nat) : Nat := (i + 1) * 262144 + 32
def tka_ : Nat := (23 * 4096 + 22) * 64 + 35
def scr_ (L : Nat) : Nat := L * 64 + 36
def strs_ : List Nat := (List.range 36).map (fun i => ((24 + i) * 4096 + (txt_.getD i []).length) * 64 + 33)
def byts_ : List Nat := (List.range 36).map (fun i => ((60 + i) * 4096 + (txt_.getD i []).length) * 64 + 34)
def cids_ (L : Nat) : List Nat := scr_ L :: ((List.range 22).map tok_ ++ (tka_ :: (strs_ ++ byts_)))
def A_ (B0 : Nat) : Nat → Prop := fun q => B0 ≤ q
/-- a reference that stands for a cell -/
def vl_ (L : Nat) (h : AH) (b : Nat) : Prop := sr_ b < nx_ h ∧ (kd_ b < 32 → b ∈ ids_ h) ∧ (32 ≤ kd_ b → kd_ b = 40 ∨ b ∈ cids_ L)
def vc_ (L : Nat) (h : AH) (v : AV) : Prop := ∀ b, v = .inr (.inr (.inl (some b))) → vl_ L h b
def fs_ (ad : Nat → Nat) (h : AH) (a : Nat) : List Value := (List.range (nfl_ (kd_ a))).map (fun p => if ft_ (kd_ a) p = 1 then .long (hL_ h a p) else if ft_ (kd_ a) p = 2 then va_rf ((hR_ h a p).map ad) else .int (hI_ h a p))
def ce_ (cy : Nat → ClassId) (ad : Nat → Nat) (h : AH) (a : Nat) : va_E := if kd_ a < 16 then .inr (kd_ a, fs_ ad h a) else if kd_ a = 19 then .inl (cy (kd_ a), ln_ a, .inr (.inl (hL_ h a))) else if kd_ a < 19 then .inl (cy (kd_ a), ln_ a, .inl (hI_ h a)) else .inl (cy (kd_ a), ln_ a, .inr (.inr (.inr (.inr (fun j => (hR_ h a j).map ad)))))
def zpc_ (cy : Nat → ClassId) (ad : Nat → Nat) (h : AH) : va_W := (ids_ h).map (fun a => (ad a, ce_ cy ad h a))
def Rp_ (dC : Nat → ClassId) (dI : Nat → Nat → Nat) (cy : Nat → ClassId) (B0 L : Nat) (ad : Nat → Nat) (h : AH) (H : Heap) : Prop :=
  va_P (dC, dI) vwCl (zpc_ cy ad h) H ∧ va_D (A_ B0) (zpc_ cy ad h) ∧ (ids_ h).Nodup ∧ (∀ a ∈ ids_ h, sr_ a < nx_ h ∧ (kd_ a < 9 ∨ 16 ≤ kd_ a ∧ kd_ a ≤ 22)) ∧ (∀ a p b, hR_ h a p = some b → vl_ L h b) ∧ 96 ≤ nx_ h
def tys_ (cy : Nat → ClassId) : List (ClassId × FieldType) := [(cy 16, .int), (cy 17, .byte), (cy 18, .boolean), (cy 19, .long), (cy 20, .object RX0), (cy 21, .object RX4), (cy 22, .object RX6)]
def rtb_ : List (String × Nat × String × Nat) := [("PlayCompanyModel", 265, "may", 12058849), ("PlayCompanyModel", 271, "most", 12321057), ("PlayCompanyModel", 273, "least", 12583265), ("PlayCompanyModel", 274, "pay", 12845281), ("PlayCompanyModel", 276, "if", 13107361), ("PlayCompanyModel", 278, "or", 13369505), ("PlayCompanyModel", 280, "and", 13631713), ("PlayCompanyModel", 282, "not", 13893857), ("PlayCompanyModel", 284, "guest", 14156129), ("PlayCompanyModel", 285, "age", 14418145), ("PlayCompanyModel", 287, "years", 14680417), ("PlayCompanyModel", 289, "fee", 14942433), ("PlayCompanyModel", 290, "grade", 15204705), ("PlayCompanyModel", 291, "roles", 15466849)]
def ntb_ : List (String × Nat) := [("PlayCompany$Play", 37), ("PlayCompany$Ledger", 24), ("PlayCompany$TermReader", 67)]
def NSE_ : String := "java/util/NoSuchElementException"
/-- words of the exception's class that only tables decide -/
def XW_ (U : State) : Prop := (∀ x ∈ ["java/lang/RuntimeException", "java/lang/Exception", "java/lang/Throwable"], va_Nw (.declares (Bundle.init0 x)) U) ∧ va_Nw (.castable NSE_ NSE_) U
theorem XW_.warm {s U : State} (hW : s.WarmedH U.vm) (k : XW_ s) : XW_ U := ⟨fun x hx => va_Nw.warmD hW (k.1 x hx), va_Nw.warmC hW k.2⟩
theorem XW_.same {u U : State} (h : u.vm = U.vm) (k : XW_ u) : XW_ U := ⟨fun x hx => va_Nw.same rfl h (k.1 x hx), va_Nw.same rfl h k.2⟩
/-- the constants: statics, the words' objects, the texts, the script -/
def KC_ (L : Nat) (xs : Nat → Int32) (op : Value) (A : Nat → Prop) (ad : Nat → Nat) (U : State) (H : Heap) : Prop :=
  ((∀ q ∈ stb_, va_Z q.1 q.2.1 q.2.2.1 (cv_ ad op q.2.2.2) A U H) ∧
   (∀ i, i < 22 → va_O RX6 (ad (tok_ i)) A U H ∧ va_OF RX6 "what" "I" (.int (cI_ (tok_ i) 0)) (ad (tok_ i)) A U H ∧ va_OF RX6 "spelling" "Ljava/lang/String;" (va_rf ((cR_ (tok_ i) 1).map ad)) (ad (tok_ i)) A U H) ∧
   (∀ b ∈ strs_, va_O RJ0 (ad b) A U H ∧ va_OF RJ0 "value" "[B" (va_rf ((cR_ b 0).map ad)) (ad b) A U H ∧ va_OF RJ0 "coder" "B" (.int 0) (ad b) A U H) ∧
   (∀ b ∈ byts_, va_T .byte (ad b) (ln_ b) (fun j => .int (cI_ b j)) A U H) ∧
   va_T (.object RX6) (ad tka_) 22 (fun j => va_rf ((cR_ tka_ j).map ad)) A U H ∧
   va_T .int (ad (scr_ L)) L (fun j => .int (xs j)) A U H ∧
   vx_Zq Bundle.tN "UNASSIGNED_STACK" Bundle.steD A U H ∧ vx_Zq Bundle.tN "SUPPRESSED_SENTINEL" Bundle.listD A U H) ∧
  ((∀ q ∈ rtb_, vk_R q.1 q.2.1 q.2.2.1 (ad q.2.2.2) U) ∧ (∀ q ∈ ntb_, va_Nw (.methodLinkNest q.1 q.2 yX8_within RX8) U) ∧ va_AO RX0 U ∧ va_AO RX4 U ∧ va_AO RX6 U ∧ XW_ U) ∧
  ((∀ i j, i < 22 → j < 22 → ad (tok_ i) = ad (tok_ j) → i = j) ∧ op.category = 1)
theorem KC_.moved {L : Nat} {xs : Nat → Int32} {op : Value} {A : Nat → Prop} {ad : Nat → Nat} {u U : State} {H : Heap} (hW : u.WarmedH U.vm) (k : KC_ L xs op A ad u H) : KC_ L xs op A ad U H := by
  obtain ⟨⟨k1, k2, k3, k4, k5, k6, k7, k8⟩, ⟨r1, r2, r3, r4, r5⟩, kk⟩ := k
  have hv := hW.alike
  exact ⟨⟨fun q hq => (k1 q hq).moved hv, fun i hi => ⟨(k2 i hi).1.moved hv, (k2 i hi).2.1.moved hv, (k2 i hi).2.2.moved hv⟩, fun b hb => ⟨(k3 b hb).1.moved hv, (k3 b hb).2.1.moved hv, (k3 b hb).2.2.moved hv⟩, fun b hb => (k4 b hb).moved hv, k5.moved hv, k6.moved hv, k7.moved hv, k8.moved hv⟩,
    ⟨fun q hq => (r1 q hq).warm hW, fun q hq => va_Nw.warmM hW (r2 q hq), r3.moved hv, r4.moved hv, r5.1.moved hv, r5.2.warm hW⟩, kk⟩
theorem KC_.kept {L : Nat} {xs : Nat → Int32} {op : Value} {A : Nat → Prop} {ad : Nat → Nat} {U : State} {H H1 : Heap} (hq : ∀ a : Nat, a < H.size → ¬ A a → H1[a]? = H[a]?) (k : KC_ L xs op A ad U H) : KC_ L xs op A ad U H1 := by
  obtain ⟨⟨k1, k2, k3, k4, k5, k6, k7, k8⟩, kr, kk⟩ := k
  exact ⟨⟨fun q h => (k1 q h).kept hq, fun i hi => ⟨(k2 i hi).1.kept hq, (k2 i hi).2.1.kept hq, (k2 i hi).2.2.kept hq⟩, fun b hb => ⟨(k3 b hb).1.kept hq, (k3 b hb).2.1.kept hq, (k3 b hb).2.2.kept hq⟩, fun b hb => (k4 b hb).kept hq, k5.kept hq, k6.kept hq, k7.kept hq, k8.kept hq⟩, kr, kk⟩
theorem KC_.same {L : Nat} {xs : Nat → Int32} {op : Value} {A : Nat → Prop} {ad : Nat → Nat} {u U : State} {H : Heap} (hv : U.vm = u.vm) (k : KC_ L xs op A ad u H) : KC_ L xs op A ad U H := by
  obtain ⟨⟨k1, k2, k3, k4, k5, k6, k7, k8⟩, ⟨r1, r2, r3, r4, r5⟩, kk⟩ := k
  have ha : u.vm.Alike U.vm := by rw [hv]; exact Vm.Alike.refl _
  exact ⟨⟨fun q hq => (k1 q hq).moved ha, fun i hi => ⟨(k2 i hi).1.moved ha, (k2 i hi).2.1.moved ha, (k2 i hi).2.2.moved ha⟩, fun b hb => ⟨(k3 b hb).1.moved ha, (k3 b hb).2.1.moved ha, (k3 b hb).2.2.moved ha⟩, fun b hb => (k4 b hb).moved ha, k5.moved ha, k6.moved ha, k7.moved ha, k8.moved ha⟩,
    ⟨fun q hq => (r1 q hq).same hv, fun q hq => va_Nw.same rfl hv.symm (r2 q hq), r3.moved ha, r4.moved ha, r5.1.moved ha, r5.2.same hv.symm⟩, kk⟩
theorem cR_sr : (∀ i, i < 22 → (cR_ (tok_ i) 1).all (fun b => sr_ b < 96) = true ∧ sr_ (tok_ i) < 96) := by decide +kernel
theorem strs_sr : strs_.all (fun b => decide (sr_ b < 96) && (cR_ b 0).all (fun c => decide (sr_ c < 96))) = true := by decide +kernel
theorem byts_sr : byts_.all (fun b => decide (sr_ b < 96)) = true := by decide +kernel
theorem stb_sr : stb_.all (fun q => match q.2.2.2 with | .inr (.inr (.inl (some b))) => decide (sr_ b < 96) | _ => true) = true := by decide +kernel
theorem rtb_sr : rtb_.all (fun q => decide (sr_ q.2.2.2 < 96)) = true := by decide +kernel
theorem tka_sr : sr_ tka_ < 96 ∧ ∀ j, j < 22 → (cR_ tka_ j).all (fun b => sr_ b < 96) = true := by decide +kernel
theorem omap_eq {f g : Nat → Nat} {o : Option Nat} (h : ∀ b, o = some b → f b = g b) : o.map f = o.map g := by
  cases o with
  | none => rfl
  | some b => exact congrArg some (h b rfl)
theorem va_T.congr {ty : FieldType} {t N : Nat} {f g : Nat → Value} {A : Nat → Prop} {U : State} {H : Heap} (h : ∀ j, j < N → f j = g j) (k : va_T ty t N f A U H) : va_T ty t N g A U H := by
  obtain ⟨cell, h1, h2, h3, h4, h5, h6, h7⟩ := k
  exact ⟨cell, h1, h2, h3, h4, h5, fun j hj => by rw [h6 j hj, h j hj], h7⟩
/-- the constants don't see where new cells lie -/
theorem KC_.ad {L : Nat} {xs : Nat → Int32} {op : Value} {A : Nat → Prop} {ad ad' : Nat → Nat} {U : State} {H : Heap} (hL : L < 4096) (e : ∀ a, sr_ a < 96 → ad' a = ad a) (k : KC_ L xs op A ad U H) : KC_ L xs op A ad' U H := by
  obtain ⟨⟨k1, k2, k3, k4, k5, k6, k7, k8⟩, ⟨r1, r2, r3, r4, r5⟩, kk, ko⟩ := k
  have et : ∀ i, i < 22 → ad' (tok_ i) = ad (tok_ i) := fun i hi => e _ (cR_sr i hi).2
  have eo : ∀ {o : Option Nat}, o.all (fun b => decide (sr_ b < 96)) = true → o.map ad' = o.map ad := by
    intro o ho
    exact omap_eq (fun b hb => e b (by rw [hb] at ho; simpa using ho))
  refine ⟨⟨fun q hq => ?_, fun i hi => ?_, fun b hb => ?_, fun b hb => ?_, ?_, ?_, k7, k8⟩, ⟨fun q hq => ?_, r2, r3, r4, r5⟩, fun i j hi hj h => kk i j hi hj (by rw [← et i hi, ← et j hj]; exact h), ko⟩
  · have h1 := List.all_eq_true.mp stb_sr q hq
    have h2 := k1 q hq
    rcases hv : q.2.2.2 with x | x | x | x
    · rw [hv] at h2; exact h2
    · rw [hv] at h2; exact h2
    · rw [hv] at h1 h2
      cases x with
      | none => exact h2
      | some b =>
        have hb : ad' b = ad b := e b (by simpa using h1)
        show va_Z q.1 q.2.1 q.2.2.1 (.ref (ad' b)) A U H
        rw [hb]
        exact h2
    · rw [hv] at h2; exact h2
  · rw [et i hi, eo (cR_sr i hi).1]
    exact k2 i hi
  · have h1 := List.all_eq_true.mp strs_sr b hb
    rw [Bool.and_eq_true, decide_eq_true_iff] at h1
    rw [e b h1.1, eo h1.2]
    exact k3 b hb
  · rw [e b (by simpa using List.all_eq_true.mp byts_sr b hb)]
    exact k4 b hb
  · rw [e _ tka_sr.1]
    exact k5.congr (fun j hj => by rw [eo (tka_sr.2 j hj)])
  · rw [e (scr_ L) (by unfold sr_ scr_; omega)]
    exact k6
  · rw [e _ (by simpa using List.all_eq_true.mp rtb_sr q hq)]
    exact r1 q hq
/-- the machine's frame and what the tables say, at a method of ours -/
def Cx_ (p : Program) (l : Launch) (R : Room) (s : State) (m : MethodId) (args : Array Value) (meth : Method) (c : Code) (dC : Nat → ClassId) (dI : Nat → Nat → Nat) (cy : Nat → ClassId) (op : Value) (B0 L : Nat) (xs : Nat → Int32) (q : Nat) : Prop :=
  (p.tables.exec = Jvm.exec ∧ c.code = cod_ q ∧ c.maxLocals = mxl_ q ∧ s.vm.findClass (clnm_ (kap_ q)) = some m.cls ∧ (∀ w ∈ gtb_, w.before args s = true)) ∧ va_K (dC, dI) vwCl (tys_ cy) s ∧ (B0 ≤ s.heap.size ∧ L < 4096 ∧ q < 200) ∧ meth.locks = false ∧ meth.sig.returnType = rty_ q ∧ meth.name = (nam_ q).name ∧ l.stackTraces = false
def Lr_ (ad : Nat → Nat) (op : Value) (nL : Nat) (ls : List AV) (la : Array Slot) : Prop := la.size = nL ∧ lv_wf la ∧ ls.length = nL ∧ ∀ (i : Nat) (v : AV), ls[i]? = some v → v ≠ vX 0 → la[i]? = some (.val (cv_ ad op v))
def Sm_ (p : Program) (l : Launch) (e : Env) (R : Room) (s : State) (m : MethodId) (args : Array Value) (below : List Frame) (meth : Method) (c : Code) (dC : Nat → ClassId) (dI : Nat → Nat → Nat) (cy : Nat → ClassId) (op : Value) (B0 L : Nat) (xs : Nat → Int32) (ad0 : Nat → Nat) (n0 s0 : Nat) (Q : State → Prop) (q pc : Nat) (ls st : List AV) (h : AH) : Prop :=
  ∀ (ad : Nat → Nat) (la : Array Slot) (H : Heap) (locs : List Loc), (∀ a, sr_ a < n0 → ad a = ad0 a) → Rp_ dC dI cy B0 L ad h H → KC_ L xs op (A_ B0) ad s s.heap → Lr_ ad op (mxl_ q) ls la → (∀ v ∈ ls, vc_ L h v) → (∀ v ∈ st, vc_ L h v) → (∀ (i : Nat) (x : Int64), ls[i]? = some (vJ x) → i ∈ lgs_ q) → va_S (A_ B0) s.heap H locs → n0 ≤ nx_ h → s0 ≤ sl_ h →
    W p l e R s m args below meth c H locs (nx_ h - n0) (sl_ h - s0) Q (F0 m pc la (st.map (cv_ ad op)))
