/-! calls -/
def Pc_ (dC : Nat → ClassId) (dI : Nat → Nat → Nat) (cy : Nat → ClassId) (op : Value) (B0 L : Nat) (xs : Nat → Int32) (ad : Nat → Nat) (h : AH) (as : List AV) : Array Value → State → Prop := fun v U => v = (as.map (cv_ ad op)).toArray ∧ Rp_ dC dI cy B0 L ad h U.heap ∧ KC_ L xs op (A_ B0) ad U U.heap ∧ va_K (dC, dI) vwCl (tys_ cy) U ∧ B0 ≤ U.heap.size
def Qc_ (dC : Nat → ClassId) (dI : Nat → Nat → Nat) (cy : Nat → ClassId) (op : Value) (B0 L : Nat) (ad : Nat → Nat) (h : AH) (v : Option AV) (h' : AH) : Array Value → State → Outcome → State → Prop := fun _ st o t => ∃ ad' : Nat → Nat, (∀ a, sr_ a < nx_ h → ad' a = ad a) ∧ o = .returned (v.map (cv_ ad' op)) ∧ Rp_ dC dI cy B0 L ad' h' t.heap ∧ (∀ w, v = some w → vc_ L h' w) ∧ va_F (A_ B0) st t
def ws_ (q : Nat) : List Cond := .code (nam_ q) (cod_ q) (mxl_ q) (rty_ q) :: gtb_
def rm_ (d mc ms : Nat) : Room := { frames := d + 8, cells := mc, slots := ms, locals := 64 * d + 120 }
theorem Pc_blind {dC : Nat → ClassId} {dI : Nat → Nat → Nat} {cy : Nat → ClassId} {op : Value} {B0 L : Nat} {xs : Nat → Int32} {ad : Nat → Nat} {h : AH} {as : List AV} : FrameBlind (Pc_ dC dI cy op B0 L xs ad h as) := by
  intro a U g mk k
  obtain ⟨k1, k2, k3, k4, k5⟩ := k
  exact ⟨k1, k2, k3.same (u := U) (U := U.calling g mk a) rfl, va_K.moved (u := U) (U := U.calling g mk a) (Vm.Alike.refl U.vm) k4, k5⟩
/-- at a return -/
def rin_ (q pc : Nat) (v : Option AV) : Prop := match v with
  | some (.inl x) => decode (cod_ q) pc = .ok (.ireturn, 1) ∧ rb_ (rty_ q) x = true
  | some (.inr (.inl _)) => decode (cod_ q) pc = .ok (.lreturn, 1) ∧ rty_ q = some .long
  | some (.inr (.inr (.inl _))) => decode (cod_ q) pc = .ok (.areturn, 1) ∧ ∃ n, rty_ q = some (.object n)
  | some _ => False
  | none => decode (cod_ q) pc = .ok (.return_, 1) ∧ rty_ q = none
def EdR_ (p : Program) (l : Launch) (e : Env) (R : Room) (s : State) (m : MethodId) (args : Array Value) (below : List Frame) (meth : Method) (c : Code) (dC : Nat → ClassId) (dI : Nat → Nat → Nat) (cy : Nat → ClassId) (op : Value) (B0 L : Nat) (ad0 : Nat → Nat) (n0 s0 : Nat) (Q : State → Prop) (q : Nat) (o : OU_) (h' : AH) : Prop :=
  ∀ (ad : Nat → Nat) (la : Array Slot) (H : Heap) (locs : List Loc) (pcf : Nat) (v : Option AV), (∀ a, sr_ a < n0 → ad a = ad0 a) → Rp_ dC dI cy B0 L ad h' H → va_S (A_ B0) s.heap H locs → o = some v → (∀ w, v = some w → vc_ L h' w) → rin_ q pcf v → W p l e R s m args below meth c H locs (nx_ h' - n0) (sl_ h' - s0) Q (F0 m pcf la ((v.map (cv_ ad op)).toList))
def EdT_ (p : Program) (l : Launch) (e : Env) (R : Room) (s : State) (m : MethodId) (args : Array Value) (below : List Frame) (meth : Method) (c : Code) (dC : Nat → ClassId) (dI : Nat → Nat → Nat) (cy : Nat → ClassId) (op : Value) (B0 L : Nat) (xs : Nat → Int32) (ad0 : Nat → Nat) (n0 s0 : Nat) (Q : State → Prop) (q : Nat) (o : OU_) (h' : AH) : Prop :=
  ∀ (ad : Nat → Nat) (la : Array Slot) (H : Heap) (locs : List Loc) (pcf : Nat) (h : AH), o = none → h' = xh_ h → (∀ a, sr_ a < n0 → ad a = ad0 a) → Rp_ dC dI cy B0 L ad h H → KC_ L xs op (A_ B0) ad s s.heap → va_S (A_ B0) s.heap H locs → la.size = mxl_ q → thr_ q pcf = true → n0 ≤ nx_ h → s0 ≤ sl_ h → W p l e R s m args below meth c H locs (nx_ h - n0) (sl_ h - s0) Q (F0 m pcf la [])
/-- the table of the method's handlers -/
def Xt_ (c : Code) (q : Nat) : Prop := c.exceptionTable.toList = if q = 176 ∨ q = 177 then tableOf hh_ else []
/-- what n units of fuel do, the machine does -/
def SN_ (l : Launch) (dC : Nat → ClassId) (dI : Nat → Nat → Nat) (cy : Nat → ClassId) (op : Value) (B0 L : Nat) (xs : Nat → Int32) (n : Nat) : Prop :=
  ∀ (d q pc : Nat) (ls st : List AV) (h : AH) (o : OU_) (h' : AH), run_ xs n d q pc ls st h = some (o, h') → ∀ (p : Program) (e : Env) (R : Room) (s : State) (m : MethodId) (args : Array Value) (below : List Frame) (meth : Method) (c : Code) (ad0 : Nat → Nat) (n0 s0 : Nat) (Q : State → Prop),
    Cx_ p l R s m args meth c dC dI cy op B0 L xs q → Xt_ c q → d + 8 ≤ R.frames → 64 * d + 120 ≤ R.locals → nx_ h' - n0 ≤ R.cells → sl_ h' - s0 ≤ R.slots → EdR_ p l e R s m args below meth c dC dI cy op B0 L ad0 n0 s0 Q q o h' → EdT_ p l e R s m args below meth c dC dI cy op B0 L xs ad0 n0 s0 Q q o h' → Sm_ p l e R s m args below meth c dC dI cy op B0 L xs ad0 n0 s0 Q q pc ls st h
section CAL
variable {p : Program} {l : Launch} {e : Env} {R : Room} {s : State} {m : MethodId} {args : Array Value} {below : List Frame} {meth : Method} {c : Code} {dC : Nat → ClassId} {dI : Nat → Nat → Nat} {cy : Nat → ClassId} {op : Value} {B0 L : Nat} {xs : Nat → Int32} {ad0 : Nat → Nat} {n0 s0 : Nat} {Q : State → Prop} {q pc len pc' n d : Nat} {ls st ls' st' as : List AV} {h h' h1 : AH} {i : Instr} {v : Option AV}
theorem okq {ck : Nat → Bool} (hok : (List.range 200).all (fun q => (q == 178) || ck q) = true) (hq : q < 200) (h9 : q ≠ 178) : ck q = true := by
  have h := List.all_eq_true.mp hok q (List.mem_range.mpr hq)
  simpa [h9] using h
theorem sp_no (hsp : sp_ q = false) : q ≠ 176 ∧ q ≠ 177 ∧ q ≠ 178 := by
  unfold sp_ at hsp
  simp at hsp
  omega
theorem code_in (hq : q < 200) (hsp : sp_ q = false) : Cond.code (nam_ q) (cod_ q) (mxl_ q) (rty_ q) ∈ gtb_ := wd_ (okA_ q hq hsp) rfl
theorem good_gtb : GoodIn gtb_ gtb_ := fun w hw => ⟨hw, good_of_word (List.mem_filter.mp hw).2⟩
theorem good_ws (hq : q < 200) (hsp : sp_ q = false) : GoodIn gtb_ (ws_ q) := by
  intro w hw
  rcases List.mem_cons.mp hw with rfl | hw
  · exact good_gtb _ (code_in hq hsp)
  · exact good_gtb w hw
theorem end_ret {mc ms : Nat} {ad : Nat → Nat} (C : Cx_ p l R s m args meth c dC dI cy op B0 L xs q) (hmc : mc = nx_ h' - nx_ h) (hms : ms = sl_ h' - sl_ h) : EdR_ p l e R s m args below meth c dC dI cy op B0 L ad (nx_ h) (sl_ h) (MQ below (Qc_ dC dI cy op B0 L ad h v h') args s mc ms (A_ B0)) q (some v) h' := by
  obtain ⟨⟨hx, hb, hml, ho, ht⟩, hK0, ⟨hB, hL4, hq200⟩, hlk, hrt, hnm, hst⟩ := C
  intro ad' la H locs pcf v9 e1 hR hS hv hvc hrin
  cases hv
  subst hmc hms
  have hq9 : ∀ (o : Outcome), o = .returned (v.map (cv_ ad' op)) → ∀ t : State, t.heap = H → s.WarmedH t.vm → Qc_ dC dI cy op B0 L ad h v h' args s o t := fun o ho t htt _ => ⟨ad', e1, ho, by rw [htt]; exact hR, hvc, hS.F htt⟩
  cases v with
  | none => exact W.vret hx hb (by rw [hrt]; exact hrin.2) (hq9 _ rfl) hS.2.2 hrin.1 hlk
  | some w =>
    rcases w with x | x | x | x
    · obtain ⟨h1, h2⟩ := hrin
      have fin : ∀ {ty : FieldType}, rty_ q = some ty → narrow ty (.int x) = .int x → W p l e R s m args below meth c H locs (nx_ h' - nx_ h) (sl_ h' - sl_ h) (MQ below (Qc_ dC dI cy op B0 L ad h (some (.inl x)) h') args s (nx_ h' - nx_ h) (sl_ h' - sl_ h) (A_ B0)) (F0 m pcf la [.int x]) := fun hty hn9 => W.zret hx hb (by rw [hrt]; exact hty) hn9 (hq9 _ rfl) hS.2.2 h1 hlk
      unfold rb_ at h2
      split at h2
      · rename_i hty
        refine fin hty ?_
        simp at h2
        rcases h2 with rfl | rfl <;> rfl
      · rename_i hty
        refine fin hty ?_
        have h3 : x.toInt8.toInt32 = x := by simpa using h2
        show Value.int x.toInt8.toInt32 = Value.int x
        rw [h3]
      · rename_i hty
        refine fin hty ?_
        have h3 : (x.toUInt32 % 65536).toInt32 = x := by simpa using h2
        have h4 := pk_nc x
        rw [h3] at h4
        exact h4
      · rename_i hty
        exact fin hty rfl
      · cases h2
    · exact W.lret hx hb (by rw [hrt]; exact hrin.2) (hq9 _ rfl) hS.2.2 hrin.1 hlk
    · obtain ⟨h1, n9, h2⟩ := hrin
      exact W.aret (rt := .object n9) hx hb (by rw [hrt]; exact h2) (Or.inl ⟨n9, rfl⟩) (va_rf_or _) (hq9 _ rfl) hS.2.2 h1 hlk
    · exact hrin.elim
theorem end_noT {ad : Nat → Nat} : EdT_ p l e R s m args below meth c dC dI cy op B0 L xs ad n0 s0 Q q (some v) h' := by
  intro ad' la H locs pcf h9 hn
  cases hn
/-- a callee's contract -/
theorem met_of {ad : Nat → Nat} (SN : SN_ l dC dI cy op B0 L xs n) (hst : l.stackTraces = false) (hL4 : L < 4096) (hop : op.category = 1) (hr : run_ xs n d q 0 (ent_ as (mxl_ q)) [] h = some (some v, h')) (hq : q < 200) (hsp : sp_ q = false) (hpl : kap_ q ≠ 12) (hpk : pok_ q as = true) (has : ∀ w ∈ as, vc_ L h w) :
    Met l (nam_ q) (ws_ q) (rm_ d (nx_ h' - nx_ h) (sl_ h' - sl_ h)) (Pc_ dC dI cy op B0 L xs ad h as) (Qc_ dC dI cy op B0 L ad h v h') (nx_ h' - nx_ h) (sl_ h' - sl_ h) (A_ B0) := by
  have h9 := sp_no hsp
  have hD := okq zokD_ hq h9.2.2
  unfold ckD_ at hD
  simp only [Bool.and_eq_true, Bool.or_eq_true, decide_eq_true_iff, hpl, false_or] at hD
  refine Met.ofW hD.2.1 rfl (fun p e s m args below meth c s₁ B hml hP => ?_)
  obtain ⟨hargs, hR, hKC, hK, hB0⟩ := hP
  subst hargs
  have hts0 : ∀ w ∈ ws_ q, w.before (as.map (cv_ ad op)).toArray s = true := atoms_spec (ws := ws_ q) B.pre
  have hown : s.vm.findClass (clnm_ (kap_ q)) = some m.cls := by rw [← hD.1]; exact findClass_of_methodNamed B.named
  have C : Cx_ p l (headSpec (ws_ q) (rm_ d (nx_ h' - nx_ h) (sl_ h' - sl_ h))).room s m (as.map (cv_ ad op)).toArray meth c dC dI cy op B0 L xs q :=
    ⟨⟨B.exec, B.bytes, hml, hown, fun w hw => hts0 w (List.mem_cons_of_mem _ hw)⟩, hK, ⟨hB0, hL4, hq⟩, B.notSynchronized, B.returns, (name_of_methodNamed B.named B.method).1, hst⟩
  have hxt : Xt_ c q := by
    unfold Xt_
    rw [if_neg (by omega)]
    obtain ⟨meth9, c9, k1, k2, -, -, -, -, k7, -⟩ := Cond.code_spec B.named (hts0 _ List.mem_cons_self)
    cases Option.some.inj (k1.symm.trans B.method)
    cases Option.some.inj (k2.symm.trans (Stand.of_body B).code)
    rw [Array.isEmpty_iff.mp k7]
  rw [lg_entry_eq]
  unfold pok_ at hpk
  rw [Bool.and_eq_true, decide_eq_true_iff] at hpk
  have S := SN d q 0 _ _ h _ h' hr p e (headSpec (ws_ q) (rm_ d (nx_ h' - nx_ h) (sl_ h' - sl_ h))).room s m (as.map (cv_ ad op)).toArray below meth c ad (nx_ h) (sl_ h) _ C hxt (Nat.le_refl _) (Nat.le_refl _) (Nat.le_refl _) (Nat.le_refl _) (end_ret C rfl rfl) end_noT
  have k := S ad _ s.heap [] (fun _ _ => rfl) hR hKC (Lr_entry hop hpk.1) (ent_vc has) (fun w hw => nomatch hw) (pok_F (by unfold pok_; rw [Bool.and_eq_true, decide_eq_true_iff]; exact hpk)) va_S.rf (Nat.le_refl _) (Nat.le_refl _)
  rw [Nat.sub_self, Nat.sub_self] at k
  exact k
/-- behind a call -/
theorem aft_ {ad : Nat → Nat} {la : Array Slot} {H : Heap} {locs : List Loc} {cells slots mc ms : Nat} {st0 rest : List Value} {a9 : Array Value} (hr : va_Run p l e R s m args below meth c H locs cells slots mc ms (F0 m pc la st0) rest (Qc_ dC dI cy op B0 L ad h v h' a9) (A_ B0)) (hS : va_S (A_ B0) s.heap H locs)
    (kk : ∀ (ad' : Nat → Nat) (H1 : Heap) (locs1 : List Loc), (∀ a, sr_ a < nx_ h → ad' a = ad a) → Rp_ dC dI cy B0 L ad' h' H1 → (∀ w, v = some w → vc_ L h' w) → va_S (A_ B0) s.heap H1 locs1 → W p l e R s m args below meth c H1 locs1 (cells + mc) (slots + ms) Q (F0 m (pc + 3) la ((v.map (cv_ ad' op)).toList ++ rest))) : W p l e R s m args below meth c H locs cells slots Q (F0 m pc la st0) := by
  intro T hT X
  obtain ⟨v9, st₀, t, T', L9, h0, X', hL, e1, e2, ⟨ad', g1, g2, g3, g4, hz, hk⟩, st⟩ := hr T hT X
  have hv : v9 = v.map (cv_ ad' op) := Outcome.returned.inj g2
  subst hv
  rw [h0] at hz hk
  obtain ⟨t2, a1, b1⟩ := kk ad' T'.heap (locs ++ L9) g1 (by rw [e1]; exact g3) g4
    ⟨Nat.le_trans hS.1 (by rw [e1]; exact hz), fun q h1 h2 => by rw [e1, hk q (Nat.lt_of_lt_of_le h1 hS.1) h2]; exact hS.2.1 q h1 h2, fun q hq => by
      rcases List.mem_append.mp hq with h | h
      · exact hS.2.2 q h
      · exact hL q h⟩ T' rfl X'
  exact ⟨t2, st t2 a1, b1⟩
/-- closed values don't see where later cells lie -/
theorem cv_agr {ad ad' : Nat → Nat} {w : AV} (hw : vc_ L h w) (hag : ∀ a, sr_ a < nx_ h → ad' a = ad a) : cv_ ad' op w = cv_ ad op w := by
  rcases w with x | x | x | x
  · rfl
  · rfl
  · cases x with
    | none => rfl
    | some b =>
      show Value.ref _ = Value.ref _
      rw [hag b (hw b rfl).1]
  · rfl
theorem map_agr {ad ad' : Nat → Nat} (hc : ∀ w ∈ st, vc_ L h w) (hag : ∀ a, sr_ a < nx_ h → ad' a = ad a) : st.map (cv_ ad' op) = st.map (cv_ ad op) := List.map_congr_left (fun w hw => cv_agr (hc w hw) hag)
theorem Lr_.agr {ad ad' : Nat → Nat} {nL : Nat} {la : Array Slot} (hc : ∀ w ∈ ls, vc_ L h w) (hag : ∀ a, sr_ a < nx_ h → ad' a = ad a) (hL : Lr_ ad op nL ls la) : Lr_ ad' op nL ls la :=
  ⟨hL.1, hL.2.1, hL.2.2.1, fun i w hi hw => by rw [cv_agr (hc w (List.mem_of_getElem? hi)) hag]; exact hL.2.2.2 i w hi hw⟩
theorem vl_gw {b : Nat} (g : Gw_ h h') (hv : vl_ L h b) : vl_ L h' b := ⟨Nat.lt_of_lt_of_le hv.1 g.1, fun z => g.2.2 b (hv.2.1 z), hv.2.2⟩
theorem vc_gw {w : AV} (g : Gw_ h h') (hv : vc_ L h w) : vc_ L h' w := fun b hb => vl_gw g (hv b hb)
/-- the caller goes on behind a call that returned -/
theorem go_on {ad ad' : Nat → Nat} {la : Array Slot} {H1 : Heap} {locs1 : List Loc} {rest : List AV} (hL4 : L < 4096) (g : Gw_ h h') (hag : ∀ a, sr_ a < nx_ h → ad' a = ad a) (e1 : ∀ a, sr_ a < n0 → ad a = ad0 a) (h96 : 96 ≤ nx_ h) (hR1 : Rp_ dC dI cy B0 L ad' h' H1) (hKC : KC_ L xs op (A_ B0) ad s s.heap) (hL : Lr_ ad op (mxl_ q) ls la) (hc1 : ∀ w ∈ ls, vc_ L h w) (hcr : ∀ w ∈ rest, vc_ L h w) (hvc : ∀ w, v = some w → vc_ L h' w) (hF : ∀ (i : Nat) (x : Int64), ls[i]? = some (vJ x) → i ∈ lgs_ q) (hS1 : va_S (A_ B0) s.heap H1 locs1) (hn : n0 ≤ nx_ h) (hs : s0 ≤ sl_ h)
    (K : Sm_ p l e R s m args below meth c dC dI cy op B0 L xs ad0 n0 s0 Q q pc' ls (v.toList ++ rest) h') : W p l e R s m args below meth c H1 locs1 (nx_ h - n0 + (nx_ h' - nx_ h)) (sl_ h - s0 + (sl_ h' - sl_ h)) Q (F0 m pc' la ((v.map (cv_ ad' op)).toList ++ rest.map (cv_ ad op))) := by
  have hg1 := g.1
  have hg2 := g.2.1
  have k := K ad' la H1 locs1 (fun a ha => by rw [hag a (by omega)]; exact e1 a ha) hR1 (hKC.ad hL4 (fun a ha => hag a (by omega))) (hL.agr hc1 hag) (fun w hw => vc_gw g (hc1 w hw)) (fun w hw => by
    rcases List.mem_append.mp hw with h9 | h9
    · cases v with
      | none => cases h9
      | some u => rw [List.mem_singleton.mp h9]; exact hvc u rfl
    · exact vc_gw g (hcr w h9)) hF hS1 (by omega) (by omega)
  rw [show nx_ h - n0 + (nx_ h' - nx_ h) = nx_ h' - n0 by omega, show sl_ h - s0 + (sl_ h' - sl_ h) = sl_ h' - s0 by omega]
  rw [List.map_append, map_agr hcr hag] at k
  cases v with
  | none => exact k
  | some u => exact k
end CAL
