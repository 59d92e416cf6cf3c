/-! what a method that throws owes; the calls that are caught -/
def nmx_ : List String := ["java/lang/RuntimeException", "java/lang/Exception"]
def xtb_ : List Cond := (lw_tbl.drop 847).take 70 ++ ((lw_tbl.drop 82).take 4 ++ (lw_tbl.drop 98).take 2)
theorem xtb_sub {w : Cond} (h : w ∈ xtb_) : w ∈ lw_tbl := by
  rcases List.mem_append.mp h with h | h
  · exact List.mem_of_mem_drop (List.mem_of_mem_take h)
  · rcases List.mem_append.mp h with h | h <;> exact List.mem_of_mem_drop (List.mem_of_mem_take h)
theorem xw_in : ((vx_at0 "PlayCompany" 191 NSE_ nmx_).filter goodWord).all (fun w => decide (w ∈ xtb_)) = true := by decide +kernel
def xnw_ : List Cond := [.declares (Bundle.init0 "java/lang/RuntimeException"), .declares (Bundle.init0 "java/lang/Exception"), .declares (Bundle.init0 "java/lang/Throwable"), .castable NSE_ NSE_]
theorem xw_no : ((vx_at0 "PlayCompany" 191 NSE_ nmx_).filter (fun w => !goodWord w)).all (fun w => decide (w ∈ xnw_)) = true := by decide +kernel
theorem xw_ok : (Cond.classLink "PlayCompany" 189 NSE_ :: Cond.initialized NSE_ :: vx_at0 "PlayCompany" 191 NSE_ nmx_).all vx_ot = true := by decide +kernel
theorem cpl_40 : (cpl_.getD 7 []).all (fun e => e.2.1 != 40 || e.1 == 189) = true := by decide +kernel
theorem thr_eq {q pc : Nat} (ht : thr_ q pc = true) : kap_ q = 7 ∧ decode (cod_ q) pc = .ok (.new 189, 3) ∧ decode (cod_ q) (pc + 3) = .ok (.dup, 1) ∧ decode (cod_ q) (pc + 4) = .ok (.invokespecial 191, 3) ∧ decode (cod_ q) (pc + 7) = .ok (.athrow, 1) := by
  unfold thr_ at ht
  split at ht
  · rename_i x h0 h3 h4 h7
    split at ht
    · rename_i j hc
      have hk : kap_ q = 7 := by simpa using ht
      rw [hk] at hc
      have hx := List.all_eq_true.mp cpl_40 (x, 40, j) (lookup_mem hc)
      have hx9 : x = 189 := by simpa using hx
      subst hx9
      exact ⟨hk, h0, h3, h4, h7⟩
    · cases ht
  · cases ht
def XC_ (dC : Nat → ClassId) (dI : Nat → Nat → Nat) (cy : Nat → ClassId) (B0 L : Nat) (ad : Nat → Nat) (h h' : AH) : String → State → State → Prop := fun E st t => E = NSE_ ∧ ∃ (ad' : Nat → Nat) (h9 : AH), h' = xh_ h9 ∧ nx_ h ≤ nx_ h9 ∧ (∀ a, sr_ a < nx_ h → ad' a = ad a) ∧ Rp_ dC dI cy B0 L ad' h9 t.heap ∧ va_F (A_ B0) st t
section THR
variable {p : Program} {l : Launch} {e : Env} {R : Room} {s : State} {m : MethodId} {args : Array Value} {below : List Frame} {meth : Method} {c : Code} {dC : Nat → ClassId} {dI : Nat → Nat → Nat} {cy : Nat → ClassId} {op : Value} {B0 L : Nat} {xs : Nat → Int32} {ad0 : Nat → Nat} {n0 s0 : Nat} {Q : State → Prop} {q pc len pc' n d x q' j z ct : Nat} {ls st ls' st' as : List AV} {h h' h1 : AH} {i : Instr} {v : Option AV} {o : OU_}
theorem end_noR {ad : Nat → Nat} : EdR_ p l e R s m args below meth c dC dI cy op B0 L ad n0 s0 Q q none h' := by
  intro ad' la H locs pcf v9 e1 hR hS hv
  cases hv
theorem end_thr {ad : Nat → Nat} (C : Cx_ p l R s m args meth c dC dI cy op B0 L xs q) (hnt : ∀ x ∈ c.exceptionTable.toList, False) (hfr : 8 ≤ R.frames) (hlo : 120 ≤ R.locals) (hrc : nx_ h' - nx_ h ≤ R.cells) (hrs : sl_ h' - sl_ h ≤ R.slots) :
    EdT_ p l e R s m args below meth c dC dI cy op B0 L xs ad (nx_ h) (sl_ h) (vx_MQ below (fun _ _ _ _ => False) (XC_ dC dI cy B0 L ad h h') args s (nx_ h' - nx_ h) (sl_ h' - sl_ h) (A_ B0)) q none h' := by
  obtain ⟨⟨hx, hb, hml, ho, ht⟩, hK0, ⟨hB, hL4, hq200⟩, hlk, hrt, hnm, hst⟩ := C
  intro ad' la H locs pcf h9 _ hh e1 hR hKC hS hla hth hn hs
  obtain ⟨hk, d0, d3, d4, d7⟩ := thr_eq hth
  rw [hk] at ho
  subst hh
  rw [nx_xh, sl_xh] at *
  have hxw := hKC.2.1.2.2.2.2.2
  have hlk9 : (Cond.classLink "PlayCompany" 189 NSE_).before args s = true := zgw_ ht (show lw_tbl[856]? = some (.classLink "PlayCompany" 189 NSE_) by decide +kernel) rfl
  have hin9 : (Cond.initialized NSE_).before args s = true := zgw_ ht (show lw_tbl[85]? = some (.initialized NSE_) by decide +kernel) rfl
  have hat : ∀ w ∈ vx_at0 "PlayCompany" 191 NSE_ nmx_, w.before args s = true := by
    refine vx_hat (B := xnw_) (fun w hw => ?_) (fun w hw => by simpa using List.all_eq_true.mp xw_no w hw) (fun w hw => ?_)
    · have h1 : w ∈ xtb_ := by simpa using List.all_eq_true.mp xw_in w hw
      exact ht w (List.mem_filter.mpr ⟨xtb_sub h1, (List.mem_filter.mp hw).2⟩)
    · unfold xnw_ at hw
      rcases List.mem_cons.mp hw with rfl | hw
      · exact va_Nw.use rfl (hxw.1 _ (by decide))
      rcases List.mem_cons.mp hw with rfl | hw
      · exact va_Nw.use rfl (hxw.1 _ (by decide))
      rcases List.mem_cons.mp hw with rfl | hw
      · exact va_Nw.use rfl (hxw.1 _ (by decide))
      rcases List.mem_cons.mp hw with rfl | hw
      · exact va_Nw.use rfl hxw.2
      · cases hw
  refine vx_throw0 (A := A_ B0) (names := nmx_) (rest := []) hx hb hst ho (by decide) (by decide) hlk9 hin9 hat (fun w hw => List.all_eq_true.mp xw_ok w hw) hKC.1.2.2.2.2.2.2.1 hKC.1.2.2.2.2.2.2.2 hS (hla.trans hml.symm) d0 d3 d4 d7 (fun x hx => (hnt x hx).elim) (by show 2 + 3 < _; omega) (by show 0 + (13 * (2 + 1) + 42) ≤ _; omega) (by omega) (by omega) hlk (fun t hal hsz hkp => ⟨rfl, ad', h9, rfl, hn, e1, ⟨hR.1.kept (fun k q9 hk9 => hkp q9.1 (hR.1 k q9 hk9).lt), hR.2⟩, ?_⟩) hS.2.2 (by omega) (by omega)
  · exact ⟨Nat.le_trans hS.1 hsz, fun q9 h1 h2 => by rw [hkp q9 (Nat.lt_of_lt_of_le h1 hS.1)]; exact hS.2.1 q9 h1 h2⟩
/-- a callee that throws -/
theorem metX_of {ad : Nat → Nat} (SN : SN_ l dC dI cy op B0 L xs n) (hst : l.stackTraces = false) (hL4 : L < 4096) (hop : op.category = 1) (hr : run_ xs n d q 0 (ent_ as (mxl_ q)) [] h = some (none, h')) (hq : q < 200) (hsp : sp_ q = false) (hpl : kap_ q ≠ 12) (hpk : pok_ q as = true) (has : ∀ w ∈ as, vc_ L h w) :
    vx_Met l (nam_ q) (ws_ q) (rm_ d (nx_ h' - nx_ h) (sl_ h' - sl_ h)) (Pc_ dC dI cy op B0 L xs ad h as) (fun _ _ _ _ => False) (XC_ dC dI cy B0 L ad h h') (nx_ h' - nx_ h) (sl_ h' - sl_ h) (A_ B0) := by
  have h9 := sp_no hsp
  have hD := okq zokD_ hq h9.2.2
  unfold ckD_ at hD
  simp only [Bool.and_eq_true, Bool.or_eq_true, decide_eq_true_iff, hpl, false_or] at hD
  refine vx_ofW hD.2.1 rfl (fun p e s m args below meth c s₁ B hml hnt hP => ?_)
  obtain ⟨hargs, hR, hKC, hK, hB0⟩ := hP
  subst hargs
  have hts0 : ∀ w ∈ ws_ q, w.before (as.map (cv_ ad op)).toArray s = true := atoms_spec (ws := ws_ q) B.pre
  have hown : s.vm.findClass (clnm_ (kap_ q)) = some m.cls := by rw [← hD.1]; exact findClass_of_methodNamed B.named
  have C : Cx_ p l (headSpec (ws_ q) (rm_ d (nx_ h' - nx_ h) (sl_ h' - sl_ h))).room s m (as.map (cv_ ad op)).toArray meth c dC dI cy op B0 L xs q :=
    ⟨⟨B.exec, B.bytes, hml, hown, fun w hw => hts0 w (List.mem_cons_of_mem _ hw)⟩, hK, ⟨hB0, hL4, hq⟩, B.notSynchronized, B.returns, (name_of_methodNamed B.named B.method).1, hst⟩
  have hxt : Xt_ c q := by
    unfold Xt_
    rw [if_neg (by omega)]
    obtain ⟨meth9, c9, k1, k2, -, -, -, -, k7, -⟩ := Cond.code_spec B.named (hts0 _ List.mem_cons_self)
    cases Option.some.inj (k1.symm.trans B.method)
    cases Option.some.inj (k2.symm.trans (Stand.of_body B).code)
    rw [Array.isEmpty_iff.mp k7]
  rw [lg_entry_eq]
  unfold pok_ at hpk
  rw [Bool.and_eq_true, decide_eq_true_iff] at hpk
  have S := SN d q 0 _ _ h _ h' hr p e (headSpec (ws_ q) (rm_ d (nx_ h' - nx_ h) (sl_ h' - sl_ h))).room s m (as.map (cv_ ad op)).toArray below meth c ad (nx_ h) (sl_ h) _ C hxt (Nat.le_refl _) (Nat.le_refl _) (Nat.le_refl _) (Nat.le_refl _) end_noR (end_thr C hnt (by show 8 ≤ d + 8; omega) (by show 120 ≤ 64 * d + 120; omega) (Nat.le_refl _) (Nat.le_refl _))
  have k := S ad _ s.heap [] (fun _ _ => rfl) hR hKC (Lr_entry hop hpk.1) (ent_vc has) (fun w hw => nomatch hw) (pok_F (by unfold pok_; rw [Bool.and_eq_true, decide_eq_true_iff]; exact hpk)) va_S.rf (Nat.le_refl _) (Nat.le_refl _)
  rw [Nat.sub_self, Nat.sub_self] at k
  exact k
/-- behind a call that threw -/
theorem aft_x {ad : Nat → Nat} {la : Array Slot} {H : Heap} {locs : List Loc} {cells slots mc ms : Nat} {st0 rest : List Value} (hr : vx_Run p l e R s m args below meth c H locs cells slots mc ms (F0 m pc la st0) rest (fun _ _ _ => False) (XC_ dC dI cy B0 L ad h h') (A_ B0)) (hS : va_S (A_ B0) s.heap H locs)
    (kk : ∀ (ad' : Nat → Nat) (h9 : AH) (H1 : Heap) (locs1 : List Loc) (ce : Cell) (q9 : Addr), h' = xh_ h9 → nx_ h ≤ nx_ h9 → (∀ a, sr_ a < nx_ h → ad' a = ad a) → Rp_ dC dI cy B0 L ad' h9 H1 → va_S (A_ B0) s.heap H1 locs1 → H1[q9]? = some ce → ce.vm = .none → s.vm.findClass NSE_ = some ce.cls → vx_W p l e R s m args below meth c H1 locs1 (cells + mc) (slots + ms) Q (F0 m pc la rest) q9) : W p l e R s m args below meth c H locs cells slots Q (F0 m pc la st0) := by
  intro T hT X
  rcases hr T hT X with ⟨v9, st₀, t, T', L9, h0, X', hL, e1, e2, hfalse, st⟩ | ⟨q9, st₀, t, T', L9, E, ce, h0, X', hL, e1, e2, ⟨hE, ad', h9, g0, g00, g1, g3, hz, hk⟩, hce, hcv, hcl, st⟩
  · exact hfalse.elim
  · subst hE
    rw [h0] at hz hk
    obtain ⟨t2, a1, b1⟩ := kk ad' h9 T'.heap (locs ++ L9) ce q9 g0 g00 g1 (by rw [e1]; exact g3)
      ⟨Nat.le_trans hS.1 (by rw [e1]; exact hz), fun q h1 h2 => by rw [e1, hk q (Nat.lt_of_lt_of_le h1 hS.1) h2]; exact hS.2.1 q h1 h2, fun q hq => by
        rcases List.mem_append.mp hq with h | h
        · exact hS.2.2 q h
        · exact hL q h⟩ (by rw [e1]; exact hce) hcv hcl T' rfl X'
    exact ⟨t2, st.trans a1, b1⟩
end THR
