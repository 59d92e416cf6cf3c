/-! the special calls: class Math, Law.where, Law.about; what is thrown there -/
theorem k12_ : (List.range 200).all (fun q => kap_ q != 12 || (decide (182 ≤ q) && decide (q ≤ 186))) = true := by decide +kernel
theorem n178_ : mpl_.all (fun l => l.all (fun e => e.2.1 != 178)) = true := by decide +kernel
theorem hndq_ : (List.range 200).all (fun q => !(((nam_ q).cls == RL) && ((nam_ q).name != "law")) || (q == 176 || q == 177)) = true := by decide +kernel
theorem inv176 : (List.range 12).all (fun pc => match decode (cod_ 176) pc with
  | .ok (.invokestatic _, _) => false
  | .ok (.invokespecial _, _) => false
  | .ok (.invokevirtual x, _) => x == 7
  | _ => true) = true := by decide +kernel
theorem inv177 : (List.range 12).all (fun pc => match decode (cod_ 177) pc with
  | .ok (.invokestatic _, _) => false
  | .ok (.invokespecial _, _) => false
  | .ok (.invokevirtual x, _) => x == 15
  | _ => true) = true := by decide +kernel
def wsW_ (q : Nat) : List Cond := .codeWith (nam_ q) (cod_ q) (mxl_ q) (rty_ q) hh_ :: gtb_
section SPC
variable {p : Program} {l : Launch} {e : Env} {R : Room} {s : State} {m : MethodId} {args : Array Value} {below : List Frame} {meth : Method} {c : Code} {dC : Nat → ClassId} {dI : Nat → Nat → Nat} {cy : Nat → ClassId} {op : Value} {B0 L : Nat} {xs : Nat → Int32} {ad0 : Nat → Nat} {n0 s0 : Nat} {Q : State → Prop} {q pc len pc' n d x q' j z ct : Nat} {ls st ls' st' as : List AV} {h h' h1 : AH} {i : Instr} {v : Option AV} {o : OU_}
theorem cw_in (hq : q = 176 ∨ q = 177) : Cond.codeWith (nam_ q) (cod_ q) (mxl_ q) (rty_ q) hh_ ∈ gtb_ := by
  rcases hq with rfl | rfl
  · exact wd_ (show lw_tbl[849]? = some _ by decide +kernel) rfl
  · exact wd_ (show lw_tbl[923]? = some _ by decide +kernel) rfl
theorem st_in (hq : q = 176 ∨ q = 177) : Cond.static (nam_ q) ∈ gtb_ := by
  rcases hq with rfl | rfl
  · exact wd_ (show lw_tbl[848]? = some _ by decide +kernel) rfl
  · exact wd_ (show lw_tbl[922]? = some _ by decide +kernel) rfl
theorem good_wsW (hq : q = 176 ∨ q = 177) : GoodIn gtb_ (wsW_ q) := by
  intro w hw
  rcases List.mem_cons.mp hw with rfl | hw
  · exact good_gtb _ (cw_in hq)
  · exact good_gtb w hw
theorem metW_of {ad : Nat → Nat} (SN : SN_ l dC dI cy op B0 L xs n) (hst : l.stackTraces = false) (hL4 : L < 4096) (hop : op.category = 1) (hr : run_ xs n d q 0 (ent_ as (mxl_ q)) [] h = some (some v, h')) (hq : q = 176 ∨ q = 177) (hpk : pok_ q as = true) (has : ∀ w ∈ as, vc_ L h w) :
    vx_Met l (nam_ q) (wsW_ q) (rm_ d (nx_ h' - nx_ h) (sl_ h' - sl_ h)) (Pc_ dC dI cy op B0 L xs ad h as) (Qc_ dC dI cy op B0 L ad h v h') (fun _ _ _ => False) (nx_ h' - nx_ h) (sl_ h' - sl_ h) (A_ B0) := by
  have hD : (nam_ q).cls = clnm_ (kap_ q) ∧ plainName (nam_ q).cls = true := by
    rcases hq with rfl | rfl <;> exact ⟨by decide +kernel, by decide +kernel⟩
  refine vx_ofWH hD.2 rfl (fun p e s m args below meth c s₁ B hml hP => vx_ret ?_)
  obtain ⟨hargs, hR, hKC, hK, hB0⟩ := hP
  subst hargs
  have hts0 : ∀ w ∈ wsW_ q, w.before (as.map (cv_ ad op)).toArray s = true := atoms_spec (ws := wsW_ q) B.pre
  have hown : s.vm.findClass (clnm_ (kap_ q)) = some m.cls := by rw [← hD.1]; exact findClass_of_methodNamed B.named
  have C : Cx_ p l (headSpec (wsW_ q) (rm_ d (nx_ h' - nx_ h) (sl_ h' - sl_ h))).room s m (as.map (cv_ ad op)).toArray meth c dC dI cy op B0 L xs q :=
    ⟨⟨B.exec, B.bytes, hml, hown, fun w hw => hts0 w (List.mem_cons_of_mem _ hw)⟩, hK, ⟨hB0, hL4, by omega⟩, B.notSynchronized, B.returns, (name_of_methodNamed B.named B.method).1, hst⟩
  have hxt : Xt_ c q := by
    unfold Xt_
    rw [if_pos hq]
    exact vx_table (x := nam_ q) B (hts0 _ List.mem_cons_self)
  rw [lg_entry_eq]
  unfold pok_ at hpk
  rw [Bool.and_eq_true, decide_eq_true_iff] at hpk
  have S := SN d q 0 _ _ h _ h' hr p e (headSpec (wsW_ q) (rm_ d (nx_ h' - nx_ h) (sl_ h' - sl_ h))).room s m (as.map (cv_ ad op)).toArray below meth c ad (nx_ h) (sl_ h) _ C hxt (Nat.le_refl _) (Nat.le_refl _) (Nat.le_refl _) (Nat.le_refl _) (end_ret C rfl rfl) end_noT
  have k := S ad _ s.heap [] (fun _ _ => rfl) hR hKC (Lr_entry hop hpk.1) (ent_vc has) (fun w hw => nomatch hw) (pok_F (by unfold pok_; rw [Bool.and_eq_true, decide_eq_true_iff]; exact hpk)) va_S.rf (Nat.le_refl _) (Nat.le_refl _)
  rw [Nat.sub_self, Nat.sub_self] at k
  exact k
theorem run_ofx {H : Heap} {locs : List Loc} {cells slots mc ms : Nat} {g : JFrame} {rest : List Value} {Qa : State → Outcome → State → Prop} {free : Addr → Prop} (hr : vx_Run p l e R s m args below meth c H locs cells slots mc ms g rest Qa (fun _ _ _ => False) free) : va_Run p l e R s m args below meth c H locs cells slots mc ms g rest Qa free := by
  intro T hT X
  rcases hr T hT X with h | ⟨_, _, _, _, _, _, _, _, _, _, _, _, hf, _⟩
  · exact h
  · exact hf.elim
/-- a call of Law.where, Law.about -/
theorem sd_lw (C : Cx_ p l R s m args meth c dC dI cy op B0 L xs q) (hd : decode (cod_ q) pc = .ok (.invokestatic x, 3)) (hm : mth_ (kap_ q) x = some (q', j, z)) (hq' : q' = 176 ∨ q' = 177)
    (hna : nar_ q' ≤ st.length) (hsum : ((st.drop (nar_ q')).map acat_).sum ≤ 8) (hpk : pok_ q' (st.take (nar_ q')).reverse = true) (SN : SN_ l dC dI cy op B0 L xs n)
    (hrun : run_ xs n d q' 0 (ent_ (st.take (nar_ q')).reverse (mxl_ q')) [] h = some (some v, h1)) (hfr : d + 1 + 8 ≤ R.frames) (hlo : 64 * (d + 1) + 120 ≤ R.locals) (hrc : nx_ h1 - n0 ≤ R.cells) (hrs : sl_ h1 - s0 ≤ R.slots)
    (K : Sm_ p l e R s m args below meth c dC dI cy op B0 L xs ad0 n0 s0 Q q (pc + 3) ls (v.toList ++ st.drop (nar_ q')) h1) : Sm_ p l e R s m args below meth c dC dI cy op B0 L xs ad0 n0 s0 Q q pc ls st h := by
  obtain ⟨⟨hx, hb, hml, ho, ht⟩, hK0, ⟨hB, hL4, hq200⟩, hlk, hrt, hnm, hst⟩ := C
  intro ad la H locs e1 hR hKC hL hc1 hc2 hF hS hn hs
  have g : Gw_ h h1 := run_grow _ _ _ _ _ _ _ _ _ hrun
  have hop : op.category = 1 := hKC.2.2.2
  have has : ∀ w ∈ (st.take (nar_ q')).reverse, vc_ L h w := fun w hw => hc2 w (List.mem_of_mem_take (List.mem_reverse.mp hw))
  have hcr : ∀ w ∈ st.drop (nar_ q'), vc_ L h w := fun w hw => hc2 w (List.mem_of_mem_drop hw)
  have hM := metW_of (ad := ad) SN hst hL4 hop hrun hq' hpk has
  obtain ⟨hlink, hz⟩ := mth_mem (kap_lt hq200) hm (by omega)
  have hz0 : z = 0 := by omega
  rw [hz0, if_neg (by decide)] at hlink
  have hini : (Cond.initialized (nam_ q').cls).before args s = true := by
    rcases hq' with rfl | rfl <;> exact zgw_ ht (show lw_tbl[69]? = some _ by decide +kernel) rfl
  have hmx : mxl_ q' ≤ 20 := by rcases hq' with rfl | rfl <;> decide +kernel
  have hns : (nam_ q').cls ≠ "java/lang/invoke/MethodHandle" ∧ (nam_ q').cls ≠ "java/lang/invoke/VarHandle" ∧ (parseMethodDescriptor (nam_ q').desc).map (fun d => d.parameters.length) = some (nar_ q') := by
    rcases hq' with rfl | rfl <;> exact ⟨by decide +kernel, by decide +kernel, by decide +kernel⟩
  have hg1 := g.1
  have hg2 := g.2.1
  have hcf : nx_ h - n0 + (nx_ h1 - nx_ h) ≤ R.cells ∧ sl_ h - s0 + (sl_ h1 - sl_ h) ≤ R.slots := by omega
  have hsz : B0 ≤ H.size := Nat.le_trans hB hS.1
  have hPc : ∀ U : State, U.heap = H → s.WarmedH U.vm → Pc_ dC dI cy op B0 L xs ad h (st.take (nar_ q')).reverse ((st.take (nar_ q')).reverse.map (cv_ ad op)).toArray U := fun U hU hW => ⟨rfl, by rw [hU]; exact hR, by rw [hU]; exact (hKC.kept hS.2.1).moved hW, va_K.moved hW.alike hK0, by rw [hU]; exact hsz⟩
  have hwords : 2 * (F0 m pc la (st.map (cv_ ad op))).monitorRoom + (((st.drop (nar_ q')).map (cv_ ad op)).map fun v => v.category).sum ≤ 8 := lv_room (by rw [cv_sum hop]; exact hsum)
  have hsize : (F0 m pc la (st.map (cv_ ad op))).locals.size = mxl_ q := hL.1
  have fix : CallFix p m c (cod_ q) (mxl_ q) s args gtb_ (clnm_ (kap_ q)) := ⟨hx, hb, hml, ho, ht⟩
  have go : ∀ {a9 : Array Value}, va_Run p l e R s m args below meth c H locs (nx_ h - n0) (sl_ h - s0) (nx_ h1 - nx_ h) (sl_ h1 - sl_ h) (F0 m pc la (st.map (cv_ ad op))) ((st.drop (nar_ q')).map (cv_ ad op)) (Qc_ dC dI cy op B0 L ad h v h1 a9) (A_ B0) → W p l e R s m args below meth c H locs (nx_ h - n0) (sl_ h - s0) Q (F0 m pc la (st.map (cv_ ad op))) := fun hr =>
    aft_ hr hS (fun ad' H1 locs1 hag hR1 hvc hS1 => go_on hL4 g hag e1 hR.2.2.2.2.2 hR1 hKC hL hc1 hcr hvc hF hS1 hn hs K)
  have hlen0 : ((st.take (nar_ q')).reverse.map (cv_ ad op)).length = nar_ q' := by rw [List.length_map, List.length_reverse, List.length_take]; omega
  have cw : vx_CSW R s args (clnm_ (kap_ q)) x (nam_ q') (cod_ q') (mxl_ q') (rty_ q') hh_ (wsW_ q') (rm_ d (nx_ h1 - nx_ h) (sl_ h1 - sl_ h)) (nx_ h1 - nx_ h) (sl_ h1 - sl_ h) (nar_ q') :=
    ⟨⟨rfl, rfl, by show d + 8 + 1 ≤ R.frames; omega, by show 8 + (mxl_ q' + 11) + (64 * d + 120) ≤ R.locals; omega, pay_in ht (good_wsW hq'), List.mem_cons_self⟩, ht _ (cw_in hq'), hini, ⟨hns.1, hns.2.1⟩, fun sig h9 => by have h2 := hns.2.2; rw [h9] at h2; exact (Option.some.inj h2).symm, zgw_ ht hlink rfl, ht _ (st_in hq')⟩
  exact go (run_ofx (vx_runSX fix hM cw ⟨Pc_blind, hPc⟩ rfl hlen0 hsize stk_split hwords hd hcf))
theorem Rp_xh {ad : Nat → Nat} {H : Heap} {id q9 : Nat} (hid : sr_ id = nx_ h) (hR : Rp_ dC dI cy B0 L ad h H) : Rp_ dC dI cy B0 L (adn_ ad id q9) (xh_ h) H := by
  have hpc : zpc_ cy (adn_ ad id q9) (xh_ h) = zpc_ cy ad h := by
    unfold zpc_
    apply List.map_congr_left
    intro b hb
    have hb2 := (hR.2.2.2.1 b hb).1
    have hrow : ∀ j, (hR_ h b j).map (adn_ ad id q9) = (hR_ h b j).map ad := fun j => omap_eq (fun c9 hc9 => adn_ne (by rw [hid]; exact (hR.2.2.2.2.1 b j c9 hc9).1))
    rw [adn_ne (by rw [hid]; exact hb2)]
    unfold ce_ fs_
    show (ad b, _) = (ad b, _)
    congr 1
    simp only [show ∀ a j, hR_ (xh_ h) a j = hR_ h a j from fun _ _ => rfl, show ∀ a, hI_ (xh_ h) a = hI_ h a from fun _ => rfl, show ∀ a, hL_ (xh_ h) a = hL_ h a from fun _ => rfl, hrow]
  refine ⟨by rw [hpc]; exact hR.1, by rw [hpc]; exact hR.2.1, hR.2.2.1, fun a ha => ⟨Nat.lt_succ_of_lt (hR.2.2.2.1 a ha).1, (hR.2.2.2.1 a ha).2⟩, fun a pl b hb9 => ?_, Nat.le_succ_of_le hR.2.2.2.2.2⟩
  have h1 := hR.2.2.2.2.1 a pl b hb9
  exact ⟨Nat.lt_succ_of_lt h1.1, h1.2.1, h1.2.2⟩
end SPC
