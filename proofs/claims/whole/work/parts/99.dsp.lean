/-! .. a call that throws; all special calls; the small machine is sound -/
section SPD
variable {p : Program} {l : Launch} {e : Env} {R : Room} {s : State} {m : MethodId} {args : Array Value} {below : List Frame} {meth : Method} {c : Code} {dC : Nat → ClassId} {dI : Nat → Nat → Nat} {cy : Nat → ClassId} {op : Value} {B0 L : Nat} {xs : Nat → Int32} {ad0 : Nat → Nat} {n0 s0 : Nat} {Q : State → Prop} {q pc len pc' n d x q' j z ct : Nat} {ls st ls' st' as : List AV} {h h' h1 : AH} {i : Instr} {v : Option AV} {o : OU_}
theorem hnd_eq (hh : hnd_ q pc = some pc') (hq : q < 200) : (q = 176 ∨ q = 177) ∧ pc < 12 ∧ pc' = 15 := by
  unfold hnd_ at hh
  split at hh
  · rename_i hc
    cases hh
    rw [Bool.and_eq_true, decide_eq_true_iff] at hc
    have h9 := List.all_eq_true.mp hndq_ q (List.mem_range.mpr hq)
    rw [hc.1] at h9
    refine ⟨by simpa using h9, hc.2, rfl⟩
  · cases hh
theorem inv_eq (hq : q = 176 ∨ q = 177) (hpc : pc < 12) (hi : i = .invokestatic x ∧ ct = 0 ∨ i = .invokevirtual x ∧ ct = 1 ∨ i = .invokespecial x ∧ ct = 2) (hd : decode (cod_ q) pc = .ok (i, 3)) (hm : mth_ (kap_ q) x = some (q', j, z)) : i = .invokevirtual x ∧ ct = 1 ∧ (q' = 79 ∨ q' = 86) ∧ z = 0 := by
  have hr := List.mem_range.mpr hpc
  rcases hq with rfl | rfl
  · have h9 := List.all_eq_true.mp inv176 pc hr
    rw [hd] at h9
    rcases hi with ⟨rfl, rfl⟩ | ⟨rfl, rfl⟩ | ⟨rfl, rfl⟩
    · cases h9
    · have hx : x = 7 := by simpa using h9
      subst hx
      cases (show mth_ (kap_ 176) 7 = some (79, 851, 0) by decide +kernel).symm.trans hm
      exact ⟨rfl, rfl, Or.inl rfl, rfl⟩
    · cases h9
  · have h9 := List.all_eq_true.mp inv177 pc hr
    rw [hd] at h9
    rcases hi with ⟨rfl, rfl⟩ | ⟨rfl, rfl⟩ | ⟨rfl, rfl⟩
    · cases h9
    · have hx : x = 15 := by simpa using h9
      subst hx
      cases (show mth_ (kap_ 177) 15 = some (86, 924, 0) by decide +kernel).symm.trans hm
      exact ⟨rfl, rfl, Or.inr rfl, rfl⟩
    · cases h9
theorem sd_thr (C : Cx_ p l R s m args meth c dC dI cy op B0 L xs q) (hxt : Xt_ c q) (hd : decode (cod_ q) pc = .ok (.invokevirtual x, 3)) (hm : mth_ (kap_ q) x = some (q', j, 0)) (hqq : q = 176 ∨ q = 177) (hpc : pc < 12) (hq9 : q' = 79 ∨ q' = 86)
    (hok : q' < 200 ∧ nar_ q' ≤ st.length ∧ ((st.drop (nar_ q')).map acat_).sum ≤ 8 ∧ rok_ (rcv_ q') st (nar_ q') = true ∧ cty_ 1 q' = true ∧ pok_ q' (st.take (nar_ q')).reverse = true) (SN : SN_ l dC dI cy op B0 L xs n)
    (hrun : run_ xs n d q' 0 (ent_ (st.take (nar_ q')).reverse (mxl_ q')) [] h = some (none, h1)) (hfr : d + 1 + 8 ≤ R.frames) (hlo : 64 * (d + 1) + 120 ≤ R.locals) (hrc : nx_ h1 - n0 ≤ R.cells) (hrs : sl_ h1 - s0 ≤ R.slots)
    (K : Sm_ p l e R s m args below meth c dC dI cy op B0 L xs ad0 n0 s0 Q q 15 ls [.inr (.inr (.inl (some (mk_ (nx_ h1 - 1) 40 0))))] h1) : Sm_ p l e R s m args below meth c dC dI cy op B0 L xs ad0 n0 s0 Q q pc ls st h := by
  obtain ⟨⟨hx, hb, hml, ho, ht⟩, hK0, ⟨hB, hL4, hq200⟩, hlk, hrt, hnm, hst⟩ := C
  intro ad la H locs e1 hR hKC hL hc1 hc2 hF hS hn hs
  obtain ⟨hq', hna, hsum, hrok, hcty, hpk⟩ := hok
  have hsp : sp_ q' = false := by rcases hq9 with rfl | rfl <;> rfl
  have hnm12 : kap_ q' ≠ 12 := by rcases hq9 with rfl | rfl <;> decide +kernel
  have g : Gw_ h h1 := run_grow _ _ _ _ _ _ _ _ _ hrun
  have hop : op.category = 1 := hKC.2.2.2
  have has : ∀ w ∈ (st.take (nar_ q')).reverse, vc_ L h w := fun w hw => hc2 w (List.mem_of_mem_take (List.mem_reverse.mp hw))
  have hM := metX_of (ad := ad) SN hst hL4 hop hrun hq' hsp hnm12 hpk has
  have h9 := sp_no hsp
  have hB9 := okq okB_ hq' h9.2.2
  have hC9 := okq okC_ hq' h9.2.2
  have hD9 := okq zokD_ hq' h9.2.2
  have hE9 := okq okE_ hq' h9.2.2
  unfold ckB_ at hB9
  unfold ckC_ at hC9
  unfold ckD_ at hD9
  unfold ckE_ at hE9
  simp only [Bool.and_eq_true, decide_eq_true_iff] at hB9 hD9 hE9
  obtain ⟨hlink, -⟩ := mth_mem (kap_lt hq200) hm hq'
  rw [if_neg (by decide)] at hlink
  have hini : (Cond.initialized (nam_ q').cls).before args s = true := zgw_ ht hB9.2 rfl
  have hroom : (rm_ d (nx_ h1 - nx_ h) (sl_ h1 - sl_ h)).frames + 1 ≤ R.frames ∧ 8 + (mxl_ q' + 11) + (rm_ d (nx_ h1 - nx_ h) (sl_ h1 - sl_ h)).locals ≤ R.locals := by
    have h20 := hE9.1
    constructor
    · show d + 8 + 1 ≤ R.frames; omega
    · show 8 + (mxl_ q' + 11) + (64 * d + 120) ≤ R.locals; omega
  have hg1 := g.1
  have hg2 := g.2.1
  have hcf : nx_ h - n0 + (nx_ h1 - nx_ h) ≤ R.cells ∧ sl_ h - s0 + (sl_ h1 - sl_ h) ≤ R.slots := by omega
  have hsz : B0 ≤ H.size := Nat.le_trans hB hS.1
  have hPc : ∀ U : State, U.heap = H → s.WarmedH U.vm → Pc_ dC dI cy op B0 L xs ad h (st.take (nar_ q')).reverse ((st.take (nar_ q')).reverse.map (cv_ ad op)).toArray U := fun U hU hW => ⟨rfl, by rw [hU]; exact hR, by rw [hU]; exact (hKC.kept hS.2.1).moved hW, va_K.moved hW.alike hK0, by rw [hU]; exact hsz⟩
  have hwords : 2 * (F0 m pc la (st.map (cv_ ad op))).monitorRoom + (((st.drop (nar_ q')).map (cv_ ad op)).map fun v => v.category).sum ≤ 8 := lv_room (by rw [cv_sum hop]; exact hsum)
  have hsize : (F0 m pc la (st.map (cv_ ad op))).locals.size = mxl_ q := hL.1
  have fix : CallFix p m c (cod_ q) (mxl_ q) s args gtb_ (clnm_ (kap_ q)) := ⟨hx, hb, hml, ho, ht⟩
  have hcl9 : clnm_ (kap_ q) = "PlayCompanyLaw" := by rcases hqq with rfl | rfl <;> decide +kernel
  have htab : c.exceptionTable.toList = tableOf hh_ := by
    unfold Xt_ at hxt
    rw [if_pos hqq] at hxt
    exact hxt
  have go : vx_Run p l e R s m args below meth c H locs (nx_ h - n0) (sl_ h - s0) (nx_ h1 - nx_ h) (sl_ h1 - sl_ h) (F0 m pc la (st.map (cv_ ad op))) ((st.drop (nar_ q')).map (cv_ ad op)) (fun _ _ _ => False) (XC_ dC dI cy B0 L ad h h1) (A_ B0) → W p l e R s m args below meth c H locs (nx_ h - n0) (sl_ h - s0) Q (F0 m pc la (st.map (cv_ ad op))) := fun hr =>
    aft_x hr hS (fun ad' h9 H1 locs1 ce q9 hh9 hnn hag hR9 hS1 hce hcv hcl => by
      subst hh9
      have hid : sr_ (mk_ (nx_ (xh_ h9) - 1) 40 0) = nx_ h9 := sr_mk (by omega) (by omega)
      have hag2 : ∀ a, sr_ a < nx_ h → adn_ ad' (mk_ (nx_ (xh_ h9) - 1) 40 0) q9 a = ad a := fun a ha => by rw [adn_ne (by rw [hid]; omega)]; exact hag a ha
      have hvn : vl_ L (xh_ h9) (mk_ (nx_ (xh_ h9) - 1) 40 0) := ⟨by rw [hid, nx_xh]; omega, fun z => by rw [kd_mk (by omega)] at z; omega, fun _ => Or.inl (kd_mk (by omega))⟩
      have k := go_on (v := some (.inr (.inr (.inl (some (mk_ (nx_ (xh_ h9) - 1) 40 0)))))) (rest := []) hL4 g hag2 e1 hR.2.2.2.2.2 (Rp_xh hid hR9) hKC hL hc1 (fun w hw => nomatch hw) (fun w hw => by cases hw; intro b hb9; cases vA_inj hb9; exact hvn) hF hS1 hn hs K
      refine ct_one (x := ⟨0, 12, 15, 13⟩) (own := "PlayCompanyLaw") (name := NSE_) (E := NSE_) (by rw [← hcl9]; exact ho) htab (by simp [covers]; omega) (by decide) (zgw_ ht (show lw_tbl[850]? = some _ by decide +kernel) rfl) (va_Nw.use rfl hKC.2.1.2.2.2.2.2.2) hce hcv hcl ?_
      have e9 : adn_ ad' (mk_ (nx_ (xh_ h9) - 1) 40 0) q9 (mk_ (nx_ (xh_ h9) - 1) 40 0) = q9 := by unfold adn_; rw [if_pos rfl]
      have k2 : W p l e R s m args below meth c H1 locs1 (nx_ h - n0 + (nx_ (xh_ h9) - nx_ h)) (sl_ h - s0 + (sl_ (xh_ h9) - sl_ h)) Q (F0 m 15 la [.ref (adn_ ad' (mk_ (nx_ (xh_ h9) - 1) 40 0) q9 (mk_ (nx_ (xh_ h9) - 1) 40 0))]) := k
      rw [e9] at k2
      exact k2)
  have hlen0 : ((st.take (nar_ q')).reverse.map (cv_ ad op)).length = nar_ q' := by rw [List.length_map, List.length_reverse, List.length_take]; omega
  have hct : rcv_ q' ≠ 99 ∧ (nam_ q').name ≠ "<init>" := by
    unfold cty_ at hcty
    rw [if_neg (by decide), if_pos rfl, Bool.and_eq_true] at hcty
    exact ⟨by simpa using hcty.1, by simpa using hcty.2⟩
  obtain ⟨a, as', hA, hka⟩ := rok_eq hrok hct.1
  have hva : vl_ L h a := has (.inr (.inr (.inl (some a)))) (by rw [hA]; exact List.mem_cons_self) a rfl
  rw [if_neg hct.1] at hB9 hD9
  have hsel : (Cond.selects (nam_ q').cls (nam_ q') (nam_ q')).before args s = true := by
    simp only [Bool.or_eq_true, decide_eq_true_iff, beq_iff_eq, hct.1, hct.2, false_or] at hC9
    exact zgw_ ht hC9 rfl
  have hcell : ∃ cellB : Cell, H[ad a]? = some cellB ∧ cellB.vm.isStatics = false ∧ s.vm.findClass (nam_ q').cls = some cellB.cls := by
    rw [hD9.1]
    have hk7 : kap_ q' = 7 ∧ rcv_ q' = 7 := by rcases hq9 with rfl | rfl <;> exact ⟨by decide +kernel, by decide +kernel⟩
    obtain ⟨k, hk1, hk2⟩ := pic_at (cy := cy) (ad := ad) (ids_of hva (by omega))
    have hce : ce_ cy ad h a = .inr (kap_ q', fs_ ad h a) := by unfold ce_; rw [if_pos (by omega), hka, hk7.1, hk7.2]
    rw [hce] at hk2
    exact va_recv hK0 hR.1 (vw_at (by omega)) hk2
  rw [hA] at hM hPc hlen0
  refine go (vx_runV (C := (nam_ q').cls) (b := ad a) (As := as'.map (cv_ ad op)) fix hM ⟨callB_of (nar_ q' - 1) ht (good_ws hq' hsp) rfl rfl rfl hini (zgw_ ht hlink rfl) ⟨hD9.2.2.1, hD9.2.2.2.1, hD9.2.2.2.2⟩ hroom, zgw_ ht hB9.1 rfl, hsel⟩ ⟨Pc_blind, hcell, hPc⟩ rfl (by rw [List.map_cons, List.length_cons] at hlen0; omega) hsize ?_ hwords hd hcf)
  show st.map (cv_ ad op) = _
  rw [stk_split (k := nar_ q'), hA, List.map_cons, List.reverse_cons, List.append_assoc]
  rfl
theorem mpl_178 {k : Nat} (hm : mth_ k x = some (178, j, z)) : False := by
  by_cases hk : k < mpl_.length
  · have h1 := List.all_eq_true.mp (List.all_eq_true.mp n178_ (mpl_.getD k []) (by rw [List.getD_eq_getElem?_getD, List.getElem?_eq_getElem hk]; exact List.getElem_mem hk)) _ (lookup_mem hm)
    exact absurd h1 (by simp)
  · unfold mth_ at hm
    rw [List.getD_eq_getElem?_getD, List.getElem?_eq_none (by omega)] at hm
    cases hm
theorem spc_ : SpC_ l dC dI cy op B0 L xs := by
  intro n SN d q pc x q' j z ct i ls st h o h1 p e R s m args below meth c ad0 n0 s0 Q C hxt hi hd hm hok hrun hfr hlo hrc hrs hcase
  rcases hcase with ⟨v, rfl, hsp, K⟩ | ⟨rfl, pc', hh, K⟩
  · have hst0 : rcv_ q' = 99 → i = .invokestatic x := by
      intro h99
      have hcty := hok.2.2.2.2.1
      unfold cty_ at hcty
      rcases hi with ⟨rfl, rfl⟩ | ⟨rfl, rfl⟩ | ⟨rfl, rfl⟩
      · rfl
      · simp [h99] at hcty
      · simp [h99] at hcty
    rcases hsp with hsp | hk
    · have hq3 : q' = 176 ∨ q' = 177 ∨ q' = 178 := by unfold sp_ at hsp; simpa [or_assoc] using hsp
      have hq2 : q' = 176 ∨ q' = 177 := by
        rcases hq3 with h3 | h3 | h3
        · exact Or.inl h3
        · exact Or.inr h3
        · subst h3; exact (mpl_178 hm).elim
      have hi9 : i = .invokestatic x := hst0 (by rcases hq2 with rfl | rfl <;> decide +kernel)
      subst hi9
      exact sd_lw C hd hm hq2 hok.2.1 hok.2.2.1 hok.2.2.2.2.2 SN hrun hfr hlo hrc hrs K
    · have hr := List.all_eq_true.mp k12_ q' (List.mem_range.mpr hok.1)
      rw [hk] at hr
      have hr2 : 182 ≤ q' ∧ q' ≤ 186 := by simpa using hr
      have hq5 : q' = 182 ∨ q' = 183 ∨ q' = 184 ∨ q' = 185 ∨ q' = 186 := by omega
      have hi9 : i = .invokestatic x := hst0 (by rcases hq5 with rfl | rfl | rfl | rfl | rfl <;> decide +kernel)
      subst hi9
      rcases hq5 with rfl | rfl | rfl | rfl | rfl
      · exact sd_fdiv C hd hm hok.2.1 hok.2.2.1 hok.2.2.2.2.2 hrun (by omega) (by omega) hrc hrs K
      · exact sd_abs C hd hm hok.2.1 hok.2.2.1 hok.2.2.2.2.2 hrun (by omega) (by omega) hrc hrs K
      · exact sd_max C hd hm hok.2.1 hok.2.2.1 hok.2.2.2.2.2 hrun (by omega) (by omega) hrc hrs K
      · exact sd_maxJ C hd hm hok.2.1 hok.2.2.1 hok.2.2.2.2.2 hrun (by omega) (by omega) hrc hrs K
      · exact sd_min C hd hm hok.2.1 hok.2.2.1 hok.2.2.2.2.2 hrun (by omega) (by omega) hrc hrs K
  · obtain ⟨hqq, hpc, rfl⟩ := hnd_eq hh C.2.2.1.2.2
    obtain ⟨rfl, rfl, hq9, rfl⟩ := inv_eq hqq hpc hi hd hm
    exact sd_thr C hxt hd hm hqq hpc hq9 hok SN hrun hfr hlo hrc hrs K
theorem snd_ : ∀ n, SN_ l dC dI cy op B0 L xs n := snd_open spc_
end SPD
