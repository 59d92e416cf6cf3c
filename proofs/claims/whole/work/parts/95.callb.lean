/-! calls that return, of plain methods -/
theorem ntb_ok : (List.range 18).all (fun k => (mpl_.getD k []).all (fun e => e.2.2.2 != 1 || decide ((clnm_ k, e.1) ∈ ntb_))) = true := by decide +kernel
theorem wth_ok : nam_ 88 = yX8_within ∧ rcv_ 88 = 99 := ⟨rfl, rfl⟩
section CLB
variable {p : Program} {l : Launch} {e : Env} {R : Room} {s : State} {m : MethodId} {args : Array Value} {below : List Frame} {meth : Method} {c : Code} {dC : Nat → ClassId} {dI : Nat → Nat → Nat} {cy : Nat → ClassId} {op : Value} {B0 L : Nat} {xs : Nat → Int32} {ad0 : Nat → Nat} {n0 s0 : Nat} {Q : State → Prop} {q pc len pc' n d x q' j z ct : Nat} {ls st ls' st' as : List AV} {h h' h1 : AH} {i : Instr} {v : Option AV}
theorem mth_mem {k : Nat} (hk : k < 18) (h9 : mth_ k x = some (q', j, z)) (hq : q' < 200) : lw_tbl[j]? = some (if z = 1 then .methodLinkNest (clnm_ k) x (nam_ q') RX8 else .methodLink (clnm_ k) x (nam_ q')) ∧ (z = 0 ∨ z = 1 ∧ q' = 88) := by
  have hc : ckm_ k (x, q', j, z) = true := pool_all okm_ hk h9
  unfold ckm_ at hc
  simp only [Bool.or_eq_true, Bool.and_eq_true, decide_eq_true_iff] at hc
  rcases hc with h1 | h1
  · omega
  · exact ⟨h1.1.2, h1.2⟩
theorem stk_split {ad : Nat → Nat} {k : Nat} : st.map (cv_ ad op) = (((st.take k).reverse.map (cv_ ad op)).reverse) ++ (st.drop k).map (cv_ ad op) := by
  rw [← List.map_reverse, List.reverse_reverse, ← List.map_append, List.take_append_drop]
theorem rok_eq {k n9 : Nat} (hr : rok_ k st n9 = true) (hk : k ≠ 99) : ∃ a as', (st.take n9).reverse = .inr (.inr (.inl (some a))) :: as' ∧ kd_ a = k := by
  unfold rok_ at hr
  rw [if_neg hk] at hr
  split at hr
  · rename_i a he
    obtain ⟨r, hl⟩ := List.getLast?_eq_some_iff.mp he
    exact ⟨a, r.reverse, by rw [hl, List.reverse_append]; rfl, by simpa using hr⟩
  · cases hr
theorem sd_call (C : Cx_ p l R s m args meth c dC dI cy op B0 L xs q) (hi : i = .invokestatic x ∧ ct = 0 ∨ i = .invokevirtual x ∧ ct = 1 ∨ i = .invokespecial x ∧ ct = 2) (hd : decode (cod_ q) pc = .ok (i, 3)) (hm : mth_ (kap_ q) x = some (q', j, z))
    (hok : q' < 200 ∧ nar_ q' ≤ st.length ∧ ((st.drop (nar_ q')).map acat_).sum ≤ 8 ∧ rok_ (rcv_ q') st (nar_ q') = true ∧ cty_ ct q' = true ∧ pok_ q' (st.take (nar_ q')).reverse = true) (SN : SN_ l dC dI cy op B0 L xs n)
    (hrun : run_ xs n d q' 0 (ent_ (st.take (nar_ q')).reverse (mxl_ q')) [] h = some (some v, h1)) (hfr : d + 1 + 8 ≤ R.frames) (hlo : 64 * (d + 1) + 120 ≤ R.locals) (hrc : nx_ h1 - n0 ≤ R.cells) (hrs : sl_ h1 - s0 ≤ R.slots) (hsp : sp_ q' = false) (hnm12 : kap_ q' ≠ 12)
    (K : Sm_ p l e R s m args below meth c dC dI cy op B0 L xs ad0 n0 s0 Q q (pc + 3) ls (v.toList ++ st.drop (nar_ q')) h1) : Sm_ p l e R s m args below meth c dC dI cy op B0 L xs ad0 n0 s0 Q q pc ls st h := by
  obtain ⟨⟨hx, hb, hml, ho, ht⟩, hK0, ⟨hB, hL4, hq200⟩, hlk, hrt, hnm, hst⟩ := C
  intro ad la H locs e1 hR hKC hL hc1 hc2 hF hS hn hs
  obtain ⟨hq', hna, hsum, hrok, hcty, hpk⟩ := hok
  have g : Gw_ h h1 := run_grow _ _ _ _ _ _ _ _ _ hrun
  have hop : op.category = 1 := hKC.2.2.2
  have has : ∀ w ∈ (st.take (nar_ q')).reverse, vc_ L h w := fun w hw => hc2 w (List.mem_of_mem_take (List.mem_reverse.mp hw))
  have hcr : ∀ w ∈ st.drop (nar_ q'), vc_ L h w := fun w hw => hc2 w (List.mem_of_mem_drop hw)
  have hM := met_of (ad := ad) SN hst hL4 hop hrun hq' hsp hnm12 hpk has
  have h9 := sp_no hsp
  have hB9 := okq okB_ hq' h9.2.2
  have hC9 := okq okC_ hq' h9.2.2
  have hD9 := okq zokD_ hq' h9.2.2
  have hE9 := okq okE_ hq' h9.2.2
  have hF9 := okq zokF_ hq' h9.2.2
  unfold ckB_ at hB9
  unfold ckC_ at hC9
  unfold ckD_ at hD9
  unfold ckE_ at hE9
  unfold ckF_ at hF9
  simp only [Bool.and_eq_true, decide_eq_true_iff] at hB9 hD9 hE9
  obtain ⟨hlink, hz⟩ := mth_mem (kap_lt hq200) hm hq'
  have hini : (Cond.initialized (nam_ q').cls).before args s = true := zgw_ ht hB9.2 rfl
  have hroom : (rm_ d (nx_ h1 - nx_ h) (sl_ h1 - sl_ h)).frames + 1 ≤ R.frames ∧ 8 + (mxl_ q' + 11) + (rm_ d (nx_ h1 - nx_ h) (sl_ h1 - sl_ h)).locals ≤ R.locals := by
    have h20 := hE9.1
    constructor
    · show d + 8 + 1 ≤ R.frames; omega
    · show 8 + (mxl_ q' + 11) + (64 * d + 120) ≤ R.locals; omega
  have hg1 := g.1
  have hg2 := g.2.1
  have hcf : nx_ h - n0 + (nx_ h1 - nx_ h) ≤ R.cells ∧ sl_ h - s0 + (sl_ h1 - sl_ h) ≤ R.slots := by omega
  have hsz : B0 ≤ H.size := Nat.le_trans hB hS.1
  have hPc : ∀ U : State, U.heap = H → s.WarmedH U.vm → Pc_ dC dI cy op B0 L xs ad h (st.take (nar_ q')).reverse ((st.take (nar_ q')).reverse.map (cv_ ad op)).toArray U := fun U hU hW => ⟨rfl, by rw [hU]; exact hR, by rw [hU]; exact (hKC.kept hS.2.1).moved hW, va_K.moved hW.alike hK0, by rw [hU]; exact hsz⟩
  have hwords : 2 * (F0 m pc la (st.map (cv_ ad op))).monitorRoom + (((st.drop (nar_ q')).map (cv_ ad op)).map fun v => v.category).sum ≤ 8 := lv_room (by rw [cv_sum hop]; exact hsum)
  have hsize : (F0 m pc la (st.map (cv_ ad op))).locals.size = mxl_ q := hL.1
  have fix : CallFix p m c (cod_ q) (mxl_ q) s args gtb_ (clnm_ (kap_ q)) := ⟨hx, hb, hml, ho, ht⟩
  have go : ∀ {a9 : Array Value}, va_Run p l e R s m args below meth c H locs (nx_ h - n0) (sl_ h - s0) (nx_ h1 - nx_ h) (sl_ h1 - sl_ h) (F0 m pc la (st.map (cv_ ad op))) ((st.drop (nar_ q')).map (cv_ ad op)) (Qc_ dC dI cy op B0 L ad h v h1 a9) (A_ B0) → W p l e R s m args below meth c H locs (nx_ h - n0) (sl_ h - s0) Q (F0 m pc la (st.map (cv_ ad op))) := fun hr =>
    aft_ hr hS (fun ad' H1 locs1 hag hR1 hvc hS1 => go_on hL4 g hag e1 hR.2.2.2.2.2 hR1 hKC hL hc1 hcr hvc hF hS1 hn hs K)
  have hlen0 : ((st.take (nar_ q')).reverse.map (cv_ ad op)).length = nar_ q' := by rw [List.length_map, List.length_reverse, List.length_take]; omega
  rcases hi with ⟨rfl, rfl⟩ | ⟨rfl, rfl⟩ | ⟨rfl, rfl⟩
  · have hrc9 : rcv_ q' = 99 := by simpa [cty_] using hcty
    rw [hrc9, if_pos rfl] at hB9 hD9
    have hstat : (Cond.static (nam_ q')).before args s = true := zgw_ ht hB9.1 rfl
    rcases hz with hz0 | ⟨hz1, h88⟩
    · rw [hz0, if_neg (by decide)] at hlink
      exact go (va_runS fix hM ⟨callB_of (nar_ q') ht (good_ws hq' hsp) rfl rfl rfl hini (zgw_ ht hlink rfl) ⟨hD9.2.2.1, hD9.2.2.2.1, hD9.2.2.2.2⟩ hroom, hstat⟩ ⟨Pc_blind, hPc⟩ rfl hlen0 hsize stk_split hwords hd hcf)
    · have hnt0 : ((z != 1) || decide ((clnm_ (kap_ q), x) ∈ ntb_)) = true := List.all_eq_true.mp (List.all_eq_true.mp ntb_ok (kap_ q) (List.mem_range.mpr (kap_lt hq200))) (x, q', j, z) (lookup_mem hm)
      have hnt : (clnm_ (kap_ q), x) ∈ ntb_ := by
        rw [hz1, Bool.or_eq_true] at hnt0
        rcases hnt0 with h0 | h0
        · exact absurd h0 (by decide)
        · exact of_decide_eq_true h0
      have hnw : va_Nw (.methodLinkNest (clnm_ (kap_ q)) x (nam_ q') RX8) s := by
        rw [h88, wth_ok.1]
        exact hKC.2.1.2.1 (clnm_ (kap_ q), x) hnt
      exact go (va_runSN fix hM ⟨va_cnB (nar_ q') ht (good_ws hq' hsp) rfl rfl rfl hnw hini ⟨hD9.2.2.1, hD9.2.2.2.1, hD9.2.2.2.2⟩ hroom, hstat, trivial⟩ ⟨Pc_blind, hPc⟩ rfl hlen0 hsize stk_split hwords hd hcf)
  · have hz0 : z = 0 := by
      rcases hz with h0 | ⟨-, h88⟩
      · exact h0
      · rw [h88] at hcty
        unfold cty_ at hcty
        rw [wth_ok.2] at hcty
        exact absurd hcty (by simp)
    rw [hz0, if_neg (by decide)] at hlink
    have hct : rcv_ q' ≠ 99 ∧ (nam_ q').name ≠ "<init>" := by
      unfold cty_ at hcty
      rw [if_neg (by decide), if_pos rfl, Bool.and_eq_true] at hcty
      exact ⟨by simpa using hcty.1, by simpa using hcty.2⟩
    obtain ⟨a, as', hA, hka⟩ := rok_eq hrok hct.1
    have hva : vl_ L h a := has (.inr (.inr (.inl (some a)))) (by rw [hA]; exact List.mem_cons_self) a rfl
    rw [if_neg hct.1] at hB9 hD9
    have hsel : (Cond.selects (nam_ q').cls (nam_ q') (nam_ q')).before args s = true := by
      simp only [Bool.or_eq_true, decide_eq_true_iff, beq_iff_eq, hct.1, hct.2, false_or] at hC9
      exact zgw_ ht hC9 rfl
    have hcell : ∃ cellB : Cell, H[ad a]? = some cellB ∧ cellB.vm.isStatics = false ∧ s.vm.findClass (nam_ q').cls = some cellB.cls := by
      rw [hD9.1]
      rcases hE9.2.2.1 with h0 | ⟨h0, h2⟩ | ⟨h0, h2⟩ | ⟨h0, h2⟩
      · exact absurd h0 hct.1
      · obtain ⟨k, hk1, hk2⟩ := pic_at (cy := cy) (ad := ad) (ids_of hva (by omega))
        have hce : ce_ cy ad h a = .inr (kap_ q', fs_ ad h a) := by unfold ce_; rw [if_pos (by omega), hka, h2]
        rw [hce] at hk2
        exact va_recv hK0 hR.1 (vw_at (by omega)) hk2
      · obtain ⟨k, hk, rfl⟩ := tokC hva (hka.trans h0) hL4
        obtain ⟨cell, g1, g2, g3, -⟩ := (hKC.1.2.1 k hk).1.kept hS.2.1
        rw [h2]
        exact ⟨cell, g1, g2, g3⟩
      · obtain ⟨cell, g1, g2, g3, -⟩ := (hKC.1.2.2.1 a (strC hva (hka.trans h0))).1.kept hS.2.1
        rw [h2]
        exact ⟨cell, g1, g2, g3⟩
    rw [hA] at hM hPc hlen0
    refine go (va_runV (C := (nam_ q').cls) (b := ad a) (As := as'.map (cv_ ad op)) fix hM ⟨callB_of (nar_ q' - 1) ht (good_ws hq' hsp) rfl rfl rfl hini (zgw_ ht hlink rfl) ⟨hD9.2.2.1, hD9.2.2.2.1, hD9.2.2.2.2⟩ hroom, zgw_ ht hB9.1 rfl, hsel⟩ ⟨Pc_blind, hcell, hPc⟩ rfl (by rw [List.map_cons, List.length_cons] at hlen0; omega) hsize ?_ hwords hd hcf)
    show st.map (cv_ ad op) = _
    rw [stk_split (k := nar_ q'), hA, List.map_cons, List.reverse_cons, List.append_assoc]
    rfl
  · have hz0 : z = 0 := by
      rcases hz with h0 | ⟨-, h88⟩
      · exact h0
      · rw [h88] at hcty
        unfold cty_ at hcty
        rw [wth_ok.2] at hcty
        exact absurd hcty (by simp)
    rw [hz0, if_neg (by decide)] at hlink
    have hct : rcv_ q' ≠ 99 ∧ (nam_ q').name = "<init>" := by
      unfold cty_ at hcty
      rw [if_neg (by decide), if_neg (by decide), Bool.and_eq_true] at hcty
      exact ⟨by simpa using hcty.1, by simpa using hcty.2⟩
    obtain ⟨a, as', hA, hka⟩ := rok_eq hrok hct.1
    rw [if_neg hct.1] at hB9 hD9
    have hret : rty_ q' = none := by
      rw [Bool.or_eq_true, decide_eq_true_iff] at hF9
      rcases hF9 with h0 | h0
      · rw [hct.2] at h0; exact absurd h0 (by decide)
      · exact h0
    rw [hA] at hM hPc hlen0
    refine go (va_runI (b := ad a) (As := as'.map (cv_ ad op)) fix hM ⟨callB_of (nar_ q' - 1) ht (good_ws hq' hsp) (by rw [← hret]; rfl) rfl rfl hini (zgw_ ht hlink rfl) ⟨hD9.2.2.1, hD9.2.2.2.1, hD9.2.2.2.2⟩ hroom, hct.2, zgw_ ht hB9.1 rfl⟩ ⟨Pc_blind, hPc⟩ rfl (by rw [List.map_cons, List.length_cons] at hlen0; omega) hsize ?_ hwords hd hcf)
    show st.map (cv_ ad op) = _
    rw [stk_split (k := nar_ q'), hA, List.map_cons, List.reverse_cons, List.append_assoc]
    rfl
end CLB
