/-! plain instructions, third part: jumps, constants of the pool -/
section PL3
variable {p : Program} {l : Launch} {e : Env} {R : Room} {s : State} {m : MethodId} {args : Array Value} {below : List Frame} {meth : Method} {c : Code} {dC : Nat → ClassId} {dI : Nat → Nat → Nat} {cy : Nat → ClassId} {op : Value} {B0 L : Nat} {xs : Nat → Int32} {ad0 : Nat → Nat} {n0 s0 : Nat} {Q : State → Prop} {q pc len pc' : Nat} {ls st ls' st' : List AV} {h : AH} {i : Instr} {v : AV}
theorem tkb_eq {o : Option Nat} {a : Nat} (ht : tkb_ o = true) (ha : o = some a) : ∃ k, k < 22 ∧ a = tok_ k := by
  subst ha
  simp only [tkb_, Bool.and_eq_true, decide_eq_true_iff] at ht
  obtain ⟨h1, h2, h3, h4⟩ := ht
  refine ⟨sr_ a - 1, by omega, ?_⟩
  unfold tok_ kd_ sr_ ln_ at *
  omega
theorem rf_inj {ad : Nat → Nat} {x y : Option Nat} (hi : ∀ i j, i < 22 → j < 22 → ad (tok_ i) = ad (tok_ j) → i = j) (hx : tkb_ x = true) (hy : tkb_ y = true) : x.map ad = y.map ad ↔ x = y := by
  constructor
  · intro e9
    cases x with
    | none =>
      cases y with
      | none => rfl
      | some b => cases e9
    | some a =>
      cases y with
      | none => cases e9
      | some b =>
        obtain ⟨k1, g1, r1⟩ := tkb_eq hx rfl
        obtain ⟨k2, g2, r2⟩ := tkb_eq hy rfl
        subst r1 r2
        have := hi k1 k2 g1 g2 (Option.some.inj e9)
        rw [this]
  · intro e9; rw [e9]
theorem sd_exj (C : Cx_ p l R s m args meth c dC dI cy op B0 L xs q) (hd : decode (cod_ q) pc = .ok (i, len)) (hk : lok_ i len = true) (hv : exj_ pc i st = some (pc', st')) (K : Sm_ p l e R s m args below meth c dC dI cy op B0 L xs ad0 n0 s0 Q q pc' ls st' h) : Sm_ p l e R s m args below meth c dC dI cy op B0 L xs ad0 n0 s0 Q q pc ls st h := by
  obtain ⟨⟨hx, hb, hml, ho, ht⟩, hK0, hB, hlk, hrt, hnm, hst⟩ := C
  intro ad la H locs e1 hR hKC hL hc1 hc2 hF hS hn hs
  have go : (∀ w ∈ st', w ∈ st) → W p l e R s m args below meth c H locs (nx_ h - n0) (sl_ h - s0) Q (F0 m pc' la (st'.map (cv_ ad op))) := fun hw => K ad la H locs e1 hR hKC hL hc1 (fun w z => hc2 w (hw w z)) hF hS hn hs
  unfold exj_ at hv
  split at hv
  case h_1 o =>
    cases lok_eq hk
    split at hv
    · rename_i h1; cases hv; exact lv_goto hx hb hd (tk_eq h1) (go (fun w z => z))
    · cases hv
  case h_2 cc o =>
    cases lok_eq hk
    split at hv
    · rename_i x r
      split at hv
      · rename_i h1
        split at hv
        · rename_i hcb
          cases hv
          have k := go (fun w z => List.mem_cons_of_mem _ z)
          cases cc
          · exact lv_if_eq hx hb hd (tk_eq h1) (fun _ => k) (fun z => absurd (of_decide_eq_true hcb) z)
          · exact lv_if_ne hx hb hd (tk_eq h1) (fun _ => k) (fun z => absurd z (of_decide_eq_true hcb))
          · exact lv_if_lt hx hb hd (tk_eq h1) (fun _ => k) (fun z => absurd (of_decide_eq_true hcb) z)
          · exact lv_if_ge hx hb hd (tk_eq h1) (fun _ => k) (fun z => absurd (of_decide_eq_true hcb) z)
          · exact lv_if_gt hx hb hd (tk_eq h1) (fun _ => k) (fun z => absurd (of_decide_eq_true hcb) z)
          · exact lv_if_le hx hb hd (tk_eq h1) (fun _ => k) (fun z => absurd (of_decide_eq_true hcb) z)
        · rename_i hcb
          cases hv
          have k := go (fun w z => List.mem_cons_of_mem _ z)
          have hcb' : cb_ cc x 0 = false := by simpa using hcb
          cases cc
          · exact lv_if_eq hx hb hd (tk_eq h1) (fun z => absurd z (of_decide_eq_false hcb')) (fun _ => k)
          · exact lv_if_ne hx hb hd (tk_eq h1) (fun z => absurd z (of_decide_eq_false hcb')) (fun _ => k)
          · exact lv_if_lt hx hb hd (tk_eq h1) (fun z => absurd z (of_decide_eq_false hcb')) (fun _ => k)
          · exact lv_if_ge hx hb hd (tk_eq h1) (fun z => absurd z (of_decide_eq_false hcb')) (fun _ => k)
          · exact lv_if_gt hx hb hd (tk_eq h1) (fun z => absurd z (of_decide_eq_false hcb')) (fun _ => k)
          · exact lv_if_le hx hb hd (tk_eq h1) (fun z => absurd z (of_decide_eq_false hcb')) (fun _ => k)
      · cases hv
    · cases hv
  case h_3 cc o =>
    cases lok_eq hk
    split at hv
    · rename_i y x r
      split at hv
      · rename_i h1
        split at hv
        · rename_i hcb
          cases hv
          have k := go (fun w z => List.mem_cons_of_mem _ (List.mem_cons_of_mem _ z))
          cases cc
          · exact lv_icmp_eq hx hb hd (tk_eq h1) (fun _ => k) (fun z => absurd (of_decide_eq_true hcb) z)
          · exact lv_icmp_ne hx hb hd (tk_eq h1) (fun _ => k) (fun z => absurd z (of_decide_eq_true hcb))
          · exact lv_icmp_lt hx hb hd (tk_eq h1) (fun _ => k) (fun z => absurd (of_decide_eq_true hcb) z)
          · exact lv_icmp_ge hx hb hd (tk_eq h1) (fun _ => k) (fun z => absurd (of_decide_eq_true hcb) z)
          · exact lv_icmp_gt hx hb hd (tk_eq h1) (fun _ => k) (fun z => absurd (of_decide_eq_true hcb) z)
          · exact lv_icmp_le hx hb hd (tk_eq h1) (fun _ => k) (fun z => absurd (of_decide_eq_true hcb) z)
        · rename_i hcb
          cases hv
          have k := go (fun w z => List.mem_cons_of_mem _ (List.mem_cons_of_mem _ z))
          have hcb' : cb_ cc x y = false := by simpa using hcb
          cases cc
          · exact lv_icmp_eq hx hb hd (tk_eq h1) (fun z => absurd z (of_decide_eq_false hcb')) (fun _ => k)
          · exact lv_icmp_ne hx hb hd (tk_eq h1) (fun z => absurd z (of_decide_eq_false hcb')) (fun _ => k)
          · exact lv_icmp_lt hx hb hd (tk_eq h1) (fun z => absurd z (of_decide_eq_false hcb')) (fun _ => k)
          · exact lv_icmp_ge hx hb hd (tk_eq h1) (fun z => absurd z (of_decide_eq_false hcb')) (fun _ => k)
          · exact lv_icmp_gt hx hb hd (tk_eq h1) (fun z => absurd z (of_decide_eq_false hcb')) (fun _ => k)
          · exact lv_icmp_le hx hb hd (tk_eq h1) (fun z => absurd z (of_decide_eq_false hcb')) (fun _ => k)
      · cases hv
    · cases hv
  case h_4 o =>
    cases lok_eq hk
    split at hv
    · rename_i x r
      split at hv
      · rename_i h1
        split at hv
        · rename_i hx0
          cases hv
          subst hx0
          exact lv_ifnullN hx hb hd (tk_eq h1) (go (fun w z => List.mem_cons_of_mem _ z))
        · rename_i hx0
          cases hv
          cases x with
          | none => exact absurd rfl hx0
          | some x => exact lv_ifnull hx hb hd (go (fun w z => List.mem_cons_of_mem _ z))
      · cases hv
    · cases hv
  case h_5 o =>
    cases lok_eq hk
    split at hv
    · rename_i x r
      split at hv
      · rename_i h1
        split at hv
        · rename_i hx0
          cases hv
          subst hx0
          exact lv_ifnonnullN hx hb hd (go (fun w z => List.mem_cons_of_mem _ z))
        · rename_i hx0
          cases hv
          cases x with
          | none => exact absurd rfl hx0
          | some x => exact lv_ifnonnull hx hb hd (tk_eq h1) (go (fun w z => List.mem_cons_of_mem _ z))
      · cases hv
    · cases hv
  case h_6 cc o =>
    cases lok_eq hk
    split at hv
    · rename_i y x r
      split at hv
      · rename_i h1
        have inj := rf_inj hKC.2.2.1 h1.1 h1.2.1
        split at hv
        · rename_i hcb
          cases hv
          have k := go (fun w z => List.mem_cons_of_mem _ (List.mem_cons_of_mem _ z))
          cases cc
          · exact lv_acmp_eq hx hb hd (tk_eq h1.2.2) (fun _ => k) (fun z => absurd (inj.mpr (of_decide_eq_true hcb)) z)
          · exact lv_acmp_ne hx hb hd (tk_eq h1.2.2) (fun _ => k) (fun z => absurd (inj.mp z) (of_decide_eq_true hcb))
        · rename_i hcb
          cases hv
          have k := go (fun w z => List.mem_cons_of_mem _ (List.mem_cons_of_mem _ z))
          have hcb' : ca_ cc x y = false := by simpa using hcb
          cases cc
          · exact lv_acmp_eq hx hb hd (tk_eq h1.2.2) (fun z => absurd (inj.mp z) (of_decide_eq_false hcb')) (fun _ => k)
          · exact lv_acmp_ne hx hb hd (tk_eq h1.2.2) (fun z => absurd (show ¬ x = y from fun q9 => z (inj.mpr q9)) (of_decide_eq_false hcb')) (fun _ => k)
      · cases hv
    · cases hv
  case h_7 dl lo hi os =>
    split at hv
    · rename_i x r
      split at hv
      · rename_i h1
        split at hv
        · rename_i h2
          cases hv
          exact lv_tableOut hx hb hd h1 (tk_eq h2) (go (fun w z => List.mem_cons_of_mem _ z))
        · cases hv
      · rename_i h1
        split at hv
        · rename_i o9 h9
          split at hv
          · rename_i h2
            cases hv
            exact lv_tableIn hx hb hd (fun z => h1 (Or.inl z)) (fun z => h1 (Or.inr z)) h9 (tk_eq h2) (go (fun w z => List.mem_cons_of_mem _ z))
          · cases hv
        · cases hv
    · cases hv
  case h_8 => cases hv
theorem va_ldcSw (hexec : p.tables.exec = Jvm.exec) {cc : ByteArray} {la : Array Slot} {rest : List Value} {H : Heap} {locs : List Loc} {cells slots : Nat} (hb : c.code = cc) {own tx : String} {index q : Nat} (hown : s.vm.findClass own = some m.cls) (hZ : vk_R own index tx q s) (hdg : decode cc pc = .ok (.ldc_w index, 3))
    (k : W p l e R s m args below meth c H locs cells slots Q (F0 m (pc + 3) la (.ref q :: rest))) : W p l e R s m args below meth c H locs cells slots Q (F0 m pc la rest) := by
  intro T hT X
  obtain ⟨t, a1, b1⟩ := k T hT X
  exact ⟨t, X.ldcStringW hexec hown (text := tx) (a := q) hZ.1 hZ.2 (g := F0 m pc la rest) rfl (by rw [hb]; exact hdg) t a1, b1⟩
theorem zgw_ {w : Cond} {j : Nat} (ht : ∀ w ∈ gtb_, w.before args s = true) (h1 : lw_tbl[j]? = some w) (hg : goodWord w = true) : w.before args s = true := ht w (wd_ h1 hg)
theorem kap_lt {q : Nat} (hq : q < 200) : kap_ q < 18 := by
  have h := List.all_eq_true.mp okE_ q (List.mem_range.mpr hq)
  by_cases h0 : q = 178
  · subst h0; decide +kernel
  · simp only [Bool.or_eq_true, beq_iff_eq, h0, false_or, ckE_, Bool.and_eq_true, decide_eq_true_iff] at h
    exact h.2.2.2
theorem kst_mem {k x : Nat} {e9 : AV × Nat × Nat} (hk : k < 18) (h9 : kst_ k x = some e9) : ckk_ k (x, e9) = true := pool_all okk_ hk h9
theorem str_rtb : (kpl_.getD 8 []).all (fun q => q.2.2.2 != 2 || rtb_.any (fun r => r.1 == clnm_ 8 && r.2.1 == q.1 && decide (q.2.1 = vA (some r.2.2.2)) && decide (32 ≤ kd_ r.2.2.2) && decide (r.2.2.2 ∈ strs_) && decide (sr_ r.2.2.2 < 96))) = true := by decide +kernel
theorem stb_vc : stb_.all (fun q => match q.2.2.2 with | .inr (.inr (.inl (some b))) => (decide (32 ≤ kd_ b) && (decide (b ∈ (List.range 22).map tok_) || decide (b = tka_))) | _ => true) = true := by decide +kernel
theorem cid_tok {k : Nat} (hk : k < 22) : tok_ k ∈ cids_ L := by
  unfold cids_
  exact List.mem_cons_of_mem _ (List.mem_append_left _ (List.mem_map.mpr ⟨k, List.mem_range.mpr hk, rfl⟩))
theorem cid_tka : tka_ ∈ cids_ L := by
  unfold cids_
  exact List.mem_cons_of_mem _ (List.mem_append_right _ List.mem_cons_self)
theorem cid_str {b : Nat} (hb : b ∈ strs_) : b ∈ cids_ L := by
  unfold cids_
  exact List.mem_cons_of_mem _ (List.mem_append_right _ (List.mem_cons_of_mem _ (List.mem_append_left _ hb)))
theorem cid_byt {b : Nat} (hb : b ∈ byts_) : b ∈ cids_ L := by
  unfold cids_
  exact List.mem_cons_of_mem _ (List.mem_append_right _ (List.mem_cons_of_mem _ (List.mem_append_right _ hb)))
theorem obind_some {α β : Type} {o : Option α} {f : α → Option β} {r : β} (h : o.bind f = some r) : ∃ a, o = some a ∧ f a = some r := by
  cases o with
  | none => cases h
  | some a => exact ⟨a, rfl, h⟩
theorem ki_eq {e9 : AV × Nat × Nat} (hv : ki_ e9 = some v) : (∃ y j9, e9 = (.inl y, j9, 0) ∧ v = .inl y) ∨ ∃ j9, e9 = (v, j9, 2) := by
  obtain ⟨w, j9, z9⟩ := e9
  unfold ki_ at hv
  dsimp only at hv
  split at hv
  · rename_i h1
    cases hv
    subst h1
    exact Or.inr ⟨j9, rfl⟩
  · split at hv
    · rename_i h1
      subst h1
      split at hv
      · cases hv
        exact Or.inl ⟨_, j9, rfl, rfl⟩
      · cases hv
    · cases hv
theorem kj_eq {e9 : AV × Nat × Nat} (hv : kj_ e9 = some v) : ∃ y j9, e9 = (.inr (.inl y), j9, 0) ∧ v = .inr (.inl y) := by
  obtain ⟨w, j9, z9⟩ := e9
  unfold kj_ at hv
  dsimp only at hv
  split at hv
  · rename_i h1
    subst h1
    split at hv
    · cases hv
      exact ⟨_, j9, rfl, rfl⟩
    · cases hv
  · cases hv
theorem ki_vc {e9 : AV × Nat × Nat} (h1 : vc_ L h e9.1) (hv : ki_ e9 = some v) : vc_ L h v := by
  rcases ki_eq hv with ⟨y, j9, rfl, rfl⟩ | ⟨j9, rfl⟩
  · exact vcI
  · exact h1
theorem str_of {k x j9 : Nat} (hk : k < 18) (h9 : kst_ k x = some (v, j9, 2)) : k = 8 ∧ ∃ r, r ∈ rtb_ ∧ r.1 = clnm_ 8 ∧ r.2.1 = x ∧ v = vA (some r.2.2.2) := by
  have hc := kst_mem hk h9
  have h8 : k = 8 := of_decide_eq_true hc
  subst h8
  have h5 := List.all_eq_true.mp str_rtb _ (lookup_mem h9)
  simp only [bne_self_eq_false, Bool.false_or] at h5
  obtain ⟨r, hr, hr2⟩ := List.any_eq_true.mp h5
  simp only [Bool.and_eq_true, decide_eq_true_iff, beq_iff_eq] at hr2
  exact ⟨rfl, r, hr, hr2.1.1.1.1.1, hr2.1.1.1.1.2, hr2.1.1.1.2⟩
theorem sd_exk (C : Cx_ p l R s m args meth c dC dI cy op B0 L xs q) (hd : decode (cod_ q) pc = .ok (i, len)) (hk : lok_ i len = true) (hv : exk_ (kap_ q) i = some v) (K : Sm_ p l e R s m args below meth c dC dI cy op B0 L xs ad0 n0 s0 Q q (pc + len) ls (v :: st) h) : Sm_ p l e R s m args below meth c dC dI cy op B0 L xs ad0 n0 s0 Q q pc ls st h := by
  obtain ⟨⟨hx, hb, hml, ho, ht⟩, hK0, ⟨hB, hL4, hq200⟩, hlk, hrt, hnm, hst⟩ := C
  intro ad la H locs e1 hR hKC hL hc1 hc2 hF hS hn hs
  have hkl := kap_lt hq200
  have one : ∀ {x : Nat} {e9 : AV × Nat × Nat}, kst_ (kap_ q) x = some e9 → vc_ L h e9.1 := by
    intro x e9 h9 b hb9
    have hc := kst_mem hkl h9
    obtain ⟨v9, j9, z9⟩ := e9
    dsimp only at hb9
    subst hb9
    unfold ckk_ at hc
    dsimp only at hc
    split at hc
    · cases hc
    · obtain ⟨r, hr, hr2⟩ := List.any_eq_true.mp hc
      simp only [Bool.and_eq_true, decide_eq_true_iff] at hr2
      have h5 := List.all_eq_true.mp stb_vc r hr
      have h6 := List.all_eq_true.mp stb_sr r hr
      rw [hr2.2] at h5 h6
      simp only [Bool.and_eq_true, Bool.or_eq_true, decide_eq_true_iff] at h5 h6
      refine ⟨Nat.lt_of_lt_of_le h6 hR.2.2.2.2.2, fun z => by omega, fun _ => Or.inr ?_⟩
      rcases h5.2 with h7 | h7
      · obtain ⟨k9, g1, g2⟩ := List.mem_map.mp h7
        rw [← g2]
        exact cid_tok (List.mem_range.mp g1)
      · rw [h7]; exact cid_tka
    · have h8 : kap_ q = 8 := of_decide_eq_true hc
      rw [h8] at h9
      have h5 := List.all_eq_true.mp str_rtb _ (lookup_mem h9)
      simp only [bne_self_eq_false, Bool.false_or] at h5
      obtain ⟨r, hr, hr2⟩ := List.any_eq_true.mp h5
      simp only [Bool.and_eq_true, decide_eq_true_iff] at hr2
      obtain ⟨⟨⟨⟨_, hva⟩, hkd⟩, hst9⟩, hsr⟩ := hr2
      cases hva
      exact ⟨Nat.lt_of_lt_of_le hsr hR.2.2.2.2.2, fun z => by omega, fun _ => Or.inr (cid_str hst9)⟩
    · cases hc
  unfold exk_ at hv
  split at hv
  case h_1 x =>
    cases lok_eq hk
    obtain ⟨e9, h9, hv⟩ := obind_some hv
    have k := K ad la H locs e1 hR hKC hL hc1 (all_cons (ki_vc (one h9) hv) hc2) hF hS hn hs
    rcases ki_eq hv with ⟨y, j9, rfl, rfl⟩ | ⟨j9, rfl⟩
    · exact lv_ldc hx hb ho (zgw_ ht (of_decide_eq_true (kst_mem hkl h9)) rfl) hd k
    · obtain ⟨h8, r, hr, g1, g2, rfl⟩ := str_of hkl h9
      have hz := hKC.2.1.1 r hr
      rw [g1, g2] at hz
      rw [h8] at ho
      exact va_ldcS hx hb ho hz hd k
  case h_2 x =>
    cases lok_eq hk
    obtain ⟨e9, h9, hv⟩ := obind_some hv
    have k := K ad la H locs e1 hR hKC hL hc1 (all_cons (ki_vc (one h9) hv) hc2) hF hS hn hs
    rcases ki_eq hv with ⟨y, j9, rfl, rfl⟩ | ⟨j9, rfl⟩
    · exact lv_ldcw hx hb ho (zgw_ ht (of_decide_eq_true (kst_mem hkl h9)) rfl) hd k
    · obtain ⟨h8, r, hr, g1, g2, rfl⟩ := str_of hkl h9
      have hz := hKC.2.1.1 r hr
      rw [g1, g2] at hz
      rw [h8] at ho
      exact va_ldcSw hx hb ho hz hd k
  case h_3 x =>
    cases lok_eq hk
    obtain ⟨e9, h9, hv⟩ := obind_some hv
    obtain ⟨y, j9, rfl, rfl⟩ := kj_eq hv
    have k := K ad la H locs e1 hR hKC hL hc1 (all_cons vcJ hc2) hF hS hn hs
    exact lv_ldc2 hx hb ho (zgw_ ht (of_decide_eq_true (kst_mem hkl h9)) rfl) hd k
  case h_4 x =>
    cases lok_eq hk
    obtain ⟨e9, h9, hv⟩ := obind_some hv
    obtain ⟨v9, j9, z9⟩ := e9
    dsimp only at hv
    split at hv
    · rename_i hz1
      cases hv
      subst hz1
      have k := K ad la H locs e1 hR hKC hL hc1 (all_cons (one h9) hc2) hF hS hn hs
      obtain ⟨r, hr, hr2⟩ := List.any_eq_true.mp (kst_mem hkl h9)
      simp only [Bool.and_eq_true, decide_eq_true_iff] at hr2
      have hz := hKC.1.1 r hr
      rw [hr2.2] at hz
      exact va_gets hx hb hz hS ho (zgw_ ht hr2.1 rfl) (fun _ z => z) hd k
    · cases hv
  case h_5 => cases hv
end PL3
