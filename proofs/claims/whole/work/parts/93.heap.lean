/-! the heap: fields, rows, new cells -/
def lyi_ : List (List Nat) := [[308, 310, 312, 314, 316, 318], [222, 224, 226, 228, 230, 232], [114, 116, 118, 120], [161, 163, 165, 167, 169], [363, 365, 367, 369, 371, 373, 375, 377, 379, 381], [187, 189, 191, 193, 195, 197, 199], [138, 140, 142, 144, 146], [249, 251, 253, 255, 257, 259, 261, 263, 265, 267, 269, 271, 273, 275], [1003, 1005, 1007, 1009, 1011, 1013, 1015, 1017, 1019, 1021, 1023, 1025, 1027, 1029, 1031, 1033, 1035, 1037, 1039, 1041, 1043, 1045, 1047, 1049, 1051, 1053, 1055, 1057, 1059, 1061, 1063, 1065, 1067, 1069, 1071, 1073, 1075, 1077, 1079, 1081, 1083, 1085, 1087, 1089, 1091, 1093, 1095, 1097, 1099, 1101, 1103, 1105, 1107, 1109, 1111, 1113, 1115, 1117, 1119, 1121, 1123]]
def inw_ : List (Nat × Nat) := [(290, 77), (204, 75), (105, 71), (150, 73), (340, 78), (173, 74), (126, 72), (93, 70), (937, 76)]
theorem lay_ck : (List.range 9).all (fun k => (List.range (nfl_ k)).all (fun p => decide (lw_tbl[(lyi_.getD k []).getD p 0]? = some (u_lay (clnm_ k) (T_ k) p)) && goodWord (u_lay (clnm_ k) (T_ k) p))) = true := by decide +kernel
theorem inw_ck : (List.range 9).all (fun k => decide (lw_tbl[(inw_.getD k (0, 0)).1]? = some (.instantiable (clnm_ k) (nfl_ k))) && decide (lw_tbl[(inw_.getD k (0, 0)).2]? = some (.initialized (clnm_ k)))) = true := by decide +kernel
theorem arr_ck : (decide (lw_tbl[124]? = some (.arrayClass .int)) && (decide (lw_tbl[202]? = some (.arrayClass .byte)) && (decide (lw_tbl[1126]? = some (.arrayClass .boolean)) && decide (lw_tbl[123]? = some (.arrayClass .long))))) = true := by decide +kernel
theorem vw_at {k : Nat} (hk : k < 9) : vwCl[k]? = some (clnm_ k, T_ k, nfl_ k) := by
  rcases (show k = 0 ∨ k = 1 ∨ k = 2 ∨ k = 3 ∨ k = 4 ∨ k = 5 ∨ k = 6 ∨ k = 7 ∨ k = 8 by omega) with rfl | rfl | rfl | rfl | rfl | rfl | rfl | rfl | rfl <;> rfl
theorem lay_in {k : Nat} (hk : k < 9) : ∀ w ∈ u_ws (clnm_ k) (T_ k) (nfl_ k), w ∈ gtb_ := by
  intro w hw
  obtain ⟨p, hp, rfl⟩ := List.mem_map.mp hw
  have h := List.all_eq_true.mp (List.all_eq_true.mp lay_ck k (List.mem_range.mpr hk)) p hp
  rw [Bool.and_eq_true, decide_eq_true_iff] at h
  exact wd_ h.1 h.2
theorem nm_ok {k : Nat} (hk : k < 9) : ∀ a, a < nfl_ k → ∀ b, b < nfl_ k → a ≠ b → (T_ k a).2.1 ≠ (T_ k b).2.1 := by
  rcases (show k = 0 ∨ k = 1 ∨ k = 2 ∨ k = 3 ∨ k = 4 ∨ k = 5 ∨ k = 6 ∨ k = 7 ∨ k = 8 by omega) with rfl | rfl | rfl | rfl | rfl | rfl | rfl | rfl | rfl
  · exact nmX0
  · exact nmX1
  · exact nmX2
  · exact nmX3
  · exact nmX4
  · exact nmX5
  · exact nmX7
  · exact nmX8
  · exact nmX9
def ty_ (k p : Nat) : FieldType := (parseFieldDescriptor (T_ k p).2.2.1).getD .int
theorem fT_spec {t : Nat} {d : String} (h : fT_ t d = true) : (t = 0 ∧ parseFieldDescriptor d = some .int) ∨ (t = 1 ∧ parseFieldDescriptor d = some .long) ∨ (t = 2 ∧ ∃ ty, parseFieldDescriptor d = some ty ∧ ((∃ n, ty = .object n) ∨ ∃ u, ty = .array u)) ∨ (t = 3 ∧ parseFieldDescriptor d = some .boolean) ∨ (t = 4 ∧ parseFieldDescriptor d = some .byte) := by
  unfold fT_ at h
  split at h
  · rename_i e1; exact Or.inl ⟨rfl, e1⟩
  · rename_i e1; exact Or.inr (Or.inl ⟨rfl, e1⟩)
  · rename_i n e1; exact Or.inr (Or.inr (Or.inl ⟨rfl, _, e1, Or.inl ⟨n, rfl⟩⟩))
  · rename_i n e1; exact Or.inr (Or.inr (Or.inl ⟨rfl, _, e1, Or.inr ⟨n, rfl⟩⟩))
  · rename_i e1; exact Or.inr (Or.inr (Or.inr (Or.inl ⟨rfl, e1⟩)))
  · rename_i e1; exact Or.inr (Or.inr (Or.inr (Or.inr ⟨rfl, e1⟩)))
  · cases h
theorem ft_ok {k p : Nat} (hk : k < 9) (hp : p < nfl_ k) : fT_ (ft_ k p) (T_ k p).2.2.1 = true := List.all_eq_true.mp (List.all_eq_true.mp zokt_ k (List.mem_range.mpr hk)) p (List.mem_range.mpr hp)
theorem ty_ok {k : Nat} (hk : k < 9) : ∀ p, p < nfl_ k → parseFieldDescriptor (T_ k p).2.2.1 = some (ty_ k p) := by
  intro p hp
  unfold ty_
  rcases fT_spec (ft_ok hk hp) with ⟨-, e1⟩ | ⟨-, e1⟩ | ⟨-, ty, e1, -⟩ | ⟨-, e1⟩ | ⟨-, e1⟩ <;> rw [e1] <;> rfl
theorem pic_at {cy : Nat → ClassId} {ad : Nat → Nat} {h : AH} {a : Nat} (ha : a ∈ ids_ h) : ∃ k : Nat, (ids_ h)[k]? = some a ∧ (zpc_ cy ad h)[k]? = some (ad a, ce_ cy ad h a) := by
  obtain ⟨k, hk⟩ := List.getElem?_of_mem ha
  exact ⟨k, hk, by unfold zpc_; rw [List.getElem?_map, hk]; rfl⟩
theorem pic_set {cy : Nat → ClassId} {ad : Nat → Nat} {h h' : AH} {a k : Nat} (hid : ids_ h' = ids_ h) (hnd : (ids_ h).Nodup) (hk : (ids_ h)[k]? = some a) (hne : ∀ b, b ≠ a → ce_ cy ad h' b = ce_ cy ad h b) : (zpc_ cy ad h).set k (ad a, ce_ cy ad h' a) = zpc_ cy ad h' := by
  apply List.ext_getElem?
  intro j
  unfold zpc_
  rw [hid, List.getElem?_set, List.getElem?_map, List.length_map, List.getElem?_map]
  split
  · rename_i e9
    subst e9
    rw [if_pos (List.getElem?_eq_some_iff.mp hk).1, hk]
    rfl
  · rename_i e9
    cases hj : (ids_ h)[j]? with
    | none => rfl
    | some b =>
      have hb : b ≠ a := by
        intro z
        subst z
        exact e9 ((List.getElem?_inj (List.getElem?_eq_some_iff.mp hk).1 hnd).mp (hk.trans hj.symm))
      show some (ad b, ce_ cy ad h b) = some (ad b, ce_ cy ad h' b)
      rw [hne b hb]
theorem fs_len {ad : Nat → Nat} {h : AH} {a : Nat} : (fs_ ad h a).length = nfl_ (kd_ a) := by unfold fs_; rw [List.length_map, List.length_range]
theorem fs_at {ad : Nat → Nat} {h : AH} {a p : Nat} (hp : p < nfl_ (kd_ a)) : (fs_ ad h a)[p]? = some (if ft_ (kd_ a) p = 1 then .long (hL_ h a p) else if ft_ (kd_ a) p = 2 then va_rf ((hR_ h a p).map ad) else .int (hI_ h a p)) := by
  unfold fs_
  rw [List.getElem?_map, List.getElem?_range hp]
  rfl
theorem fs_set {ad : Nat → Nat} {h h' : AH} {a p : Nat} {w : Value} (hw : w = (if ft_ (kd_ a) p = 1 then .long (hL_ h' a p) else if ft_ (kd_ a) p = 2 then va_rf ((hR_ h' a p).map ad) else .int (hI_ h' a p)))
    (hI : ∀ j, j ≠ p → hI_ h' a j = hI_ h a j) (hL : ∀ j, j ≠ p → hL_ h' a j = hL_ h a j) (hR : ∀ j, j ≠ p → hR_ h' a j = hR_ h a j) : (fs_ ad h a).set p w = fs_ ad h' a := by
  apply List.ext_getElem?
  intro j
  by_cases hj : j < nfl_ (kd_ a)
  · rw [List.getElem?_set, fs_at hj, fs_at hj, fs_len]
    split
    · rename_i e9
      subst e9
      rw [if_pos hj, hw]
    · rename_i e9
      rw [hI j (Ne.symm e9), hL j (Ne.symm e9), hR j (Ne.symm e9)]
  · rw [List.getElem?_eq_none (by rw [List.length_set, fs_len]; omega), List.getElem?_eq_none (by rw [fs_len]; omega)]
theorem vA_inj {o : Option Nat} {b : Nat} (h : (Sum.inr (Sum.inr (Sum.inl o)) : AV) = .inr (.inr (.inl (some b)))) : o = some b := by
  injection h with h
  injection h with h
  injection h
section HP
variable {p : Program} {l : Launch} {e : Env} {R : Room} {s : State} {m : MethodId} {args : Array Value} {below : List Frame} {meth : Method} {c : Code} {dC : Nat → ClassId} {dI : Nat → Nat → Nat} {cy : Nat → ClassId} {op : Value} {B0 L : Nat} {xs : Nat → Int32} {ad0 : Nat → Nat} {n0 s0 : Nat} {Q : State → Prop} {q pc len pc' : Nat} {ls st ls' st' : List AV} {h h' : AH} {i : Instr} {v : AV}
theorem fld_mem {k x : Nat} {e9 : Nat × Nat × Nat × Nat} (hk : k < 18) (h9 : fld_ k x = some e9) : ckf_ k (x, e9) = true := pool_all okf_ hk h9
theorem fld_own {k x kk pl t j : Nat} (hk : k < 18) (h9 : fld_ k x = some (kk, pl, t, j)) (hkk : kk < 16) : kk < 9 ∧ pl < nfl_ kk ∧ ft_ kk pl = t ∧ fT_ t (T_ kk pl).2.2.1 = true ∧ lw_tbl[j]? = some (.fieldLink (clnm_ k) x (T_ kk pl).1 (T_ kk pl).2.1 (T_ kk pl).2.2.1) ∧ (T_ kk pl).1 = clnm_ kk := by
  have hc := fld_mem hk h9
  unfold ckf_ at hc
  dsimp only at hc
  rw [if_pos hkk] at hc
  simp only [Bool.and_eq_true, decide_eq_true_iff] at hc
  exact ⟨hc.1, hc.2.1, hc.2.2.1, hc.2.2.2.1, hc.2.2.2.2.1, hc.2.2.2.2.2⟩
theorem ids_of {a : Nat} (hv : vl_ L h a) (hk : kd_ a < 16) : a ∈ ids_ h := hv.2.1 (by omega)
theorem tokC {a : Nat} (hv : vl_ L h a) (hk : kd_ a = 32) (hL4 : L < 4096) : ∃ k, k < 22 ∧ a = tok_ k := by
  rcases hv.2.2 (by omega) with h1 | h1
  · omega
  · unfold cids_ at h1
    rcases List.mem_cons.mp h1 with h2 | h2
    · rw [h2] at hk; unfold kd_ scr_ at hk; omega
    · rcases List.mem_append.mp h2 with h3 | h3
      · obtain ⟨k, g1, g2⟩ := List.mem_map.mp h3
        exact ⟨k, List.mem_range.mp g1, g2.symm⟩
      · exfalso
        have hall : (tka_ :: (strs_ ++ byts_)).all (fun b => kd_ b != 32) = true := by decide +kernel
        have := List.all_eq_true.mp hall a h3
        simp [hk] at this
theorem strC {a : Nat} (hv : vl_ L h a) (hk : kd_ a = 33) : a ∈ strs_ := by
  rcases hv.2.2 (by omega) with h1 | h1
  · omega
  · unfold cids_ at h1
    rcases List.mem_cons.mp h1 with h2 | h2
    · rw [h2] at hk; unfold kd_ scr_ at hk; omega
    · rcases List.mem_append.mp h2 with h3 | h3
      · obtain ⟨k, g1, g2⟩ := List.mem_map.mp h3
        rw [← g2] at hk; unfold kd_ tok_ at hk; omega
      · rcases List.mem_cons.mp h3 with h4 | h4
        · rw [h4] at hk; exact absurd hk (by decide +kernel)
        · rcases List.mem_append.mp h4 with h5 | h5
          · exact h5
          · exfalso
            have hall : byts_.all (fun b => kd_ b != 33) = true := by decide +kernel
            have := List.all_eq_true.mp hall a h5
            simp [hk] at this
theorem bytC {a : Nat} (hv : vl_ L h a) (hk : kd_ a = 34) : a ∈ byts_ := by
  rcases hv.2.2 (by omega) with h1 | h1
  · omega
  · unfold cids_ at h1
    rcases List.mem_cons.mp h1 with h2 | h2
    · rw [h2] at hk; unfold kd_ scr_ at hk; omega
    · rcases List.mem_append.mp h2 with h3 | h3
      · obtain ⟨k, g1, g2⟩ := List.mem_map.mp h3
        rw [← g2] at hk; unfold kd_ tok_ at hk; omega
      · rcases List.mem_cons.mp h3 with h4 | h4
        · rw [h4] at hk; exact absurd hk (by decide +kernel)
        · rcases List.mem_append.mp h4 with h5 | h5
          · exfalso
            have hall : strs_.all (fun b => kd_ b != 34) = true := by decide +kernel
            have := List.all_eq_true.mp hall a h5
            simp [hk] at this
          · exact h5
theorem scrC {a : Nat} (hv : vl_ L h a) (hk : kd_ a = 36) : a = scr_ L := by
  rcases hv.2.2 (by omega) with h1 | h1
  · omega
  · unfold cids_ at h1
    rcases List.mem_cons.mp h1 with h2 | h2
    · exact h2
    · rcases List.mem_append.mp h2 with h3 | h3
      · obtain ⟨k, g1, g2⟩ := List.mem_map.mp h3
        rw [← g2] at hk; unfold kd_ tok_ at hk; omega
      · exfalso
        have hall : (tka_ :: (strs_ ++ byts_)).all (fun b => kd_ b != 36) = true := by decide +kernel
        have := List.all_eq_true.mp hall a h3
        simp [hk] at this
theorem tkaC {a : Nat} (hv : vl_ L h a) (hk : kd_ a = 35) : a = tka_ := by
  rcases hv.2.2 (by omega) with h1 | h1
  · omega
  · unfold cids_ at h1
    rcases List.mem_cons.mp h1 with h2 | h2
    · rw [h2] at hk; unfold kd_ scr_ at hk; omega
    · rcases List.mem_append.mp h2 with h3 | h3
      · obtain ⟨k, g1, g2⟩ := List.mem_map.mp h3
        rw [← g2] at hk; unfold kd_ tok_ at hk; omega
      · rcases List.mem_cons.mp h3 with h4 | h4
        · exact h4
        · exfalso
          have hall : (strs_ ++ byts_).all (fun b => kd_ b != 35) = true := by decide +kernel
          have := List.all_eq_true.mp hall a h4
          simp [hk] at this
theorem cR_vl : ((List.range 22).all (fun k => match cR_ (tok_ k) 1 with | some b => decide (b ∈ strs_) && decide (kd_ b = 33) | none => false)) = true := by decide +kernel
theorem cR_vs : (strs_.all (fun a => match cR_ a 0 with | some b => decide (b ∈ byts_) && decide (kd_ b = 34) | none => false)) = true := by decide +kernel
theorem vl_str {b : Nat} (hn : 96 ≤ nx_ h) (hb : b ∈ strs_) (hk : kd_ b = 33) : vl_ L h b := by
  have h1 := List.all_eq_true.mp strs_sr b hb
  rw [Bool.and_eq_true, decide_eq_true_iff] at h1
  exact ⟨by omega, fun z => by omega, fun _ => Or.inr (cid_str hb)⟩
theorem vl_byt {b : Nat} (hn : 96 ≤ nx_ h) (hb : b ∈ byts_) (hk : kd_ b = 34) : vl_ L h b := by
  have h1 : sr_ b < 96 := by simpa using List.all_eq_true.mp byts_sr b hb
  exact ⟨by omega, fun z => by omega, fun _ => Or.inr (cid_byt hb)⟩
theorem vl_tok {k : Nat} (hn : 96 ≤ nx_ h) (hk : k < 22) : vl_ L h (tok_ k) := by
  refine ⟨?_, fun z => ?_, fun _ => Or.inr (cid_tok hk)⟩
  · unfold sr_ tok_; omega
  · unfold kd_ tok_ at z; omega
/-- getfield -/
theorem sd_get {x : Nat} (C : Cx_ p l R s m args meth c dC dI cy op B0 L xs q) (hd : decode (cod_ q) pc = .ok (.getfield x, 3)) {ini : Bool} (hv : exh_ xs (kap_ q) ini (.getfield x) st h = some (st', h')) (K : Sm_ p l e R s m args below meth c dC dI cy op B0 L xs ad0 n0 s0 Q q (pc + 3) ls st' h') : Sm_ p l e R s m args below meth c dC dI cy op B0 L xs ad0 n0 s0 Q q pc ls st h := by
  obtain ⟨⟨hx, hb, hml, ho, ht⟩, hK0, ⟨hB, hL4, hq200⟩, hlk, hrt, hnm, hst⟩ := C
  intro ad la H locs e1 hR hKC hL hc1 hc2 hF hS hn hs
  unfold exh_ at hv
  dsimp only at hv
  split at hv
  · rename_i e9 kk pl t j a r hf
    split at hv
    · rename_i hkd
      have hva : vl_ L h a := hc2 _ List.mem_cons_self a rfl
      have hcr : ∀ w ∈ r, vc_ L h w := fun w hw => hc2 w (List.mem_cons_of_mem _ hw)
      split at hv
      · rename_i hk16
        obtain ⟨h9, hpl, hft, hfT, hlk2, hcl⟩ := fld_own (kap_lt hq200) hf hk16
        have hkd' := hkd
        obtain ⟨k, hk1, hk2⟩ := pic_at (cy := cy) (ad := ad) (ids_of hva (by omega))
        have hce : ce_ cy ad h a = .inr (kk, fs_ ad h a) := by unfold ce_; rw [if_pos (by omega), hkd]
        rw [hce] at hk2
        have hval : (fs_ ad h a)[pl]? = _ := fs_at (by rw [hkd]; exact hpl)
        rw [hkd, hft] at hval
        have fin : ∀ {w : AV}, (fs_ ad h a)[pl]? = some (cv_ ad op w) → vc_ L h w → (st', h') = (w :: r, h) → W p l e R s m args below meth c H locs (nx_ h - n0) (sl_ h - s0) Q (F0 m pc la (((.inr (.inr (.inl (some a))) :: r) : List AV).map (cv_ ad op))) := by
          intro w hw hvw heq
          cases heq
          exact va_get hx hb ht (lay_in h9) ho hK0 hR.1 k hk2 (vw_at h9) pl hpl (zgw_ ht hlk2 rfl) (fun _ z => z) hw hd (K ad la H locs e1 hR hKC hL hc1 (all_cons hvw hcr) hF hS hn hs)
        split at hv
        · rename_i h1
          rw [if_pos h1] at hval
          exact fin (w := .inr (.inl (hL_ h a pl))) hval vcJ (Option.some.inj hv).symm
        · rename_i h1
          rw [if_neg h1] at hval
          split at hv
          · rename_i h2
            rw [if_pos h2] at hval
            exact fin (w := .inr (.inr (.inl (hR_ h a pl)))) hval (fun b hb9 => hR.2.2.2.2.1 a pl b (vA_inj hb9)) (Option.some.inj hv).symm
          · rename_i h2
            rw [if_neg h2] at hval
            exact fin (w := .inl (hI_ h a pl)) hval vcI (Option.some.inj hv).symm
      · rename_i hk16
        have hc := fld_mem (kap_lt hq200) hf
        unfold ckf_ at hc
        dsimp only at hc
        rw [if_neg hk16] at hc
        have fin : ∀ {w : AV} {o n d : String}, va_OF o n d (cv_ ad op w) (ad a) (A_ B0) s s.heap → lw_tbl[j]? = some (.fieldLink (clnm_ (kap_ q)) x o n d) → vc_ L h w → (st', h') = (w :: r, h) → W p l e R s m args below meth c H locs (nx_ h - n0) (sl_ h - s0) Q (F0 m pc la (((.inr (.inr (.inl (some a))) :: r) : List AV).map (cv_ ad op))) := by
          intro w o n d hof hwd hvw heq
          cases heq
          exact vk_getf hx hb hof hS ho (zgw_ ht hwd rfl) (fun _ z => z) hd (K ad la H locs e1 hR hKC hL hc1 (all_cons hvw hcr) hF hS hn hs)
        split at hc
        · rename_i h32
          obtain ⟨k, hk, rfl⟩ := tokC hva (hkd.trans h32) hL4
          obtain ⟨-, g1, g2⟩ := hKC.1.2.1 k hk
          simp only [Bool.or_eq_true, Bool.and_eq_true, decide_eq_true_iff] at hc
          rcases hc with ⟨⟨rfl, rfl⟩, hwd⟩ | ⟨⟨rfl, rfl⟩, hwd⟩
          · exact fin g1 hwd vcI (Option.some.inj hv).symm
          · have hcv := List.all_eq_true.mp cR_vl k (List.mem_range.mpr hk)
            refine fin (w := .inr (.inr (.inl (cR_ (tok_ k) 1)))) g2 hwd (fun b hb9 => ?_) (Option.some.inj hv).symm
            have hb8 : cR_ (tok_ k) 1 = some b := vA_inj hb9
            rw [hb8] at hcv
            simp only [Bool.and_eq_true, decide_eq_true_iff] at hcv
            exact vl_str hR.2.2.2.2.2 hcv.1 hcv.2
        · simp only [Bool.or_eq_true, Bool.and_eq_true, decide_eq_true_iff] at hc
          obtain ⟨h33, hc⟩ := hc
          have hst9 := strC hva (hkd.trans h33)
          obtain ⟨-, g1, g2⟩ := hKC.1.2.2.1 a hst9
          rcases hc with ⟨⟨rfl, rfl⟩, hwd⟩ | ⟨⟨rfl, rfl⟩, hwd⟩
          · have hcv := List.all_eq_true.mp cR_vs a hst9
            refine fin (w := .inr (.inr (.inl (cR_ a 0)))) g1 hwd (fun b hb9 => ?_) (Option.some.inj hv).symm
            have hb8 : cR_ a 0 = some b := vA_inj hb9
            rw [hb8] at hcv
            simp only [Bool.and_eq_true, decide_eq_true_iff] at hcv
            exact vl_byt hR.2.2.2.2.2 hcv.1 hcv.2
          · have hz : cI_ a 1 = 0 := by unfold cI_; rw [if_neg (by unfold kd_ at hkd; omega), if_neg (by unfold kd_ at hkd; omega)]
            refine fin (w := .inl (cI_ a 1)) (by rw [hz]; exact g2) hwd vcI (Option.some.inj hv).symm
    · cases hv
  · cases hv
end HP
