/-! writes -/
section HPB
variable {p : Program} {l : Launch} {e : Env} {R : Room} {s : State} {m : MethodId} {args : Array Value} {below : List Frame} {meth : Method} {c : Code} {dC : Nat → ClassId} {dI : Nat → Nat → Nat} {cy : Nat → ClassId} {op : Value} {B0 L : Nat} {xs : Nat → Int32} {ad0 : Nat → Nat} {n0 s0 : Nat} {Q : State → Prop} {q pc len pc' : Nat} {ls st ls' st' : List AV} {h h' : AH} {i : Instr} {v : AV}
/-- a write into the cell of a changes no other cell's picture -/
def oth_ (h h' : AH) (a : Nat) : Prop := ids_ h' = ids_ h ∧ nx_ h' = nx_ h ∧ sl_ h' = sl_ h ∧ ∀ b, b ≠ a → hI_ h' b = hI_ h b ∧ hL_ h' b = hL_ h b ∧ hR_ h' b = hR_ h b
theorem oth_I {a : Nat} {f : Nat → Int32} : oth_ h (uI_ h a f) a := ⟨rfl, rfl, rfl, fun b hb => ⟨by rw [hI_uI, if_neg hb], rfl, rfl⟩⟩
theorem oth_L {a : Nat} {f : Nat → Int64} : oth_ h (uL_ h a f) a := ⟨rfl, rfl, rfl, fun b hb => ⟨rfl, by rw [hL_uL, if_neg hb], rfl⟩⟩
theorem oth_R {a : Nat} {f : Nat → Option Nat} : oth_ h (uR_ h a f) a := ⟨rfl, rfl, rfl, fun b hb => ⟨rfl, rfl, by rw [hR_uR, if_neg hb]⟩⟩
theorem oth_ce {ad : Nat → Nat} {a : Nat} (ho : oth_ h h' a) : ∀ b, b ≠ a → ce_ cy ad h' b = ce_ cy ad h b := by
  intro b hb
  obtain ⟨h1, h2, h3⟩ := ho.2.2.2 b hb
  unfold ce_ fs_
  rw [h1, h2, h3]
theorem vl_same {b : Nat} (h1 : ids_ h' = ids_ h) (h2 : nx_ h' = nx_ h) (hv : vl_ L h b) : vl_ L h' b := by
  unfold vl_ at hv ⊢
  rw [h1, h2]
  exact hv
theorem vc_same (h1 : ids_ h' = ids_ h) (h2 : nx_ h' = nx_ h) (hv : vc_ L h v) : vc_ L h' v := fun b hb => vl_same h1 h2 (hv b hb)
/-- behind a write into the cell of a -/
theorem put_end {ad : Nat → Nat} {la : Array Slot} {H : Heap} {k a : Nat} (ho : oth_ h h' a) (hR : Rp_ dC dI cy B0 L ad h H) (hk : (ids_ h)[k]? = some a) (hr : ∀ pl b, hR_ h' a pl = some b → vl_ L h b)
    (e1 : ∀ a, sr_ a < n0 → ad a = ad0 a) (hKC : KC_ L xs op (A_ B0) ad s s.heap) (hL : Lr_ ad op (mxl_ q) ls la) (hc1 : ∀ v ∈ ls, vc_ L h v) (hc2 : ∀ v ∈ st', vc_ L h v) (hF : ∀ (i : Nat) (x : Int64), ls[i]? = some (vJ x) → i ∈ lgs_ q) (hn : n0 ≤ nx_ h) (hs : s0 ≤ sl_ h)
    (K : Sm_ p l e R s m args below meth c dC dI cy op B0 L xs ad0 n0 s0 Q q pc' ls st' h') {E : va_E} (hE : E = ce_ cy ad h' a) : ∀ (H1 : Heap) (locs1 : List Loc), va_P (dC, dI) vwCl ((zpc_ cy ad h).set k (ad a, E)) H1 → va_D (A_ B0) ((zpc_ cy ad h).set k (ad a, E)) → va_S (A_ B0) s.heap H1 locs1 → W p l e R s m args below meth c H1 locs1 (nx_ h - n0) (sl_ h - s0) Q (F0 m pc' la (st'.map (cv_ ad op))) := by
  intro H1 locs1 hP hD hS
  rw [hE, pic_set ho.1 hR.2.2.1 hk (oth_ce ho)] at hP hD
  have hn' : nx_ h' = nx_ h := ho.2.1
  have hs' : sl_ h' = sl_ h := ho.2.2.1
  rw [← hn', ← hs']
  refine K ad la H1 locs1 e1 ⟨hP, hD, ?_, ?_, ?_, ?_⟩ hKC hL (fun w hw => vc_same ho.1 hn' (hc1 w hw)) (fun w hw => vc_same ho.1 hn' (hc2 w hw)) hF hS (by omega) (by omega)
  · rw [ho.1]; exact hR.2.2.1
  · rw [ho.1, hn']; exact hR.2.2.2.1
  · intro a9 pl b hb
    refine vl_same ho.1 hn' ?_
    by_cases ha : a9 = a
    · subst ha; exact hr pl b hb
    · rw [(ho.2.2.2 a9 ha).2.2] at hb
      exact hR.2.2.2.2.1 a9 pl b hb
  · rw [hn']; exact hR.2.2.2.2.2
theorem fits_ref {o : Option Nat} {ty : FieldType} (h : (∃ n, ty = .object n) ∨ ∃ u, ty = .array u) : narrow ty (va_rf o) = va_rf o ∧ fits ty (va_rf o) = true := by
  rcases h with ⟨n, rfl⟩ | ⟨u, rfl⟩ <;> cases o <;> exact ⟨rfl, rfl⟩
theorem sd_put {x : Nat} {ini : Bool} (C : Cx_ p l R s m args meth c dC dI cy op B0 L xs q) (hini : ini = ((nam_ q).name == "<init>")) (hd : decode (cod_ q) pc = .ok (.putfield x, 3)) (hv : exh_ xs (kap_ q) ini (.putfield x) st h = some (st', h')) (K : Sm_ p l e R s m args below meth c dC dI cy op B0 L xs ad0 n0 s0 Q q (pc + 3) ls st' h') : Sm_ p l e R s m args below meth c dC dI cy op B0 L xs ad0 n0 s0 Q q pc ls st h := by
  obtain ⟨⟨hx, hb, hml, ho, ht⟩, hK0, ⟨hB, hL4, hq200⟩, hlk, hrt, hnm, hst⟩ := C
  intro ad la H locs e1 hR hKC hL hc1 hc2 hF hS hn hs
  unfold exh_ at hv
  dsimp only at hv
  split at hv
  · rename_i e9 kk pl t j w a r hf
    split at hv
    · rename_i hcond
      obtain ⟨hkd, hk16, hfin⟩ := hcond
      have hva : vl_ L h a := hc2 _ (List.mem_cons_of_mem _ List.mem_cons_self) a rfl
      have hcr : ∀ z ∈ r, vc_ L h z := fun z hz => hc2 z (List.mem_cons_of_mem _ (List.mem_cons_of_mem _ hz))
      obtain ⟨h9, hpl, hft, hfT, hlk2, hcl⟩ := fld_own (kap_lt hq200) hf hk16
      obtain ⟨k, hk1, hk2⟩ := pic_at (cy := cy) (ad := ad) (ids_of hva (by omega))
      have hce : ∀ g : AH, ce_ cy ad g a = .inr (kk, fs_ ad g a) := fun g => by unfold ce_; rw [if_pos (by omega), hkd]
      rw [hce] at hk2
      have fin : ∀ {ty : FieldType}, parseFieldDescriptor (T_ kk pl).2.2.1 = some ty → narrow ty (cv_ ad op w) = cv_ ad op w → fits ty (cv_ ad op w) = true → oth_ h h' a → (∀ p b, hR_ h' a p = some b → vl_ L h b) → (fs_ ad h a).set pl (cv_ ad op w) = fs_ ad h' a → st' = r →
          W p l e R s m args below meth c H locs (nx_ h - n0) (sl_ h - s0) Q (F0 m pc la (((w :: .inr (.inr (.inl (some a))) :: r) : List AV).map (cv_ ad op))) := by
        intro ty hty hnw hfi hoth hrr hset hst9
        subst hst9
        have go := put_end (cy := cy) (K := K) (E := .inr (kk, (fs_ ad h a).set pl (cv_ ad op w))) hoth hR hk1 hrr e1 hKC hL hc1 hcr hF hn hs (by rw [hce, hset])
        rcases hfin with hf0 | ⟨hf0, hf1⟩
        · exact va_put hx hb ht (lay_in h9) (ty_ kk) (ty_ok h9) (nm_ok h9) ho hK0 hR.1 hR.2.1 hS k hk2 (vw_at h9) pl hpl (zgw_ ht hlk2 rfl) (fun _ z => z) (by
            unfold fnl_ at hf0
            exact hf0) hty hnw hfi (by rw [fs_len, hkd]; exact hpl) hd go
        · by_cases hfn : (T_ kk pl).2.2.2 = true
          · exact va_putF hx hb ht (lay_in h9) (ty_ kk) (ty_ok h9) (nm_ok h9) ho hK0 hR.1 hR.2.1 hS k hk2 (vw_at h9) pl hpl (zgw_ ht hlk2 rfl) (fun _ z => z) hfn (by rw [hnm]; rw [hini] at hf0; simpa using hf0) (by rw [hcl, hf1]) hty hnw hfi (by rw [fs_len, hkd]; exact hpl) hd go
          · exact va_put hx hb ht (lay_in h9) (ty_ kk) (ty_ok h9) (nm_ok h9) ho hK0 hR.1 hR.2.1 hS k hk2 (vw_at h9) pl hpl (zgw_ ht hlk2 rfl) (fun _ z => z) (by simpa using hfn) hty hnw hfi (by rw [fs_len, hkd]; exact hpl) hd go
      split at hv
      · rename_i y
        split at hv
        · rename_i hcond
          cases hv
          have hset : (fs_ ad h a).set pl (.int y) = fs_ ad (uI_ h a (st_ (hI_ h a) pl y)) a := by
            refine fs_set ?_ (fun j hj => ?_) (fun _ _ => rfl) (fun _ _ => rfl)
            · rw [hkd, hft, if_neg hcond.1, if_neg hcond.2.1, hI_uI, if_pos rfl, st_eq, if_pos rfl]
            · rw [hI_uI, if_pos rfl, st_eq, if_neg hj]
          rcases fT_spec hfT with ⟨rfl, ety⟩ | ⟨rfl, ety⟩ | ⟨rfl, ty, ety, -⟩ | ⟨rfl, ety⟩ | ⟨rfl, ety⟩
          · exact fin ety rfl rfl oth_I (fun p b hb9 => hR.2.2.2.2.1 a p b hb9) hset rfl
          · exact absurd rfl hcond.1
          · exact absurd rfl hcond.2.1
          · have hy : y = 0 ∨ y = 1 := nb_3.mp hcond.2.2
            refine fin ety ?_ ?_ oth_I (fun p b hb9 => hR.2.2.2.2.1 a p b hb9) hset rfl
            · rcases hy with rfl | rfl <;> rfl
            · rcases hy with rfl | rfl <;> rfl
          · have hy : y.toInt8.toInt32 = y := by simpa [nb_] using hcond.2.2
            refine fin ety ?_ ?_ oth_I (fun p b hb9 => hR.2.2.2.2.1 a p b hb9) hset rfl
            · show Value.int y.toInt8.toInt32 = Value.int y
              rw [hy]
            · have := pk_fb y
              rw [hy] at this
              exact this
        · cases hv
      · rename_i y
        split at hv
        · rename_i hcond
          cases hv
          subst hcond
          rcases fT_spec hfT with ⟨z, ety⟩ | ⟨-, ety⟩ | ⟨z, ty, ety, -⟩ | ⟨z, ety⟩ | ⟨z, ety⟩
          · cases z
          · refine fin ety rfl rfl oth_L (fun p b hb9 => hR.2.2.2.2.1 a p b hb9) (fs_set ?_ (fun _ _ => rfl) (fun j hj => ?_) (fun _ _ => rfl)) rfl
            · rw [hkd, hft, if_pos rfl, hL_uL, if_pos rfl, st_eq, if_pos rfl]; rfl
            · rw [hL_uL, if_pos rfl, st_eq, if_neg hj]
          · cases z
          · cases z
          · cases z
        · cases hv
      · rename_i y
        split at hv
        · rename_i hcond
          cases hv
          subst hcond
          rcases fT_spec hfT with ⟨z, ety⟩ | ⟨z, ety⟩ | ⟨-, ty, ety, hor⟩ | ⟨z, ety⟩ | ⟨z, ety⟩
          · cases z
          · cases z
          · refine fin ety (fits_ref hor).1 (fits_ref hor).2 oth_R (fun p b hb9 => ?_) (fs_set ?_ (fun _ _ => rfl) (fun _ _ => rfl) (fun j hj => ?_)) rfl
            · rw [hR_uR, if_pos rfl, st_eq] at hb9
              split at hb9
              · exact hc2 _ List.mem_cons_self b (by rw [hb9])
              · exact hR.2.2.2.2.1 a p b hb9
            · rw [hkd, hft, if_neg (by decide), if_pos rfl, hR_uR, if_pos rfl, st_eq, if_pos rfl]; rfl
            · rw [hR_uR, if_pos rfl, st_eq, if_neg hj]
          · cases z
          · cases z
        · cases hv
      · cases hv
    · cases hv
  · cases hv
theorem vp_of {i : Int32} {n : Nat} (hi : inb_ i n = true) : vp_in i n := vp_in_iff.mpr (inb_iff.mp hi)
/-- reads of arrays -/
theorem sd_ald (C : Cx_ p l R s m args meth c dC dI cy op B0 L xs q) {ini : Bool} (hi : i = .iaload ∨ i = .baload ∨ i = .laload ∨ i = .aaload ∨ i = .arraylength) (hd : decode (cod_ q) pc = .ok (i, 1)) (hv : exh_ xs (kap_ q) ini i st h = some (st', h')) (K : Sm_ p l e R s m args below meth c dC dI cy op B0 L xs ad0 n0 s0 Q q (pc + 1) ls st' h') : Sm_ p l e R s m args below meth c dC dI cy op B0 L xs ad0 n0 s0 Q q pc ls st h := by
  obtain ⟨⟨hx, hb, hml, ho, ht⟩, hK0, ⟨hB, hL4, hq200⟩, hlk, hrt, hnm, hst⟩ := C
  intro ad la H locs e1 hR hKC hL hc1 hc2 hF hS hn hs
  have vla : ∀ {w a r}, st = w :: .inr (.inr (.inl (some a))) :: r → vl_ L h a := fun hh => hc2 _ (by rw [hh]; exact List.mem_cons_of_mem _ List.mem_cons_self) _ rfl
  have vcr : ∀ {w a r}, st = w :: .inr (.inr (.inl (some a))) :: r → ∀ z ∈ r, vc_ L h z := fun hh z hz => hc2 z (by rw [hh]; exact List.mem_cons_of_mem _ (List.mem_cons_of_mem _ hz))
  have pic : ∀ {a : Nat}, vl_ L h a → 16 ≤ kd_ a → kd_ a ≤ 22 → ∃ k : Nat, (zpc_ cy ad h)[k]? = some (ad a, ce_ cy ad h a) := fun hva h1 h2 => by
    obtain ⟨k, -, hk2⟩ := pic_at (cy := cy) (ad := ad) (hva.2.1 (by omega))
    exact ⟨k, hk2⟩
  have ceI : ∀ {a : Nat}, 16 ≤ kd_ a → kd_ a < 19 → ce_ cy ad h a = .inl (cy (kd_ a), ln_ a, .inl (hI_ h a)) := fun h1 h2 => by unfold ce_; rw [if_neg (by omega), if_neg (by omega), if_pos h2]
  have ceL : ∀ {a : Nat}, kd_ a = 19 → ce_ cy ad h a = .inl (cy (kd_ a), ln_ a, .inr (.inl (hL_ h a))) := fun h1 => by unfold ce_; rw [if_neg (by omega), if_pos h1]
  have ceR : ∀ {a : Nat}, 20 ≤ kd_ a → ce_ cy ad h a = .inl (cy (kd_ a), ln_ a, .inr (.inr (.inr (.inr (fun j => (hR_ h a j).map ad))))) := fun h1 => by unfold ce_; rw [if_neg (by omega), if_neg (by omega), if_neg (by omega)]
  have tcell : ∀ {ty : FieldType} {t N : Nat} {f : Nat → Value}, va_T ty t N f (A_ B0) s s.heap → ∃ cell : Cell, H[t]? = some cell ∧ s.isArrayOf cell ty ∧ cell.vm ≠ .unknown ∧ N ≤ cell.slots.size ∧ cell.slots.size.toInt32 = Int32.ofNat N ∧ ∀ j : Nat, j < N → cell.slots[j]? = some (f j) := fun hT => by
    obtain ⟨cell, g1, g2, g3, g4, g5, g6, -⟩ := hT.kept hS.2.1
    exact ⟨cell, g1, g2, g3, g4, g5, g6⟩
  rcases hi with rfl | rfl | rfl | rfl | rfl
  · unfold exh_ at hv
    dsimp only at hv
    split at hv
    · rename_i j a r
      have hva := vla rfl
      split at hv
      · rename_i hin
        split at hv
        · rename_i hk
          cases hv
          obtain ⟨k, hk2⟩ := pic hva (by omega) (by omega)
          rw [ceI (by omega) (by omega), hk] at hk2
          exact va_iald hx hb hK0 hR.1 k 0 hk2 rfl (vp_of hin) hd (K ad la H locs e1 hR hKC hL hc1 (all_cons vcI (vcr rfl)) hF hS hn hs)
        · split at hv
          · rename_i hk
            cases hv
            have hsc := scrC hva hk
            obtain ⟨cell, g1, g2, g3, g4, g5, g6⟩ := tcell hKC.1.2.2.2.2.2.1
            rw [← hsc] at g1
            have hix := inb_iff.mp hin
            have hln : ln_ a = L := by rw [hsc]; unfold ln_ scr_; omega
            have hix' : vp_in j L := vp_in_iff.mpr (by rw [← hln]; exact hix)
            have hlt : j.toNatClampNeg < L := Nat.not_le.mp fun z => hix' (Or.inr z)
            exact W.iald hx hb g1 g2 g3 (fun z => z.elim (fun y => hix' (Or.inl y)) (fun y => by omega)) (g6 _ hlt) rfl rfl hd (K ad la H locs e1 hR hKC hL hc1 (all_cons vcI (vcr rfl)) hF hS hn hs)
          · cases hv
      · cases hv
    · cases hv
  · unfold exh_ at hv
    dsimp only at hv
    split at hv
    · rename_i j a r
      have hva := vla rfl
      split at hv
      · rename_i hin
        split at hv
        · rename_i hk
          cases hv
          obtain ⟨k, hk2⟩ := pic hva (by omega) (by omega)
          rw [ceI (by omega) (by omega)] at hk2
          rcases hk with hk | hk
          · rw [hk] at hk2
            exact va_bald hx hb hK0 hR.1 k 1 hk2 rfl (vp_of hin) hd (K ad la H locs e1 hR hKC hL hc1 (all_cons vcI (vcr rfl)) hF hS hn hs)
          · rw [hk] at hk2
            exact va_zald hx hb hK0 hR.1 k 2 hk2 rfl (vp_of hin) hd (K ad la H locs e1 hR hKC hL hc1 (all_cons vcI (vcr rfl)) hF hS hn hs)
        · split at hv
          · rename_i hk
            cases hv
            have hby := bytC hva hk
            obtain ⟨cell, g1, g2, g3, g4, g5, g6⟩ := tcell (hKC.1.2.2.2.1 a hby)
            have hix' : vp_in j (ln_ a) := vp_of hin
            have hlt : j.toNatClampNeg < ln_ a := Nat.not_le.mp fun z => hix' (Or.inr z)
            exact W.bald hx hb g1 g2 g3 (fun z => z.elim (fun y => hix' (Or.inl y)) (fun y => by omega)) (g6 _ hlt) rfl rfl hd (K ad la H locs e1 hR hKC hL hc1 (all_cons vcI (vcr rfl)) hF hS hn hs)
          · cases hv
      · cases hv
    · cases hv
  · unfold exh_ at hv
    dsimp only at hv
    split at hv
    · rename_i j a r
      have hva := vla rfl
      split at hv
      · rename_i hin
        cases hv
        obtain ⟨k, hk2⟩ := pic hva (by omega) (by omega)
        rw [ceL hin.2, hin.2] at hk2
        exact va_lald hx hb hK0 hR.1 k 3 hk2 rfl (vp_of hin.1) hd (K ad la H locs e1 hR hKC hL hc1 (all_cons vcJ (vcr rfl)) hF hS hn hs)
      · cases hv
    · cases hv
  · unfold exh_ at hv
    dsimp only at hv
    split at hv
    · rename_i j a r
      have hva := vla rfl
      split at hv
      · rename_i hin
        split at hv
        · rename_i hk
          cases hv
          obtain ⟨k, hk2⟩ := pic hva (by omega) (by omega)
          rw [ceR (by omega)] at hk2
          have kk := K ad la H locs e1 hR hKC hL hc1 (all_cons (v := .inr (.inr (.inl (hR_ h a j.toNatClampNeg)))) (fun b hb9 => hR.2.2.2.2.1 a _ b (vA_inj hb9)) (vcr rfl)) hF hS hn hs
          rcases hk with hk | hk | hk
          · rw [hk] at hk2
            exact va_aldq hx hb hK0 hR.1 k 4 hk2 rfl (vp_of hin) hd kk
          · rw [hk] at hk2
            exact va_aldq hx hb hK0 hR.1 k 5 hk2 rfl (vp_of hin) hd kk
          · rw [hk] at hk2
            exact va_aldq hx hb hK0 hR.1 k 6 hk2 rfl (vp_of hin) hd kk
        · split at hv
          · rename_i hk
            cases hv
            have htk := tkaC hva hk
            subst htk
            obtain ⟨cell, g1, g2, g3, g4, g5, g6⟩ := tcell hKC.1.2.2.2.2.1
            have hln : ln_ tka_ = 22 := by decide +kernel
            have hix' : vp_in j 22 := by rw [← hln]; exact vp_of hin
            have hlt : j.toNatClampNeg < 22 := Nat.not_le.mp fun z => hix' (Or.inr z)
            have hcr : cR_ tka_ j.toNatClampNeg = some (tok_ j.toNatClampNeg) := by
              unfold cR_ tok_
              rw [if_neg (by decide +kernel), if_neg (by decide +kernel), if_pos (by decide +kernel)]
            have kk := K ad la H locs e1 hR hKC hL hc1 (all_cons (v := .inr (.inr (.inl (cR_ tka_ j.toNatClampNeg)))) (fun b hb9 => by
              have := vA_inj hb9
              rw [hcr] at this
              cases this
              exact vl_tok hR.2.2.2.2.2 hlt) (vcr rfl)) hF hS hn hs
            exact W.aald hx hb g1 g2 rfl g3 (fun z => z.elim (fun y => hix' (Or.inl y)) (fun y => by omega)) (g6 _ hlt) rfl rfl hd kk
          · cases hv
      · cases hv
    · cases hv
  · unfold exh_ at hv
    dsimp only at hv
    split at hv
    · rename_i a r
      have hva : vl_ L h a := hc2 _ List.mem_cons_self _ rfl
      have hcr : ∀ z ∈ r, vc_ L h z := fun z hz => hc2 z (List.mem_cons_of_mem _ hz)
      split at hv
      · rename_i hk
        cases hv
        have kk := K ad la H locs e1 hR hKC hL hc1 (all_cons vcI hcr) hF hS hn hs
        rcases hk with hk | hk
        · obtain ⟨k, hk2⟩ := pic hva (by omega) (by omega)
          rcases (show kd_ a = 16 ∨ kd_ a = 17 ∨ kd_ a = 18 ∨ kd_ a = 19 ∨ kd_ a = 20 ∨ kd_ a = 21 ∨ kd_ a = 22 by omega) with hk | hk | hk | hk | hk | hk | hk
          · rw [ceI (by omega) (by omega), hk] at hk2
            exact va_alen hx hb hK0 hR.1 k 0 hk2 (ty := .int) rfl rfl hd kk
          · rw [ceI (by omega) (by omega), hk] at hk2
            exact va_alen hx hb hK0 hR.1 k 1 hk2 (ty := .byte) rfl rfl hd kk
          · rw [ceI (by omega) (by omega), hk] at hk2
            exact va_alen hx hb hK0 hR.1 k 2 hk2 (ty := .boolean) rfl rfl hd kk
          · rw [ceL hk, hk] at hk2
            exact va_alen hx hb hK0 hR.1 k 3 hk2 (ty := .long) rfl rfl hd kk
          · rw [ceR (by omega), hk] at hk2
            exact va_alen hx hb hK0 hR.1 k 4 hk2 (ty := .object RX0) rfl rfl hd kk
          · rw [ceR (by omega), hk] at hk2
            exact va_alen hx hb hK0 hR.1 k 5 hk2 (ty := .object RX4) rfl rfl hd kk
          · rw [ceR (by omega), hk] at hk2
            exact va_alen hx hb hK0 hR.1 k 6 hk2 (ty := .object RX6) rfl rfl hd kk
        · rcases (show kd_ a = 34 ∨ kd_ a = 35 ∨ kd_ a = 36 by omega) with hk | hk | hk
          · obtain ⟨cell, g1, g2, g3, g4, g5, g6⟩ := tcell (hKC.1.2.2.2.1 a (bytC hva hk))
            exact W.alen hx hb g1 g2 g5 rfl rfl hd kk
          · have htk := tkaC hva hk
            subst htk
            obtain ⟨cell, g1, g2, g3, g4, g5, g6⟩ := tcell hKC.1.2.2.2.2.1
            exact W.alen hx hb g1 g2 g5 rfl rfl hd kk
          · have hsc := scrC hva hk
            have hln : ln_ a = L := by rw [hsc]; unfold ln_ scr_; omega
            obtain ⟨cell, g1, g2, g3, g4, g5, g6⟩ := tcell hKC.1.2.2.2.2.2.1
            rw [← hsc] at g1
            exact W.alen hx hb g1 g2 (by rw [g5, hln]) rfl rfl hd kk
      · cases hv
    · cases hv
end HPB
