/-! writes of arrays, new cells -/
section HPC
variable {p : Program} {l : Launch} {e : Env} {R : Room} {s : State} {m : MethodId} {args : Array Value} {below : List Frame} {meth : Method} {c : Code} {dC : Nat → ClassId} {dI : Nat → Nat → Nat} {cy : Nat → ClassId} {op : Value} {B0 L : Nat} {xs : Nat → Int32} {ad0 : Nat → Nat} {n0 s0 : Nat} {Q : State → Prop} {q pc len pc' : Nat} {ls st ls' st' : List AV} {h h' : AH} {i : Instr} {v : AV}
theorem sd_ast (C : Cx_ p l R s m args meth c dC dI cy op B0 L xs q) {ini : Bool} (hi : i = .iastore ∨ i = .bastore ∨ i = .lastore ∨ i = .aastore) (hd : decode (cod_ q) pc = .ok (i, 1)) (hv : exh_ xs (kap_ q) ini i st h = some (st', h')) (K : Sm_ p l e R s m args below meth c dC dI cy op B0 L xs ad0 n0 s0 Q q (pc + 1) ls st' h') : Sm_ p l e R s m args below meth c dC dI cy op B0 L xs ad0 n0 s0 Q q pc ls st h := by
  obtain ⟨⟨hx, hb, hml, ho, ht⟩, hK0, ⟨hB, hL4, hq200⟩, hlk, hrt, hnm, hst⟩ := C
  intro ad la H locs e1 hR hKC hL hc1 hc2 hF hS hn hs
  have vla : ∀ {w u a r}, st = w :: u :: .inr (.inr (.inl (some a))) :: r → vl_ L h a := fun hh => hc2 _ (by rw [hh]; exact List.mem_cons_of_mem _ (List.mem_cons_of_mem _ List.mem_cons_self)) _ rfl
  have vcr : ∀ {w u a r}, st = w :: u :: .inr (.inr (.inl (some a))) :: r → ∀ z ∈ r, vc_ L h z := fun hh z hz => hc2 z (by rw [hh]; exact List.mem_cons_of_mem _ (List.mem_cons_of_mem _ (List.mem_cons_of_mem _ hz)))
  have pic : ∀ {a : Nat}, vl_ L h a → 16 ≤ kd_ a → kd_ a ≤ 22 → ∃ k : Nat, (ids_ h)[k]? = some a ∧ (zpc_ cy ad h)[k]? = some (ad a, ce_ cy ad h a) := fun hva h1 h2 => pic_at (cy := cy) (ad := ad) (hva.2.1 (by omega))
  have ceI : ∀ {a : Nat} (g : AH), 16 ≤ kd_ a → kd_ a < 19 → ce_ cy ad g a = .inl (cy (kd_ a), ln_ a, .inl (hI_ g a)) := fun g h1 h2 => by unfold ce_; rw [if_neg (by omega), if_neg (by omega), if_pos h2]
  have ceL : ∀ {a : Nat} (g : AH), kd_ a = 19 → ce_ cy ad g a = .inl (cy (kd_ a), ln_ a, .inr (.inl (hL_ g a))) := fun g h1 => by unfold ce_; rw [if_neg (by omega), if_pos h1]
  have ceR : ∀ {a : Nat} (g : AH), 20 ≤ kd_ a → ce_ cy ad g a = .inl (cy (kd_ a), ln_ a, .inr (.inr (.inr (.inr (fun j => (hR_ g a j).map ad))))) := fun g h1 => by unfold ce_; rw [if_neg (by omega), if_neg (by omega), if_neg (by omega)]
  rcases hi with rfl | rfl | rfl | rfl
  · unfold exh_ at hv
    dsimp only at hv
    split at hv
    · rename_i w j a r
      have hva := vla rfl
      split at hv
      · rename_i hin
        cases hv
        obtain ⟨k, hk1, hk2⟩ := pic hva (by omega) (by omega)
        rw [ceI h (by omega) (by omega), hin.2] at hk2
        exact va_iast hx hb hK0 hR.1 hR.2.1 hS k 0 hk2 rfl (vp_of hin.1) hd (put_end (K := K) oth_I hR hk1 (fun p b hb9 => hR.2.2.2.2.1 a p b hb9) e1 hKC hL hc1 (vcr rfl) hF hn hs (by rw [ceI _ (by omega) (by omega), hin.2, hI_uI, if_pos rfl]; rfl))
      · cases hv
    · cases hv
  · unfold exh_ at hv
    dsimp only at hv
    split at hv
    · rename_i w j a r
      have hva := vla rfl
      split at hv
      · rename_i hin
        cases hv
        obtain ⟨k, hk1, hk2⟩ := pic hva (by omega) (by omega)
        rw [ceI h (by omega) (by omega)] at hk2
        rcases hin.2 with ⟨hk, hw⟩ | ⟨hk, hw⟩
        · rw [hk] at hk2
          have hy : w.toInt8.toInt32 = w := by simpa [nb_] using hw
          exact va_bast hx hb hK0 hR.1 hR.2.1 hS k 1 hk2 rfl (vp_of hin.1) hd (put_end (K := K) oth_I hR hk1 (fun p b hb9 => hR.2.2.2.2.1 a p b hb9) e1 hKC hL hc1 (vcr rfl) hF hn hs (by rw [ceI _ (by omega) (by omega), hk, hI_uI, if_pos rfl, vp_nar_byte, hy]; rfl))
        · rw [hk] at hk2
          have hy : vp_nar .boolean w = w := by rcases nb_3.mp hw with rfl | rfl <;> rfl
          exact va_zast hx hb hK0 hR.1 hR.2.1 hS k 2 hk2 rfl (vp_of hin.1) hd (put_end (K := K) oth_I hR hk1 (fun p b hb9 => hR.2.2.2.2.1 a p b hb9) e1 hKC hL hc1 (vcr rfl) hF hn hs (by rw [ceI _ (by omega) (by omega), hk, hI_uI, if_pos rfl, hy]; rfl))
      · cases hv
    · cases hv
  · unfold exh_ at hv
    dsimp only at hv
    split at hv
    · rename_i w j a r
      have hva := vla rfl
      split at hv
      · rename_i hin
        cases hv
        obtain ⟨k, hk1, hk2⟩ := pic hva (by omega) (by omega)
        rw [ceL h hin.2, hin.2] at hk2
        exact va_last hx hb hK0 hR.1 hR.2.1 hS k 3 hk2 rfl (vp_of hin.1) hd (put_end (K := K) oth_L hR hk1 (fun p b hb9 => hR.2.2.2.2.1 a p b hb9) e1 hKC hL hc1 (vcr rfl) hF hn hs (by rw [ceL _ hin.2, hin.2, hL_uL, if_pos rfl]; rfl))
      · cases hv
    · cases hv
  · unfold exh_ at hv
    dsimp only at hv
    split at hv
    · rename_i w j a r
      have hva := vla rfl
      split at hv
      · rename_i hin
        cases hv
        have hw9 : vc_ L h (.inr (.inr (.inl w))) := hc2 _ List.mem_cons_self
        obtain ⟨k, hk1, hk2⟩ := pic hva (by omega) (by omega)
        rw [ceR h (by omega)] at hk2
        have hrr : ∀ p b, hR_ (uR_ h a (st_ (hR_ h a) j.toNatClampNeg w)) a p = some b → vl_ L h b := by
          intro p b hb9
          rw [hR_uR, if_pos rfl, st_eq] at hb9
          split at hb9
          · exact hw9 b (by rw [hb9])
          · exact hR.2.2.2.2.1 a p b hb9
        have hup : ∀ {f : Nat → Option Nat} {o : Option Nat}, (fun z => (st_ f j.toNatClampNeg o z).map ad) = va_up (fun z => (f z).map ad) j.toNatClampNeg (o.map ad) := by
          intro f o
          funext z
          unfold st_ va_up
          split <;> rfl
        have hE : ∀ {kk : Nat}, kd_ a = kk → (.inl (cy kk, ln_ a, .inr (.inr (.inr (.inr (va_up (fun z => (hR_ h a z).map ad) j.toNatClampNeg (w.map ad)))))) : va_E) = ce_ cy ad (uR_ h a (st_ (hR_ h a) j.toNatClampNeg w)) a := by
          intro kk hkk
          rw [ceR _ (by omega), hkk, hR_uR, if_pos rfl, hup]
        have go : ∀ {kk : Nat}, kd_ a = kk → _ := fun {kk} hkk => put_end (K := K) (E := .inl (cy kk, ln_ a, .inr (.inr (.inr (.inr (va_up (fun z => (hR_ h a z).map ad) j.toNatClampNeg (w.map ad))))))) oth_R hR hk1 hrr e1 hKC hL hc1 (vcr rfl) hF hn hs (hE hkk)
        rcases hin.2 with ⟨hk, hw⟩ | ⟨hk, hw⟩ | ⟨hk, hw⟩
        · rw [hk] at hk2
          cases w with
          | none => exact va_astqN hx hb hK0 hR.1 hR.2.1 hS k 4 hk2 rfl (vp_of hin.1) hd (go hk)
          | some b =>
            have hb0 : kd_ b = 0 := by simpa [ok1_] using hw
            obtain ⟨k', -, hk3⟩ := pic_at (cy := cy) (ad := ad) ((hw9 b rfl).2.1 (by omega))
            have hce : ce_ cy ad h b = .inr (0, fs_ ad h b) := by unfold ce_; rw [if_pos (by omega), hb0]
            rw [hce] at hk3
            exact va_astq hx hb hK0 hR.1 hR.2.1 hS k 4 k' 0 hk2 (r := (clnm_ 0, T_ 0, nfl_ 0)) rfl hk3 (vw_at (by omega)) (vp_of hin.1) hd (go hk)
        · rw [hk] at hk2
          cases w with
          | none => exact va_astqN hx hb hK0 hR.1 hR.2.1 hS k 5 hk2 rfl (vp_of hin.1) hd (go hk)
          | some b =>
            have hb0 : kd_ b = 4 := by simpa [ok1_] using hw
            obtain ⟨k', -, hk3⟩ := pic_at (cy := cy) (ad := ad) ((hw9 b rfl).2.1 (by omega))
            have hce : ce_ cy ad h b = .inr (4, fs_ ad h b) := by unfold ce_; rw [if_pos (by omega), hb0]
            rw [hce] at hk3
            exact va_astq hx hb hK0 hR.1 hR.2.1 hS k 5 k' 4 hk2 (r := (clnm_ 4, T_ 4, nfl_ 4)) rfl hk3 (vw_at (by omega)) (vp_of hin.1) hd (go hk)
        · rw [hk] at hk2
          cases w with
          | none => exact va_astqN hx hb hK0 hR.1 hR.2.1 hS k 6 hk2 rfl (vp_of hin.1) hd (go hk)
          | some b =>
            have hb0 : kd_ b = 32 := by simpa [ok1_] using hw
            obtain ⟨k9, hk9, rfl⟩ := tokC (hw9 b rfl) hb0 hL4
            obtain ⟨cell, g1, g2, g3, -⟩ := (hKC.1.2.1 k9 hk9).1.kept hS.2.1
            obtain ⟨kC, hkC, -⟩ := Vm.findClass_spec g3
            have hany : va_Any RX6 s H (ad (tok_ k9)) := ⟨cell, g1, g2, ⟨kC, hkC⟩, fun comp hcomp => by
              have := Option.some.inj (hcomp.symm.trans g3)
              subst this
              exact va_asg _ _⟩
            exact va_astqM hx hb hK0 hR.1 hR.2.1 hS k 6 hk2 rfl hany (vp_of hin.1) hd (go hk)
      · cases hv
    · cases hv
/-- where new cells lie -/
def adn_ (ad : Nat → Nat) (id q : Nat) : Nat → Nat := fun b => if b = id then q else ad b
theorem adn_ne {ad : Nat → Nat} {id q b : Nat} (hb : sr_ b < sr_ id) : adn_ ad id q b = ad b := by
  unfold adn_
  rw [if_neg (fun z => by rw [z] at hb; omega)]
theorem cv_adn {ad : Nat → Nat} {id z : Nat} {w : AV} (hid : sr_ id = nx_ h) (hw : vc_ L h w) : cv_ (adn_ ad id z) op w = cv_ ad op w := by
  rcases w with x | x | x | x
  · rfl
  · rfl
  · cases x with
    | none => rfl
    | some b =>
      show Value.ref _ = Value.ref _
      rw [adn_ne (by rw [hid]; exact (hw b rfl).1)]
  · rfl
theorem map_adn {ad : Nat → Nat} {id z : Nat} (hid : sr_ id = nx_ h) (hc : ∀ w ∈ st, vc_ L h w) : st.map (cv_ (adn_ ad id z) op) = st.map (cv_ ad op) := List.map_congr_left (fun w hw => cv_adn hid (hc w hw))
theorem Lr_.adn {ad : Nat → Nat} {id z nL : Nat} {la : Array Slot} (hid : sr_ id = nx_ h) (hc : ∀ w ∈ ls, vc_ L h w) (hL : Lr_ ad op nL ls la) : Lr_ (adn_ ad id z) op nL ls la :=
  ⟨hL.1, hL.2.1, hL.2.2.1, fun i w hi hw => by rw [cv_adn hid (hc w (List.mem_of_getElem? hi))]; exact hL.2.2.2 i w hi hw⟩
theorem vl_nw {k n sz b : Nat} (hv : vl_ L h b) : vl_ L (nw_ h k n sz) b := ⟨by rw [nx_nw]; have := hv.1; omega, fun z => by rw [ids_nw]; exact List.mem_append_left _ (hv.2.1 z), hv.2.2⟩
theorem vc_nw {k n sz : Nat} (hv : vc_ L h v) : vc_ L (nw_ h k n sz) v := fun b hb => vl_nw (hv b hb)
/-- behind a new cell -/
theorem nwc_end {ad : Nat → Nat} {la : Array Slot} {H : Heap} {locs : List Loc} {k n sz : Nat} (hk : k < 9 ∨ 16 ≤ k ∧ k ≤ 22) (hn4 : n < 4096) (hR : Rp_ dC dI cy B0 L ad h H) (hL4 : L < 4096)
    (e1 : ∀ a, sr_ a < n0 → ad a = ad0 a) (hKC : KC_ L xs op (A_ B0) ad s s.heap) (hL : Lr_ ad op (mxl_ q) ls la) (hc1 : ∀ v ∈ ls, vc_ L h v) (hc2 : ∀ v ∈ st', vc_ L h v) (hF : ∀ (i : Nat) (x : Int64), ls[i]? = some (vJ x) → i ∈ lgs_ q) (hn : n0 ≤ nx_ h) (hs : s0 ≤ sl_ h)
    (K : Sm_ p l e R s m args below meth c dC dI cy op B0 L xs ad0 n0 s0 Q q pc' ls (.inr (.inr (.inl (some (mk_ (nx_ h) k n)))) :: st') (nw_ h k n sz)) : ∀ (z : Nat) (E : va_E) (H1 : Heap), E = ce_ cy (adn_ ad (mk_ (nx_ h) k n) z) (nw_ h k n sz) (mk_ (nx_ h) k n) → va_P (dC, dI) vwCl (zpc_ cy ad h ++ [(z, E)]) H1 → va_D (A_ B0) (zpc_ cy ad h ++ [(z, E)]) → va_S (A_ B0) s.heap H1 locs → W p l e R s m args below meth c H1 locs (nx_ h - n0 + 1) (sl_ h - s0 + sz) Q (F0 m pc' la (.ref z :: st'.map (cv_ ad op))) := by
  intro z E H1 hE hP hD hS
  have hid : sr_ (mk_ (nx_ h) k n) = nx_ h := sr_mk (by omega) hn4
  have hfr : ∀ b ∈ ids_ h, b ≠ mk_ (nx_ h) k n := fun b hb z => by
    have := (hR.2.2.2.1 b hb).1
    rw [z, hid] at this
    omega
  have hpc : zpc_ cy (adn_ ad (mk_ (nx_ h) k n) z) (nw_ h k n sz) = zpc_ cy ad h ++ [(z, E)] := by
    unfold zpc_
    rw [ids_nw, List.map_append, List.map_singleton]
    congr 1
    · apply List.map_congr_left
      intro b hb
      have hb1 := hfr b hb
      have hb2 := (hR.2.2.2.1 b hb).1
      have hrow : ∀ j, (hR_ h b j).map (adn_ ad (mk_ (nx_ h) k n) z) = (hR_ h b j).map ad := fun j => omap_eq (fun c9 hc9 => adn_ne (by rw [hid]; exact (hR.2.2.2.2.1 b j c9 hc9).1))
      rw [adn_ne (by rw [hid]; exact hb2)]
      unfold ce_ fs_
      simp only [hI_nw, hL_nw, hR_nw, if_neg hb1, hrow]
    · rw [hE]
      unfold adn_
      rw [if_pos rfl]
  rw [← hpc] at hP hD
  have hnn : nx_ (nw_ h k n sz) - n0 = nx_ h - n0 + 1 := by rw [nx_nw]; omega
  have hss : sl_ (nw_ h k n sz) - s0 = sl_ h - s0 + sz := by rw [sl_nw]; omega
  rw [← hnn, ← hss]
  have hstk : (Value.ref z :: st'.map (cv_ ad op)) = ((.inr (.inr (.inl (some (mk_ (nx_ h) k n)))) :: st' : List AV)).map (cv_ (adn_ ad (mk_ (nx_ h) k n) z) op) := by
    rw [List.map_cons, map_adn hid hc2]
    show _ = Value.ref (adn_ ad (mk_ (nx_ h) k n) z (mk_ (nx_ h) k n)) :: _
    unfold adn_
    rw [if_pos rfl]
  rw [hstk]
  have hvn : vl_ L (nw_ h k n sz) (mk_ (nx_ h) k n) := ⟨by rw [hid, nx_nw]; omega, fun _ => by rw [ids_nw]; exact List.mem_append_right _ List.mem_cons_self, fun hh => by rw [kd_mk (by omega)] at hh; omega⟩
  refine K _ la H1 locs (fun a ha => by rw [adn_ne (by rw [hid]; omega)]; exact e1 a ha) ⟨hP, hD, ?_, ?_, ?_, ?_⟩ (hKC.ad hL4 (fun a ha => adn_ne (by rw [hid]; have := hR.2.2.2.2.2; omega))) (hL.adn hid hc1) (fun w hw => vc_nw (hc1 w hw)) (all_cons (fun b hb9 => by cases vA_inj hb9; exact hvn) (fun w hw => vc_nw (hc2 w hw))) hF hS (by rw [nx_nw]; omega) (by rw [sl_nw]; omega)
  · rw [ids_nw]
    exact List.nodup_append.mpr ⟨hR.2.2.1, (List.pairwise_singleton _ _), fun a ha b hb => by rw [List.mem_singleton.mp hb]; exact hfr a ha⟩
  · intro a ha
    rw [ids_nw] at ha
    rcases List.mem_append.mp ha with h1 | h1
    · have := hR.2.2.2.1 a h1
      exact ⟨by rw [nx_nw]; omega, this.2⟩
    · rw [List.mem_singleton.mp h1]
      refine ⟨by rw [hid, nx_nw]; omega, ?_⟩
      rw [kd_mk (by omega)]
      exact hk
  · intro a9 pl b hb9
    rw [hR_nw] at hb9
    split at hb9
    · cases hb9
    · exact vl_nw (hR.2.2.2.2.1 a9 pl b hb9)
  · rw [nx_nw]; have := hR.2.2.2.2.2; omega
theorem arr_wd {w : Cond} {j : Nat} (ht : ∀ w ∈ gtb_, w.before args s = true) (h1 : decide (lw_tbl[j]? = some w) = true) (hg : goodWord w = true) : w.before args s = true := zgw_ ht (of_decide_eq_true h1) hg
theorem cls_mem {k x : Nat} {e9 : Nat × Nat} (hk : k < 18) (h9 : cls_ k x = some e9) : ckc_ k (x, e9) = true := pool_all zokc_ hk h9
/-- new arrays and objects -/
theorem sd_new (C : Cx_ p l R s m args meth c dC dI cy op B0 L xs q) {ini : Bool} (hi : (∃ t, i = .newarray t) ∨ (∃ x, i = .anewarray x) ∨ ∃ x, i = .new x) (hlk0 : lok_ i len = true) (hd : decode (cod_ q) pc = .ok (i, len)) (hv : exh_ xs (kap_ q) ini i st h = some (st', h')) (hrc : nx_ h' - n0 ≤ R.cells) (hrs : sl_ h' - s0 ≤ R.slots) (K : Sm_ p l e R s m args below meth c dC dI cy op B0 L xs ad0 n0 s0 Q q (pc + len) ls st' h') : Sm_ p l e R s m args below meth c dC dI cy op B0 L xs ad0 n0 s0 Q q pc ls st h := by
  obtain ⟨⟨hx, hb, hml, ho, ht⟩, hK0, ⟨hB, hL4, hq200⟩, hlk, hrt, hnm, hst⟩ := C
  intro ad la H locs e1 hR hKC hL hc1 hc2 hF hS hn hs
  have hA : ∀ q : Nat, s.heap.size ≤ q → A_ B0 q := fun q hq => Nat.le_trans hB hq
  rcases hi with ⟨t, rfl⟩ | ⟨x, rfl⟩ | ⟨x, rfl⟩
  · cases lok_eq hlk0
    unfold exh_ at hv
    dsimp only at hv
    split at hv
    · rename_i n r
      have hcr : ∀ z ∈ r, vc_ L h z := fun z hz => hc2 z (List.mem_cons_of_mem _ hz)
      split at hv
      · rename_i hcond
        obtain ⟨h0, h4, h63⟩ := hcond
        cases hv
        rw [nx_nw] at hrc
        rw [sl_nw] at hrs
        have hneg : ¬ n < 0 := by rw [Int32.lt_iff_toInt_lt]; show ¬ n.toInt < 0; omega
        have key : ∀ {ty : FieldType} {k t0 : Nat} {a0 : vp_A}, arr_ t = k → newarray.typeOf t = ty → (k < 9 ∨ 16 ≤ k ∧ k ≤ 22) → (tys_ cy)[t0]? = some (cy k, ty) → (Cond.arrayClass ty).before args s = true → componentBytes ty ≤ 8 → (∀ cA, va_RA s cA ty = (s.vm.findClass ("[" ++ ty.toString) = some cA)) → (∀ cA : ClassId, vp_cell cA a0 = arrV cA n.toNatClampNeg (fun _ => defaultValue ty)) →
            (∀ z, (.inl (cy k, a0) : va_E) = ce_ cy (adn_ ad (mk_ (nx_ h) k n.toNatClampNeg) z) (nw_ h k n.toNatClampNeg n.toNatClampNeg) (mk_ (nx_ h) k n.toNatClampNeg)) → W p l e R s m args below meth c H locs (nx_ h - n0) (sl_ h - s0) Q (F0 m pc la (((.inl n :: r) : List AV).map (cv_ ad op))) := by
          intro ty k t0 a0 hk hty hkk ht0 harr hcb hra hcell hE
          subst hk
          refine va_newa hx hb (by rw [hty]; exact harr) hty hK0 hR.1 hR.2.1 hS hA hcell hneg rfl (Nat.le_trans (Nat.mul_le_mul (Nat.le_of_lt h4) hcb) (by decide)) (by omega) (by omega) hd (fun z cA H1 hK1 hP1 hD1 hS1 => ?_)
          have hcA : cA = cy (arr_ t) := by
            have g1 := (hK1.2 7 (cA, ty) rfl).2
            have g2 := (hK0.2 t0 _ ht0).2
            rw [hra] at g1 g2
            exact Option.some.inj (g1.symm.trans g2)
          subst hcA
          exact nwc_end (K := K) hkk h4 hR hL4 e1 hKC hL hc1 hcr hF hn hs z _ H1 (hE z) hP1 hD1 hS1
        have ck := arr_ck
        simp only [Bool.and_eq_true] at ck
        have hln : ln_ (mk_ (nx_ h) (arr_ t) n.toNatClampNeg) = n.toNatClampNeg := ln_mk (by omega) h4
        have hkd : kd_ (mk_ (nx_ h) (arr_ t) n.toNatClampNeg) = arr_ t := kd_mk (by omega)
        cases t
        case int =>
          refine key (ty := .int) (k := 16) (t0 := 0) (a0 := (n.toNatClampNeg, .inl (fun _ => 0))) rfl rfl (by omega) rfl (arr_wd ht ck.1 rfl) (by decide) (fun _ => rfl) (fun _ => rfl) (fun z => ?_)
          unfold ce_
          rw [show kd_ (mk_ (nx_ h) 16 n.toNatClampNeg) = 16 from hkd, show ln_ (mk_ (nx_ h) 16 n.toNatClampNeg) = n.toNatClampNeg from hln, if_neg (by decide), if_neg (by decide), if_pos (by decide), hI_nw, if_pos rfl]
        case byte =>
          refine key (ty := .byte) (k := 17) (t0 := 1) (a0 := (n.toNatClampNeg, .inl (fun _ => 0))) rfl rfl (by omega) rfl (arr_wd ht ck.2.1 rfl) (by decide) (fun _ => rfl) (fun _ => rfl) (fun z => ?_)
          unfold ce_
          rw [show kd_ (mk_ (nx_ h) 17 n.toNatClampNeg) = 17 from hkd, show ln_ (mk_ (nx_ h) 17 n.toNatClampNeg) = n.toNatClampNeg from hln, if_neg (by decide), if_neg (by decide), if_pos (by decide), hI_nw, if_pos rfl]
        case boolean =>
          refine key (ty := .boolean) (k := 18) (t0 := 2) (a0 := (n.toNatClampNeg, .inl (fun _ => 0))) rfl rfl (by omega) rfl (arr_wd ht ck.2.2.1 rfl) (by decide) (fun _ => rfl) (fun _ => rfl) (fun z => ?_)
          unfold ce_
          rw [show kd_ (mk_ (nx_ h) 18 n.toNatClampNeg) = 18 from hkd, show ln_ (mk_ (nx_ h) 18 n.toNatClampNeg) = n.toNatClampNeg from hln, if_neg (by decide), if_neg (by decide), if_pos (by decide), hI_nw, if_pos rfl]
        case long =>
          refine key (ty := .long) (k := 19) (t0 := 3) (a0 := (n.toNatClampNeg, .inr (.inl (fun _ => 0)))) rfl rfl (by omega) rfl (arr_wd ht ck.2.2.2 rfl) (by decide) (fun _ => rfl) (fun _ => rfl) (fun z => ?_)
          unfold ce_
          rw [show kd_ (mk_ (nx_ h) 19 n.toNatClampNeg) = 19 from hkd, show ln_ (mk_ (nx_ h) 19 n.toNatClampNeg) = n.toNatClampNeg from hln, if_neg (by decide), if_pos (by decide), hL_nw, if_pos rfl]
        all_goals exact absurd h63 (by decide)
      · cases hv
    · cases hv
  · cases lok_eq hlk0
    unfold exh_ at hv
    dsimp only at hv
    split at hv
    · rename_i e9 c9 j9 n r hcl
      have hcr : ∀ z ∈ r, vc_ L h z := fun z hz => hc2 z (List.mem_cons_of_mem _ hz)
      split at hv
      · rename_i hcond
        obtain ⟨h0, h4, hcc⟩ := hcond
        cases hv
        rw [nx_nw] at hrc
        rw [sl_nw] at hrs
        have hneg : ¬ n < 0 := by rw [Int32.lt_iff_toInt_lt]; show ¬ n.toInt < 0; omega
        have hck := cls_mem (kap_lt hq200) hcl
        have key : ∀ {k t0 : Nat} {C9 : String}, (if c9 = 0 then 20 else if c9 = 4 then 21 else 22) = k → (20 ≤ k ∧ k ≤ 22) → (tys_ cy)[t0]? = some (cy k, .object C9) → (Cond.classLink (clnm_ (kap_ q)) x C9).before args s = true → va_AO C9 s → W p l e R s m args below meth c H locs (nx_ h - n0) (sl_ h - s0) Q (F0 m pc la (((.inl n :: r) : List AV).map (cv_ ad op))) := by
          intro k t0 C9 hk hkk ht0 hlink hao
          rw [hk] at K
          refine va_newq hx hb ho hlink hao hK0 hR.1 hR.2.1 hS hA hneg rfl (by omega) (by omega) (by omega) hd (fun z cA H1 hK1 hP1 hD1 hS1 => ?_)
          have hcA : cA = cy k := by
            obtain ⟨-, -, -, -, -, g1⟩ := (hK1.2 7 (cA, .object C9) rfl).2
            obtain ⟨-, -, -, -, -, g2⟩ := (hK0.2 t0 _ ht0).2
            exact Option.some.inj (g1.symm.trans g2)
          subst hcA
          refine nwc_end (K := K) (Or.inr ⟨by omega, by omega⟩) h4 hR hL4 e1 hKC hL hc1 hcr hF hn hs z _ H1 ?_ hP1 hD1 hS1
          unfold ce_
          rw [kd_mk (by omega), ln_mk (by omega) h4, if_neg (by omega), if_neg (by omega), if_neg (by omega), hR_nw, if_pos rfl]
          rfl
        unfold ckc_ at hck
        simp only [Bool.or_eq_true, Bool.and_eq_true, decide_eq_true_iff] at hck
        rcases hcc with rfl | rfl | rfl
        · rcases hck with (⟨-, hw⟩ | ⟨z, -⟩) | ⟨z, -⟩
          · exact key (k := 20) (t0 := 4) rfl (by omega) rfl (zgw_ ht hw rfl) hKC.2.1.2.2.1
          · cases z
          · cases z
        · rcases hck with (⟨-, hw⟩ | ⟨z, -⟩) | ⟨z, -⟩
          · exact key (k := 21) (t0 := 5) rfl (by omega) rfl (zgw_ ht hw rfl) hKC.2.1.2.2.2.1
          · cases z
          · cases z
        · rcases hck with (⟨z, -⟩ | ⟨-, hw⟩) | ⟨z, -⟩
          · omega
          · exact key (k := 22) (t0 := 6) rfl (by omega) rfl (zgw_ ht hw rfl) hKC.2.1.2.2.2.2.1
          · cases z
      · cases hv
    · cases hv
  · cases lok_eq hlk0
    unfold exh_ at hv
    dsimp only at hv
    split at hv
    · rename_i c9 j9 hcl
      split at hv
      · rename_i h16
        cases hv
        rw [nx_nw] at hrc
        rw [sl_nw] at hrs
        have hck := cls_mem (kap_lt hq200) hcl
        unfold ckc_ at hck
        simp only [Bool.or_eq_true, Bool.and_eq_true, decide_eq_true_iff] at hck
        rcases hck with (⟨h9, hw⟩ | ⟨z, -⟩) | ⟨z, -⟩
        · have hiw := List.all_eq_true.mp inw_ck c9 (List.mem_range.mpr h9)
          simp only [Bool.and_eq_true, decide_eq_true_iff] at hiw
          refine va_new (fs := fs_ (adn_ ad (mk_ (nx_ h) c9 0) 0) (nw_ h c9 0 (nfl_ c9)) (mk_ (nx_ h) c9 0)) hx hb ht (lay_in h9) (ty_ c9) (ty_ok h9) ho (zgw_ ht hw rfl) (zgw_ ht hiw.1 rfl) (zgw_ ht hiw.2 rfl) hK0 hR.1 hR.2.1 hS hA (vw_at h9) (fun j hj => ?_) (by omega) (by omega) hd (fun z H1 hP1 hD1 hS1 => ?_)
          · have hkd : kd_ (mk_ (nx_ h) c9 0) = c9 := kd_mk (by omega)
            unfold vp_V
            rw [List.getD_eq_getElem?_getD, fs_at (by rw [hkd]; exact hj), hkd, hR_nw, hI_nw, hL_nw, if_pos rfl, if_pos rfl, if_pos rfl]
            unfold ty_
            rcases fT_spec (ft_ok h9 hj) with ⟨e8, e7⟩ | ⟨e8, e7⟩ | ⟨e8, ty, e7, e6⟩ | ⟨e8, e7⟩ | ⟨e8, e7⟩ <;> rw [e8, e7]
            · rfl
            · rfl
            · rcases e6 with ⟨n9, rfl⟩ | ⟨n9, rfl⟩ <;> rfl
            · rfl
            · rfl
          · refine nwc_end (K := K) (Or.inl h9) (by omega) hR hL4 e1 hKC hL hc1 hc2 hF hn hs z _ H1 ?_ hP1 hD1 hS1
            unfold ce_
            have hkd : kd_ (mk_ (nx_ h) c9 0) = c9 := kd_mk (by omega)
            rw [hkd, if_pos h16]
            congr 2
            unfold fs_
            simp only [hR_nw, if_true, Option.map_none]
        · omega
        · omega
      · cases hv
    · cases hv
end HPC
