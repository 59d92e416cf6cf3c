/-! a plain step; the induction on the fuel, over the calls of special methods -/
section IND
variable {p : Program} {l : Launch} {e : Env} {R : Room} {s : State} {m : MethodId} {args : Array Value} {below : List Frame} {meth : Method} {c : Code} {dC : Nat → ClassId} {dI : Nat → Nat → Nat} {cy : Nat → ClassId} {op : Value} {B0 L : Nat} {xs : Nat → Int32} {ad0 : Nat → Nat} {n0 s0 : Nat} {Q : State → Prop} {q pc len pc' n d x q' j z ct : Nat} {ls st ls' st' as : List AV} {h h' h1 : AH} {i : Instr} {v : Option AV} {o : OU_}
theorem sd_exh {ini : Bool} (C : Cx_ p l R s m args meth c dC dI cy op B0 L xs q) (hini : ini = ((nam_ q).name == "<init>")) (hd : decode (cod_ q) pc = .ok (i, len)) (hk : lok_ i len = true) (hv : exh_ xs (kap_ q) ini i st h = some (st', h1)) (hrc : nx_ h1 - n0 ≤ R.cells) (hrs : sl_ h1 - s0 ≤ R.slots) (K : Sm_ p l e R s m args below meth c dC dI cy op B0 L xs ad0 n0 s0 Q q (pc + len) ls st' h1) : Sm_ p l e R s m args below meth c dC dI cy op B0 L xs ad0 n0 s0 Q q pc ls st h := by
  cases i
  case getfield x => cases lok_eq hk; exact sd_get C hd hv K
  case putfield x => cases lok_eq hk; exact sd_put C hini hd hv K
  case iaload => cases lok_eq hk; exact sd_ald C (Or.inl rfl) hd hv K
  case baload => cases lok_eq hk; exact sd_ald C (Or.inr (Or.inl rfl)) hd hv K
  case laload => cases lok_eq hk; exact sd_ald C (Or.inr (Or.inr (Or.inl rfl))) hd hv K
  case aaload => cases lok_eq hk; exact sd_ald C (Or.inr (Or.inr (Or.inr (Or.inl rfl)))) hd hv K
  case arraylength => cases lok_eq hk; exact sd_ald C (Or.inr (Or.inr (Or.inr (Or.inr rfl)))) hd hv K
  case iastore => cases lok_eq hk; exact sd_ast C (Or.inl rfl) hd hv K
  case bastore => cases lok_eq hk; exact sd_ast C (Or.inr (Or.inl rfl)) hd hv K
  case lastore => cases lok_eq hk; exact sd_ast C (Or.inr (Or.inr (Or.inl rfl))) hd hv K
  case aastore => cases lok_eq hk; exact sd_ast C (Or.inr (Or.inr (Or.inr rfl))) hd hv K
  case newarray t => exact sd_new C (Or.inl ⟨t, rfl⟩) hk hd hv hrc hrs K
  case anewarray x => exact sd_new C (Or.inr (Or.inl ⟨x, rfl⟩)) hk hd hv hrc hrs K
  case new x => exact sd_new C (Or.inr (Or.inr ⟨x, rfl⟩)) hk hd hv hrc hrs K
  all_goals (unfold exh_ at hv; cases hv)
theorem sd_ex (C : Cx_ p l R s m args meth c dC dI cy op B0 L xs q) (hd : decode (cod_ q) pc = .ok (i, len)) (hk : lok_ i len = true) (hv : ex_ xs q pc len i ls st h = some (pc', ls', st', h1)) (hrc : nx_ h1 - n0 ≤ R.cells) (hrs : sl_ h1 - s0 ≤ R.slots) (K : Sm_ p l e R s m args below meth c dC dI cy op B0 L xs ad0 n0 s0 Q q pc' ls' st' h1) : Sm_ p l e R s m args below meth c dC dI cy op B0 L xs ad0 n0 s0 Q q pc ls st h := by
  unfold ex_ at hv
  split at hv
  · rename_i h1; cases hv; exact sd_exc C hd hk h1 K
  · split at hv
    · rename_i h1; cases hv; exact sd_exl C hd hk h1 K
    · split at hv
      · rename_i h1; cases hv; exact sd_exa C hd hk h1 K
      · split at hv
        · rename_i h1; cases hv; exact sd_exs C hd hk h1 K
        · split at hv
          · rename_i h1; cases hv; exact sd_exj C hd hk h1 K
          · split at hv
            · rename_i h1; cases hv; exact sd_exk C hd hk h1 K
            · split at hv
              · rename_i h1; cases hv; exact sd_exh C rfl hd hk h1 hrc hrs K
              · cases hv
/-- calls of the special methods: class Math, Law.where, Law.about; and what is thrown at a call -/
def SpC_ (l : Launch) (dC : Nat → ClassId) (dI : Nat → Nat → Nat) (cy : Nat → ClassId) (op : Value) (B0 L : Nat) (xs : Nat → Int32) : Prop :=
  ∀ (n : Nat), SN_ l dC dI cy op B0 L xs n → ∀ (d q pc x q' j z ct : Nat) (i : Instr) (ls st : List AV) (h : AH) (o : OU_) (h1 : AH) (p : Program) (e : Env) (R : Room) (s : State) (m : MethodId) (args : Array Value) (below : List Frame) (meth : Method) (c : Code) (ad0 : Nat → Nat) (n0 s0 : Nat) (Q : State → Prop),
    Cx_ p l R s m args meth c dC dI cy op B0 L xs q → Xt_ c q → (i = .invokestatic x ∧ ct = 0 ∨ i = .invokevirtual x ∧ ct = 1 ∨ i = .invokespecial x ∧ ct = 2) → decode (cod_ q) pc = .ok (i, 3) → mth_ (kap_ q) x = some (q', j, z) →
    (q' < 200 ∧ nar_ q' ≤ st.length ∧ ((st.drop (nar_ q')).map acat_).sum ≤ 8 ∧ rok_ (rcv_ q') st (nar_ q') = true ∧ cty_ ct q' = true ∧ pok_ q' (st.take (nar_ q')).reverse = true) →
    run_ xs n d q' 0 (ent_ (st.take (nar_ q')).reverse (mxl_ q')) [] h = some (o, h1) → d + 1 + 8 ≤ R.frames → 64 * (d + 1) + 120 ≤ R.locals → nx_ h1 - n0 ≤ R.cells → sl_ h1 - s0 ≤ R.slots →
    ((∃ v, o = some v ∧ (sp_ q' = true ∨ kap_ q' = 12) ∧ Sm_ p l e R s m args below meth c dC dI cy op B0 L xs ad0 n0 s0 Q q (pc + 3) ls (v.toList ++ st.drop (nar_ q')) h1) ∨
     (o = none ∧ ∃ pc', hnd_ q pc = some pc' ∧ Sm_ p l e R s m args below meth c dC dI cy op B0 L xs ad0 n0 s0 Q q pc' ls [.inr (.inr (.inl (some (mk_ (nx_ h1 - 1) 40 0))))] h1)) →
    Sm_ p l e R s m args below meth c dC dI cy op B0 L xs ad0 n0 s0 Q q pc ls st h
theorem sd_cal_open (SP : SpC_ l dC dI cy op B0 L xs) (SN : SN_ l dC dI cy op B0 L xs n) (C : Cx_ p l R s m args meth c dC dI cy op B0 L xs q) (hxt : Xt_ c q) (hi : i = .invokestatic x ∧ ct = 0 ∨ i = .invokevirtual x ∧ ct = 1 ∨ i = .invokespecial x ∧ ct = 2) (hd : decode (cod_ q) pc = .ok (i, 3)) (hr : cal_ (run_ xs n) d q pc ls st h (mth_ (kap_ q) x) ct = some (o, h')) (hfr : d + 8 ≤ R.frames) (hlo : 64 * d + 120 ≤ R.locals) (hrc : nx_ h' - n0 ≤ R.cells) (hrs : sl_ h' - s0 ≤ R.slots) (hE : EdR_ p l e R s m args below meth c dC dI cy op B0 L ad0 n0 s0 Q q o h') (hT : EdT_ p l e R s m args below meth c dC dI cy op B0 L xs ad0 n0 s0 Q q o h') : Sm_ p l e R s m args below meth c dC dI cy op B0 L xs ad0 n0 s0 Q q pc ls st h := by
  cases hm : mth_ (kap_ q) x with
  | none => rw [hm] at hr; unfold cal_ at hr; cases hr
  | some t9 =>
    obtain ⟨q', j, z⟩ := t9
    rw [hm] at hr
    unfold cal_ at hr
    dsimp only at hr
    split at hr
    · rename_i h1000
      subst h1000
      split at hr
      · rename_i a r
        split at hr
        · rename_i hc
          obtain ⟨hct, hka, hsum, hd0⟩ := hc
          rcases hi with ⟨rfl, h0⟩ | ⟨rfl, h0⟩ | ⟨rfl, -⟩
          · omega
          · omega
          · exact sd_obj C hd hm rfl hsum (by omega) (by omega) (SN _ _ _ _ _ _ _ _ hr p e R s m args below meth c ad0 n0 s0 Q C hxt hfr hlo hrc hrs hE hT)
        · cases hr
      · cases hr
    · split at hr
      · cases hr
      · rename_i d'
        split at hr
        · rename_i hok
          split at hr
          · rename_i w h1 hrun
            have g := run_grow _ _ _ _ _ _ _ _ _ hr
            have g1 := g.1
            have g2 := g.2.1
            have K := SN _ _ _ _ _ _ _ _ hr p e R s m args below meth c ad0 n0 s0 Q C hxt hfr hlo hrc hrs hE hT
            by_cases hs9 : sp_ q' = true ∨ kap_ q' = 12
            · exact SP n SN d' q pc x q' j z ct i ls st h _ h1 p e R s m args below meth c ad0 n0 s0 Q C hxt hi hd hm hok hrun hfr hlo (by omega) (by omega) (Or.inl ⟨some w, rfl, hs9, K⟩)
            · exact sd_call (v := some w) C hi hd hm hok SN hrun hfr hlo (by omega) (by omega) (by simpa using fun y => hs9 (Or.inl y)) (fun y => hs9 (Or.inr y)) K
          · rename_i h1 hrun
            have g := run_grow _ _ _ _ _ _ _ _ _ hr
            have g1 := g.1
            have g2 := g.2.1
            have K := SN _ _ _ _ _ _ _ _ hr p e R s m args below meth c ad0 n0 s0 Q C hxt hfr hlo hrc hrs hE hT
            by_cases hs9 : sp_ q' = true ∨ kap_ q' = 12
            · exact SP n SN d' q pc x q' j z ct i ls st h _ h1 p e R s m args below meth c ad0 n0 s0 Q C hxt hi hd hm hok hrun hfr hlo (by omega) (by omega) (Or.inl ⟨none, rfl, hs9, K⟩)
            · exact sd_call (v := none) C hi hd hm hok SN hrun hfr hlo (by omega) (by omega) (by simpa using fun y => hs9 (Or.inl y)) (fun y => hs9 (Or.inr y)) K
          · rename_i h1 hrun
            split at hr
            · rename_i pc9 hh
              have g := run_grow _ _ _ _ _ _ _ _ _ hr
              have g1 := g.1
              have g2 := g.2.1
              have K := SN _ _ _ _ _ _ _ _ hr p e R s m args below meth c ad0 n0 s0 Q C hxt hfr hlo hrc hrs hE hT
              exact SP n SN d' q pc x q' j z ct i ls st h _ h1 p e R s m args below meth c ad0 n0 s0 Q C hxt hi hd hm hok hrun hfr hlo (by omega) (by omega) (Or.inr ⟨rfl, pc9, hh, K⟩)
            · cases hr
          · cases hr
        · cases hr
theorem snd_open (SP : SpC_ l dC dI cy op B0 L xs) : ∀ n, SN_ l dC dI cy op B0 L xs n := by
  intro n
  induction n with
  | zero => intro d q pc ls st h o h' hr; unfold run_ at hr; cases hr
  | succ n ih =>
    intro d q pc ls st h o h' hr p e R s m args below meth c ad0 n0 s0 Q C hxt hfr hlo hrc hrs hE hT
    unfold run_ at hr
    split at hr
    · cases hr
    · rename_i i len hd
      split at hr
      · rename_i hk
        split at hr
        · cases lok_eq hk
          split at hr
          · split at hr
            · rename_i y hrb
              cases hr
              intro ad la H locs e1 hR hKC hL hc1 hc2 hF hS hn hs
              exact hE ad la H locs pc (some (.inl _)) e1 hR hS rfl (fun w hw => by cases hw; exact vcI) ⟨hd, hrb⟩
            · cases hr
          · cases hr
        · cases lok_eq hk
          split at hr
          · split at hr
            · rename_i y hrb
              cases hr
              intro ad la H locs e1 hR hKC hL hc1 hc2 hF hS hn hs
              exact hE ad la H locs pc (some (.inr (.inl _))) e1 hR hS rfl (fun w hw => by cases hw; exact vcJ) ⟨hd, hrb⟩
            · cases hr
          · cases hr
        · cases lok_eq hk
          split at hr
          · split at hr
            · rename_i y nm hrb
              cases hr
              intro ad la H locs e1 hR hKC hL hc1 hc2 hF hS hn hs
              exact hE ad la H locs pc (some (.inr (.inr (.inl _)))) e1 hR hS rfl (fun w hw => by cases hw; exact hc2 _ List.mem_cons_self) ⟨hd, _, hrb⟩
            · cases hr
          · cases hr
        · cases lok_eq hk
          split at hr
          · split at hr
            · rename_i hrb
              cases hr
              intro ad la H locs e1 hR hKC hL hc1 hc2 hF hS hn hs
              exact hE ad la H locs pc none e1 hR hS rfl (fun w hw => by cases hw) ⟨hd, hrb⟩
            · cases hr
          · cases hr
        · cases lok_eq hk
          exact sd_cal_open SP ih C hxt (Or.inl ⟨rfl, rfl⟩) hd hr hfr hlo hrc hrs hE hT
        · cases lok_eq hk
          exact sd_cal_open SP ih C hxt (Or.inr (Or.inl ⟨rfl, rfl⟩)) hd hr hfr hlo hrc hrs hE hT
        · cases lok_eq hk
          exact sd_cal_open SP ih C hxt (Or.inr (Or.inr ⟨rfl, rfl⟩)) hd hr hfr hlo hrc hrs hE hT
        · split at hr
          · rename_i ht
            split at hr
            · cases hr
              intro ad la H locs e1 hR hKC hL hc1 hc2 hF hS hn hs
              exact hT ad la H locs pc h rfl rfl e1 hR hKC hS hL.1 ht hn hs
            · cases hr
          · split at hr
            · rename_i pc9 ls9 st9 h9 hex
              have g := run_grow _ _ _ _ _ _ _ _ _ hr
              have g1 := g.1
              have g2 := g.2.1
              exact sd_ex C hd hk hex (by omega) (by omega) (ih _ _ _ _ _ _ _ _ hr p e R s m args below meth c ad0 n0 s0 Q C hxt hfr hlo hrc hrs hE hT)
            · cases hr
      · cases hr
end IND
