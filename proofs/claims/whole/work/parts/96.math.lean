/-! Object.<init>; max, min, abs -/
section MTH
variable {p : Program} {l : Launch} {e : Env} {R : Room} {s : State} {m : MethodId} {args : Array Value} {below : List Frame} {meth : Method} {c : Code} {dC : Nat → ClassId} {dI : Nat → Nat → Nat} {cy : Nat → ClassId} {op : Value} {B0 L : Nat} {xs : Nat → Int32} {ad0 : Nat → Nat} {n0 s0 : Nat} {Q : State → Prop} {q pc len pc' n d x q' j z ct : Nat} {ls st ls' st' as : List AV} {h h' h1 : AH} {i : Instr} {v : Option AV} {QV : OU_ → AH → Prop} {o : OU_}
theorem V_of_run (hr : run_ xs n d q pc ls st h = some (o, h')) : V_ xs d q pc ls st h (fun o9 h9 => o9 = o ∧ h9 = h') := ⟨n, o, h', hr, rfl, rfl⟩
theorem V_needI {k : Fin 4} (hd : decode (cod_ q) pc = .ok (.iload_n k, 1)) (hv : V_ xs d q pc ls st h QV) : ∃ y, ls[(k : Nat)]? = some (.inl y) := by
  cases hl : ldI_ ls k with
  | some w =>
    obtain ⟨y, -, hg⟩ := ldI_eq hl
    exact ⟨y, hg⟩
  | none =>
    exfalso
    refine (V_exN hd rfl rfl (thr_no hd (fun x e => by cases e)) ?_).mp hv
    unfold ex_
    simp only [exc_, exl_, hl, exa_, exs_, exj_, exk_, exh_]
theorem V_needL {k : Fin 4} (hd : decode (cod_ q) pc = .ok (.lload_n k, 1)) (hv : V_ xs d q pc ls st h QV) : ∃ y, ls[(k : Nat)]? = some (.inr (.inl y)) := by
  cases hl : ldL_ ls k with
  | some w =>
    obtain ⟨y, -, hg⟩ := ldL_eq hl
    exact ⟨y, hg⟩
  | none =>
    exfalso
    refine (V_exN hd rfl rfl (thr_no hd (fun x e => by cases e)) ?_).mp hv
    unfold ex_
    simp only [exc_, exl_, hl, exa_, exs_, exj_, exk_, exh_]
theorem sd_obj {a : Nat} {r : List AV} (C : Cx_ p l R s m args meth c dC dI cy op B0 L xs q) (hd : decode (cod_ q) pc = .ok (.invokespecial x, 3)) (hm : mth_ (kap_ q) x = some (1000, j, z)) (hst : st = .inr (.inr (.inl (some a))) :: r) (hsum : (r.map acat_).sum ≤ 8) (hfr : 1 ≤ R.frames) (hlo : 120 ≤ R.locals) (K : Sm_ p l e R s m args below meth c dC dI cy op B0 L xs ad0 n0 s0 Q q (pc + 3) ls r h) : Sm_ p l e R s m args below meth c dC dI cy op B0 L xs ad0 n0 s0 Q q pc ls st h := by
  obtain ⟨⟨hx, hb, hml, ho, ht⟩, hK0, ⟨hB, hL4, hq200⟩, hlk, hrt, hnm, hst9⟩ := C
  intro ad la H locs e1 hR hKC hL hc1 hc2 hF hS hn hs
  subst hst
  have hop : op.category = 1 := hKC.2.2.2
  have hc : ckm_ (kap_ q) (x, 1000, j, z) = true := pool_all okm_ (kap_lt hq200) hm
  unfold ckm_ at hc
  simp only [Bool.or_eq_true, Bool.and_eq_true, decide_eq_true_iff] at hc
  have hlink : lw_tbl[j]? = some (.methodLink (clnm_ (kap_ q)) x Lib.objectInit) := by
    rcases hc with h1 | h1
    · exact h1.2.1
    · exact absurd h1.1.1 (by decide)
  have hsum' : (((r.map (cv_ ad op)).map fun v => v.category).sum) ≤ 8 := by rw [cv_sum hop]; exact hsum
  exact W.objInit hx hb ho (zgw_ ht hlink rfl) (zgw_ ht (show lw_tbl[98]? = some (.instanceMethod Lib.objectInit) by decide +kernel) rfl) (zgw_ ht (show lw_tbl[99]? = some (.code Lib.objectInit ⟨#[0xb1]⟩ 1 none) by decide +kernel) rfl) rfl (hL.1.trans hml.symm) rfl hd hfr (by show 2 * 0 + _ + 12 ≤ _; omega)
    (K ad la H locs e1 hR hKC hL hc1 (fun w hw => hc2 w (List.mem_cons_of_mem _ hw)) hF hS hn hs)
end MTH
