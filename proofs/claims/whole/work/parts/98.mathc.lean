/-! Math.floorDiv of longs -/
def fdv_ (a b : Int64) : Int64 := if (a ^^^ b) < 0 ∧ ¬ a / b * b = a then a / b - 1 else a / b
theorem fd_row (p : Program) : NativeRow.find? p.tables.natives yJ9_floorDiv_f86c9.cls yJ9_floorDiv_f86c9.name yJ9_floorDiv_f86c9.desc = none := by
  have h : (NativeRow.find? natives yJ9_floorDiv_f86c9.cls yJ9_floorDiv_f86c9.name yJ9_floorDiv_f86c9.desc).isNone = true := by decide +kernel
  cases p <;> exact Option.isNone_iff_eq_none.mp h
def fdS_ (a b : Int64) : Spec := { pre := .and (.code yJ9_floorDiv_f86c9 cJ9_floorDiv_f86c9 6 (some .long)) (.and (.count 2) (.and (.isLong (.arg 0)) (.and (.isLong (.arg 1)) (.and (.eq (.arg 0) (.long a)) (.eq (.arg 1) (.long b)))))), post := .and .returned (.eq .result (.long (fdv_ a b))), changes := some [] }
theorem fd_0 : decode cJ9_floorDiv_f86c9 0 = .ok (.lload_n 0, 1) := by decide +kernel
theorem fd_1 : decode cJ9_floorDiv_f86c9 1 = .ok (.lload_n 2, 1) := by decide +kernel
theorem fd_2 : decode cJ9_floorDiv_f86c9 2 = .ok (.ldiv, 1) := by decide +kernel
theorem fd_3 : decode cJ9_floorDiv_f86c9 3 = .ok (.lstore 4, 2) := by decide +kernel
theorem fd_5 : decode cJ9_floorDiv_f86c9 5 = .ok (.lload_n 0, 1) := by decide +kernel
theorem fd_6 : decode cJ9_floorDiv_f86c9 6 = .ok (.lload_n 2, 1) := by decide +kernel
theorem fd_7 : decode cJ9_floorDiv_f86c9 7 = .ok (.lxor, 1) := by decide +kernel
theorem fd_8 : decode cJ9_floorDiv_f86c9 8 = .ok (.lconst 0, 1) := by decide +kernel
theorem fd_9 : decode cJ9_floorDiv_f86c9 9 = .ok (.lcmp, 1) := by decide +kernel
theorem fd_10 : decode cJ9_floorDiv_f86c9 10 = .ok (.ifCond .ge 17, 3) := by decide +kernel
theorem fd_13 : decode cJ9_floorDiv_f86c9 13 = .ok (.lload 4, 2) := by decide +kernel
theorem fd_15 : decode cJ9_floorDiv_f86c9 15 = .ok (.lload_n 2, 1) := by decide +kernel
theorem fd_16 : decode cJ9_floorDiv_f86c9 16 = .ok (.lmul, 1) := by decide +kernel
theorem fd_17 : decode cJ9_floorDiv_f86c9 17 = .ok (.lload_n 0, 1) := by decide +kernel
theorem fd_18 : decode cJ9_floorDiv_f86c9 18 = .ok (.lcmp, 1) := by decide +kernel
theorem fd_19 : decode cJ9_floorDiv_f86c9 19 = .ok (.ifCond .eq 8, 3) := by decide +kernel
theorem fd_22 : decode cJ9_floorDiv_f86c9 22 = .ok (.lload 4, 2) := by decide +kernel
theorem fd_24 : decode cJ9_floorDiv_f86c9 24 = .ok (.lconst 1, 1) := by decide +kernel
theorem fd_25 : decode cJ9_floorDiv_f86c9 25 = .ok (.lsub, 1) := by decide +kernel
theorem fd_26 : decode cJ9_floorDiv_f86c9 26 = .ok (.lreturn, 1) := by decide +kernel
theorem fd_27 : decode cJ9_floorDiv_f86c9 27 = .ok (.lload 4, 2) := by decide +kernel
theorem fd_29 : decode cJ9_floorDiv_f86c9 29 = .ok (.lreturn, 1) := by decide +kernel
theorem fd_meets (l : Launch) (a b : Int64) (hb0 : ¬ b = 0) : MeetsLoose l yJ9_floorDiv_f86c9 (fdS_ a b) := by
  refine MeetsLoose.of_body_ov (code := cJ9_floorDiv_f86c9) (maxLocals := 6) (ret := some .long) fd_row ?_ ?_
  · intro args s h
    simp only [fdS_, Cond.before_and, Bool.and_eq_true] at h
    exact h.1
  · intro p e s m args below meth c s₁ B
    have hpre := B.pre
    simp only [fdS_, Cond.before_and, Bool.and_eq_true] at hpre
    obtain ⟨a', b', rfl⟩ := Lib.MathLoose.two_longs hpre.2.1 hpre.2.2.1 hpre.2.2.2.1
    have ha : a' = a := by simpa [Cond.before, Cond.holds, Cond.value, Term.eval] using hpre.2.2.2.2.1
    have hb9 : b' = b := by simpa [Cond.before, Cond.holds, Cond.value, Term.eval] using hpre.2.2.2.2.2
    subst ha hb9
    have hloc : argsToLocals #[.long a', .long b'] 6 = #[.val (.long a'), .second, .val (.long b'), .second, .unset, .unset] := rfl
    obtain ⟨fs, hfs⟩ := handOver_isSome (s := s₁) (some (.long (fdv_ a' b'))) B.hears₁
    refine ⟨s₁.setFrames fs, .returned (some (.long (fdv_ a' b'))), ?_, B.here.running, B.ended hfs (by intro h; cases h), ?_, State.sameBut_nil.mpr (by rw [State.frames_setFrames _ B.cur₁, B.back])⟩
    · unfold entryFrame; rw [hloc]
      by_cases h1 : (a' ^^^ b') < 0
      · have h1a : ¬ 0 < (a' ^^^ b') := by rw [Int64.lt_iff_toInt_lt] at h1 ⊢; omega
        have h1b : ¬ (a' ^^^ b') = 0 := by intro h; rw [h] at h1; exact absurd h1 (by decide)
        by_cases h2 : a' / b' * b' = a'
        · have hv : fdv_ a' b' = a' / b' := by simp [fdv_, h2]
          rw [hv] at hfs
          refine Steps.instrAtOv (c := _) (by simpa using B.here) ?_
          simp [jvm, wpRun, exec, B.here.top, B.exec, B.bytes, fd_0]
          refine Steps.instrAtOv (c := _) (by simpa using B.here) ?_
          simp [jvm, wpRun, exec, B.here.top, B.exec, B.bytes, fd_1]
          refine Steps.instrAtOv (c := _) (by simpa using B.here) ?_
          simp [jvm, wpRun, exec, B.here.top, B.exec, B.bytes, fd_2, hb0]
          refine Steps.instrAtOv (c := _) (by simpa using B.here) ?_
          simp [jvm, wpRun, exec, B.here.top, B.exec, B.bytes, fd_3, storeLocals, storeSelf, setAt, Value.category]
          refine Steps.instrAtOv (c := _) (by simpa using B.here) ?_
          simp [jvm, wpRun, exec, B.here.top, B.exec, B.bytes, fd_5]
          refine Steps.instrAtOv (c := _) (by simpa using B.here) ?_
          simp [jvm, wpRun, exec, B.here.top, B.exec, B.bytes, fd_6]
          refine Steps.instrAtOv (c := _) (by simpa using B.here) ?_
          simp [jvm, wpRun, exec, B.here.top, B.exec, B.bytes, fd_7]
          refine Steps.instrAtOv (c := _) (by simpa using B.here) ?_
          simp [jvm, wpRun, exec, B.here.top, B.exec, B.bytes, fd_8]
          refine Steps.instrAtOv (c := _) (by simpa using B.here) ?_
          simp [jvm, wpRun, exec, B.here.top, B.exec, B.bytes, fd_9, h1a, h1b]
          refine Steps.instrAtOv (c := _) (by simpa using B.here) ?_
          simp [jvm, wpRun, exec, B.here.top, B.exec, B.bytes, fd_10, ifCond.holds]
          refine Steps.instrAtOv (c := _) (by simpa using B.here) ?_
          simp [jvm, wpRun, exec, B.here.top, B.exec, B.bytes, fd_13]
          refine Steps.instrAtOv (c := _) (by simpa using B.here) ?_
          simp [jvm, wpRun, exec, B.here.top, B.exec, B.bytes, fd_15]
          refine Steps.instrAtOv (c := _) (by simpa using B.here) ?_
          simp [jvm, wpRun, exec, B.here.top, B.exec, B.bytes, fd_16]
          refine Steps.instrAtOv (c := _) (by simpa using B.here) ?_
          simp [jvm, wpRun, exec, B.here.top, B.exec, B.bytes, fd_17]
          refine Steps.instrAtOv (c := _) (by simpa using B.here) ?_
          simp [jvm, wpRun, exec, B.here.top, B.exec, B.bytes, fd_18, h2]
          refine Steps.instrAtOv (c := _) (by simpa using B.here) ?_
          simp [jvm, wpRun, exec, B.here.top, B.exec, B.bytes, fd_19, ifCond.holds]
          refine Steps.instrAtOv (c := _) (by simpa using B.here) ?_
          simp [jvm, wpRun, exec, B.here.top, B.exec, B.bytes, fd_27]
          refine Steps.instrAtOv (c := _) (by simpa using B.here) ?_
          simp [jvm, wpRun, exec, B.here.top, B.exec, B.bytes, fd_29, B.method₁, B.returns]
          intro acts
          rw [ret_to B.frames₁ B.method₁ B.notSynchronized rfl rfl hfs]
          exact Steps.refl _
        · have hv : fdv_ a' b' = a' / b' - 1 := by simp [fdv_, h1, h2]
          rw [hv] at hfs
          by_cases h3 : a' < a' / b' * b'
          · skip
            refine Steps.instrAtOv (c := _) (by simpa using B.here) ?_
            simp [jvm, wpRun, exec, B.here.top, B.exec, B.bytes, fd_0]
            refine Steps.instrAtOv (c := _) (by simpa using B.here) ?_
            simp [jvm, wpRun, exec, B.here.top, B.exec, B.bytes, fd_1]
            refine Steps.instrAtOv (c := _) (by simpa using B.here) ?_
            simp [jvm, wpRun, exec, B.here.top, B.exec, B.bytes, fd_2, hb0]
            refine Steps.instrAtOv (c := _) (by simpa using B.here) ?_
            simp [jvm, wpRun, exec, B.here.top, B.exec, B.bytes, fd_3, storeLocals, storeSelf, setAt, Value.category]
            refine Steps.instrAtOv (c := _) (by simpa using B.here) ?_
            simp [jvm, wpRun, exec, B.here.top, B.exec, B.bytes, fd_5]
            refine Steps.instrAtOv (c := _) (by simpa using B.here) ?_
            simp [jvm, wpRun, exec, B.here.top, B.exec, B.bytes, fd_6]
            refine Steps.instrAtOv (c := _) (by simpa using B.here) ?_
            simp [jvm, wpRun, exec, B.here.top, B.exec, B.bytes, fd_7]
            refine Steps.instrAtOv (c := _) (by simpa using B.here) ?_
            simp [jvm, wpRun, exec, B.here.top, B.exec, B.bytes, fd_8]
            refine Steps.instrAtOv (c := _) (by simpa using B.here) ?_
            simp [jvm, wpRun, exec, B.here.top, B.exec, B.bytes, fd_9, h1a, h1b]
            refine Steps.instrAtOv (c := _) (by simpa using B.here) ?_
            simp [jvm, wpRun, exec, B.here.top, B.exec, B.bytes, fd_10, ifCond.holds]
            refine Steps.instrAtOv (c := _) (by simpa using B.here) ?_
            simp [jvm, wpRun, exec, B.here.top, B.exec, B.bytes, fd_13]
            refine Steps.instrAtOv (c := _) (by simpa using B.here) ?_
            simp [jvm, wpRun, exec, B.here.top, B.exec, B.bytes, fd_15]
            refine Steps.instrAtOv (c := _) (by simpa using B.here) ?_
            simp [jvm, wpRun, exec, B.here.top, B.exec, B.bytes, fd_16]
            refine Steps.instrAtOv (c := _) (by simpa using B.here) ?_
            simp [jvm, wpRun, exec, B.here.top, B.exec, B.bytes, fd_17]
            refine Steps.instrAtOv (c := _) (by simpa using B.here) ?_
            simp [jvm, wpRun, exec, B.here.top, B.exec, B.bytes, fd_18, h2, h3]
            refine Steps.instrAtOv (c := _) (by simpa using B.here) ?_
            simp [jvm, wpRun, exec, B.here.top, B.exec, B.bytes, fd_19, ifCond.holds]
            refine Steps.instrAtOv (c := _) (by simpa using B.here) ?_
            simp [jvm, wpRun, exec, B.here.top, B.exec, B.bytes, fd_22]
            refine Steps.instrAtOv (c := _) (by simpa using B.here) ?_
            simp [jvm, wpRun, exec, B.here.top, B.exec, B.bytes, fd_24]
            refine Steps.instrAtOv (c := _) (by simpa using B.here) ?_
            simp [jvm, wpRun, exec, B.here.top, B.exec, B.bytes, fd_25]
            refine Steps.instrAtOv (c := _) (by simpa using B.here) ?_
            simp [jvm, wpRun, exec, B.here.top, B.exec, B.bytes, fd_26, B.method₁, B.returns]
            intro acts
            rw [ret_to B.frames₁ B.method₁ B.notSynchronized rfl rfl hfs]
            exact Steps.refl _
          · skip
            refine Steps.instrAtOv (c := _) (by simpa using B.here) ?_
            simp [jvm, wpRun, exec, B.here.top, B.exec, B.bytes, fd_0]
            refine Steps.instrAtOv (c := _) (by simpa using B.here) ?_
            simp [jvm, wpRun, exec, B.here.top, B.exec, B.bytes, fd_1]
            refine Steps.instrAtOv (c := _) (by simpa using B.here) ?_
            simp [jvm, wpRun, exec, B.here.top, B.exec, B.bytes, fd_2, hb0]
            refine Steps.instrAtOv (c := _) (by simpa using B.here) ?_
            simp [jvm, wpRun, exec, B.here.top, B.exec, B.bytes, fd_3, storeLocals, storeSelf, setAt, Value.category]
            refine Steps.instrAtOv (c := _) (by simpa using B.here) ?_
            simp [jvm, wpRun, exec, B.here.top, B.exec, B.bytes, fd_5]
            refine Steps.instrAtOv (c := _) (by simpa using B.here) ?_
            simp [jvm, wpRun, exec, B.here.top, B.exec, B.bytes, fd_6]
            refine Steps.instrAtOv (c := _) (by simpa using B.here) ?_
            simp [jvm, wpRun, exec, B.here.top, B.exec, B.bytes, fd_7]
            refine Steps.instrAtOv (c := _) (by simpa using B.here) ?_
            simp [jvm, wpRun, exec, B.here.top, B.exec, B.bytes, fd_8]
            refine Steps.instrAtOv (c := _) (by simpa using B.here) ?_
            simp [jvm, wpRun, exec, B.here.top, B.exec, B.bytes, fd_9, h1a, h1b]
            refine Steps.instrAtOv (c := _) (by simpa using B.here) ?_
            simp [jvm, wpRun, exec, B.here.top, B.exec, B.bytes, fd_10, ifCond.holds]
            refine Steps.instrAtOv (c := _) (by simpa using B.here) ?_
            simp [jvm, wpRun, exec, B.here.top, B.exec, B.bytes, fd_13]
            refine Steps.instrAtOv (c := _) (by simpa using B.here) ?_
            simp [jvm, wpRun, exec, B.here.top, B.exec, B.bytes, fd_15]
            refine Steps.instrAtOv (c := _) (by simpa using B.here) ?_
            simp [jvm, wpRun, exec, B.here.top, B.exec, B.bytes, fd_16]
            refine Steps.instrAtOv (c := _) (by simpa using B.here) ?_
            simp [jvm, wpRun, exec, B.here.top, B.exec, B.bytes, fd_17]
            refine Steps.instrAtOv (c := _) (by simpa using B.here) ?_
            simp [jvm, wpRun, exec, B.here.top, B.exec, B.bytes, fd_18, h2, h3]
            refine Steps.instrAtOv (c := _) (by simpa using B.here) ?_
            simp [jvm, wpRun, exec, B.here.top, B.exec, B.bytes, fd_19, ifCond.holds]
            refine Steps.instrAtOv (c := _) (by simpa using B.here) ?_
            simp [jvm, wpRun, exec, B.here.top, B.exec, B.bytes, fd_22]
            refine Steps.instrAtOv (c := _) (by simpa using B.here) ?_
            simp [jvm, wpRun, exec, B.here.top, B.exec, B.bytes, fd_24]
            refine Steps.instrAtOv (c := _) (by simpa using B.here) ?_
            simp [jvm, wpRun, exec, B.here.top, B.exec, B.bytes, fd_25]
            refine Steps.instrAtOv (c := _) (by simpa using B.here) ?_
            simp [jvm, wpRun, exec, B.here.top, B.exec, B.bytes, fd_26, B.method₁, B.returns]
            intro acts
            rw [ret_to B.frames₁ B.method₁ B.notSynchronized rfl rfl hfs]
            exact Steps.refl _
      · have hv : fdv_ a' b' = a' / b' := by simp [fdv_, h1]
        rw [hv] at hfs
        by_cases h2 : (a' ^^^ b') = 0
        · skip
          refine Steps.instrAtOv (c := _) (by simpa using B.here) ?_
          simp [jvm, wpRun, exec, B.here.top, B.exec, B.bytes, fd_0]
          refine Steps.instrAtOv (c := _) (by simpa using B.here) ?_
          simp [jvm, wpRun, exec, B.here.top, B.exec, B.bytes, fd_1]
          refine Steps.instrAtOv (c := _) (by simpa using B.here) ?_
          simp [jvm, wpRun, exec, B.here.top, B.exec, B.bytes, fd_2, hb0]
          refine Steps.instrAtOv (c := _) (by simpa using B.here) ?_
          simp [jvm, wpRun, exec, B.here.top, B.exec, B.bytes, fd_3, storeLocals, storeSelf, setAt, Value.category]
          refine Steps.instrAtOv (c := _) (by simpa using B.here) ?_
          simp [jvm, wpRun, exec, B.here.top, B.exec, B.bytes, fd_5]
          refine Steps.instrAtOv (c := _) (by simpa using B.here) ?_
          simp [jvm, wpRun, exec, B.here.top, B.exec, B.bytes, fd_6]
          refine Steps.instrAtOv (c := _) (by simpa using B.here) ?_
          simp [jvm, wpRun, exec, B.here.top, B.exec, B.bytes, fd_7]
          refine Steps.instrAtOv (c := _) (by simpa using B.here) ?_
          simp [jvm, wpRun, exec, B.here.top, B.exec, B.bytes, fd_8]
          refine Steps.instrAtOv (c := _) (by simpa using B.here) ?_
          simp [jvm, wpRun, exec, B.here.top, B.exec, B.bytes, fd_9, h2]
          refine Steps.instrAtOv (c := _) (by simpa using B.here) ?_
          simp [jvm, wpRun, exec, B.here.top, B.exec, B.bytes, fd_10, ifCond.holds]
          refine Steps.instrAtOv (c := _) (by simpa using B.here) ?_
          simp [jvm, wpRun, exec, B.here.top, B.exec, B.bytes, fd_27]
          refine Steps.instrAtOv (c := _) (by simpa using B.here) ?_
          simp [jvm, wpRun, exec, B.here.top, B.exec, B.bytes, fd_29, B.method₁, B.returns]
          intro acts
          rw [ret_to B.frames₁ B.method₁ B.notSynchronized rfl rfl hfs]
          exact Steps.refl _
        · have h3 : 0 < (a' ^^^ b') := by rw [Int64.lt_iff_toInt_lt] at h1 ⊢; rw [← Int64.toInt_inj] at h2; have : (0 : Int64).toInt = 0 := rfl; omega
          refine Steps.instrAtOv (c := _) (by simpa using B.here) ?_
          simp [jvm, wpRun, exec, B.here.top, B.exec, B.bytes, fd_0]
          refine Steps.instrAtOv (c := _) (by simpa using B.here) ?_
          simp [jvm, wpRun, exec, B.here.top, B.exec, B.bytes, fd_1]
          refine Steps.instrAtOv (c := _) (by simpa using B.here) ?_
          simp [jvm, wpRun, exec, B.here.top, B.exec, B.bytes, fd_2, hb0]
          refine Steps.instrAtOv (c := _) (by simpa using B.here) ?_
          simp [jvm, wpRun, exec, B.here.top, B.exec, B.bytes, fd_3, storeLocals, storeSelf, setAt, Value.category]
          refine Steps.instrAtOv (c := _) (by simpa using B.here) ?_
          simp [jvm, wpRun, exec, B.here.top, B.exec, B.bytes, fd_5]
          refine Steps.instrAtOv (c := _) (by simpa using B.here) ?_
          simp [jvm, wpRun, exec, B.here.top, B.exec, B.bytes, fd_6]
          refine Steps.instrAtOv (c := _) (by simpa using B.here) ?_
          simp [jvm, wpRun, exec, B.here.top, B.exec, B.bytes, fd_7]
          refine Steps.instrAtOv (c := _) (by simpa using B.here) ?_
          simp [jvm, wpRun, exec, B.here.top, B.exec, B.bytes, fd_8]
          refine Steps.instrAtOv (c := _) (by simpa using B.here) ?_
          simp [jvm, wpRun, exec, B.here.top, B.exec, B.bytes, fd_9, h2, h3]
          refine Steps.instrAtOv (c := _) (by simpa using B.here) ?_
          simp [jvm, wpRun, exec, B.here.top, B.exec, B.bytes, fd_10, ifCond.holds]
          refine Steps.instrAtOv (c := _) (by simpa using B.here) ?_
          simp [jvm, wpRun, exec, B.here.top, B.exec, B.bytes, fd_27]
          refine Steps.instrAtOv (c := _) (by simpa using B.here) ?_
          simp [jvm, wpRun, exec, B.here.top, B.exec, B.bytes, fd_29, B.method₁, B.returns]
          intro acts
          rw [ret_to B.frames₁ B.method₁ B.notSynchronized rfl rfl hfs]
          exact Steps.refl _
    · simp [fdS_, Cond.after, Cond.holds, Cond.value, Term.eval]
section FDW
variable {p : Program} {l : Launch} {e : Env} {R : Room} {s : State} {m : MethodId} {args : Array Value} {below : List Frame} {meth : Method} {c : Code} {H : Heap} {locs : List Loc} {cells slots : Nat} {Q : State → Prop} {T : State}
variable {pc : Nat} {ls : Array Slot} {rest : List Value}
theorem fd_longV (X : Stand p l e R s m args below meth c T locs cells slots) (hexec : p.tables.exec = Jvm.exec) {own : String} {index : Nat} (hown : s.vm.findClass own = some m.cls)
    (hlink : (Cond.methodLink own index yJ9_floorDiv_f86c9).before args s = true) (hstat : (Cond.static yJ9_floorDiv_f86c9).before args s = true) (hinit : (Cond.initialized "java/lang/Math").before args s = true)
    (hcode : (Cond.code yJ9_floorDiv_f86c9 cJ9_floorDiv_f86c9 6 (some .long)).before args s = true)
    {g : JFrame} (hg : g.method = m) (hsize : g.locals.size = c.maxLocals) {a b : Int64} (hb0 : ¬ b = 0) {rest : List Value} (hstack : g.stack = .long b :: .long a :: rest) (hdg : decode c.code g.pc = .ok (.invokestatic index, 3))
    (hframes : 1 ≤ R.frames) (hlocals : 2 * g.monitorRoom + (rest.map fun v => v.category).sum + 17 ≤ R.locals) (hcells : cells ≤ R.cells) (hslots : slots ≤ R.slots) :
    ∃ vm', Stand p l e R s m args below meth c (T.setVm vm') locs cells slots ∧
      ∀ target, Steps p.tables e below ((T.setVm vm').setTop { g with pc := g.pc + 3, stack := .long (fdv_ a b) :: rest }) target → Steps p.tables e below (T.setTop g) target := by
  obtain ⟨v, T', X', ⟨first, t, hpost⟩, hstep⟩ := X.staticByContractV hexec hown hlink hstat hinit hcode (by decide)
    (fd_meets l a b hb0)
    rfl rfl rfl rfl
    (fun args' first o s₂ h => by
      cases o with
      | returned r => exact ⟨r, rfl⟩
      | threw y =>
        have hz : (fdS_ a b).post.value args' first (some (.threw y)) s₂ [] = some true := by simpa [Cond.after, Cond.holds] using h
        exact absurd hz va_nvRet)
    hg hsize (argsL := [.long a, .long b]) (rest := rest)
    (fun sig hs => by
      have h : parseMethodDescriptor "(JJ)J" = some { parameters := [.long, .long], returnType := some .long } := by decide +kernel
      rw [show yJ9_floorDiv_f86c9.desc = "(JJ)J" from rfl, h] at hs
      rw [← Option.some.inj hs]; rfl)
    hstack hdg
    (fun vm' hW => by
      simp only [fdS_, Cond.before_and, Bool.and_eq_true]
      refine ⟨?_, rfl, rfl, rfl, ?_, ?_⟩
      · have q := hcode
        rw [← Cond.code_setVm hW.alike] at q
        simp only [Cond.before, Cond.holds, Cond.value, State.methodNamed?, State.vm_setVm] at q ⊢
        exact q
      · simp [Cond.before, Cond.holds, Cond.value, Term.eval]
      · simp [Cond.before, Cond.holds, Cond.value, Term.eval])
    (by show 0 + 1 ≤ R.frames; omega) (by show 2 * g.monitorRoom + (rest.map fun v => v.category).sum + (6 + 11) + 0 ≤ R.locals; omega) (by show cells + 0 ≤ R.cells; omega) (by show slots + 0 ≤ R.slots; omega)
  refine ⟨T', X', fun target h => hstep target ?_⟩
  obtain rfl : v = some (.long (fdv_ a b)) := by
    rcases v with _ | w
    · simp [fdS_, Cond.after, Cond.holds, Cond.value, Term.eval] at hpost
    · cases w <;> simp [fdS_, Cond.after, Cond.holds, Cond.value, Term.eval] at hpost
      simp [hpost]
  exact h
theorem va_fdiv {cc : ByteArray} (hexec : p.tables.exec = Jvm.exec) (hb : c.code = cc) (hml : c.maxLocals = ls.size) {own : String} {index : Nat} (hown : s.vm.findClass own = some m.cls) (hlink : (Cond.methodLink own index yJ9_floorDiv_f86c9).before args s = true) (hstat : (Cond.static yJ9_floorDiv_f86c9).before args s = true) (hini : (Cond.initialized "java/lang/Math").before args s = true) (hcode : (Cond.code yJ9_floorDiv_f86c9 cJ9_floorDiv_f86c9 6 (some .long)).before args s = true)
    (hframes : 1 ≤ R.frames) (hlocals : (rest.map fun v => v.category).sum + 17 ≤ R.locals) (hc : cells ≤ R.cells) (hs : slots ≤ R.slots) {x y : Int64} (hy0 : ¬ y = 0) (hdg : decode cc pc = .ok (.invokestatic index, 3))
    (kk : W p l e R s m args below meth c H locs cells slots Q (F0 m (pc + 3) ls (.long (fdv_ x y) :: rest))) : W p l e R s m args below meth c H locs cells slots Q (F0 m pc ls (.long y :: .long x :: rest)) := by
  intro T hT X
  obtain ⟨vm', X', st⟩ := fd_longV X hexec hown hlink hstat hini hcode (g := F0 m pc ls (.long y :: .long x :: rest)) rfl (by rw [hml]) (a := x) (b := y) hy0 (rest := rest) rfl (by rw [hb]; exact hdg) hframes (by show 2 * 0 + _ + 17 ≤ _; omega) hc hs
  obtain ⟨t, a1, b1⟩ := kk (T.setVm vm') hT X'
  exact ⟨t, st t a1, b1⟩
end FDW
section FDS
variable {p : Program} {l : Launch} {e : Env} {R : Room} {s : State} {m : MethodId} {args : Array Value} {below : List Frame} {meth : Method} {c : Code} {dC : Nat → ClassId} {dI : Nat → Nat → Nat} {cy : Nat → ClassId} {op : Value} {B0 L : Nat} {xs : Nat → Int32} {ad0 : Nat → Nat} {n0 s0 : Nat} {Q : State → Prop} {q pc len pc' n d x q' j z ct : Nat} {ls st ls' st' as : List AV} {h h' h1 : AH} {i : Instr} {v : Option AV} {QV : OU_ → AH → Prop} {o : OU_}
theorem V_noldiv {x : Int64} (hd : decode (cod_ q) pc = .ok (.ldiv, 1)) : ¬ V_ xs d q pc ls (vJ 0 :: vJ x :: st) h QV := by
  intro hv
  refine (V_exN hd rfl rfl (thr_no hd (fun x e => by cases e)) ?_).mp hv
  rfl
theorem r_fdiv {x y : Int64} (hV : V_ xs d 182 0 [vJ x, vX 0, vJ y, vX 0, vX 0, vX 0] [] h QV) : ¬ y = 0 ∧ QV (some (some (vJ (fdv_ x y)))) h := by
  have h2 := s182_1.mp (s182_0.mp hV)
  by_cases hy : y = 0
  · subst hy
    exact absurd h2 (V_noldiv (show decode (cod_ 182) 2 = .ok (.ldiv, 1) by decide +kernel))
  · refine ⟨hy, ?_⟩
    have h3 := (s182_2 hy).mp h2
    simp only [s182_3, s182_5, s182_6, s182_7, s182_8, s182_9, s182_10, s182_13, s182_15, s182_16, s182_17, s182_18, s182_19, s182_22, s182_24, s182_25, s182_26, s182_27, s182_29, lgc_lt, lgc_0] at h3
    unfold fdv_
    by_cases a1 : x ^^^ y < 0
    · rw [if_pos a1] at h3
      by_cases a2 : x / y * y = x
      · rw [if_pos a2] at h3
        rw [if_neg (fun z => z.2 a2)]; exact h3
      · rw [if_neg a2] at h3
        rw [if_pos ⟨a1, a2⟩]; exact h3
    · rw [if_neg a1] at h3
      rw [if_neg (fun z => a1 z.1)]; exact h3
theorem sd_fdiv (C : Cx_ p l R s m args meth c dC dI cy op B0 L xs q) (hd : decode (cod_ q) pc = .ok (.invokestatic x, 3)) (hm : mth_ (kap_ q) x = some (182, j, z)) (hna : nar_ 182 ≤ st.length) (hsum : ((st.drop (nar_ 182)).map acat_).sum ≤ 8) (hpk : pok_ 182 (st.take (nar_ 182)).reverse = true) (hrun : run_ xs n d 182 0 (ent_ (st.take (nar_ 182)).reverse (mxl_ 182)) [] h = some (some v, h1)) (hfr : 1 ≤ R.frames) (hlo : 120 ≤ R.locals) (hrc : nx_ h1 - n0 ≤ R.cells) (hrs : sl_ h1 - s0 ≤ R.slots)
    (K : Sm_ p l e R s m args below meth c dC dI cy op B0 L xs ad0 n0 s0 Q q (pc + 3) ls (v.toList ++ st.drop (nar_ 182)) h1) : Sm_ p l e R s m args below meth c dC dI cy op B0 L xs ad0 n0 s0 Q q pc ls st h := by
  obtain ⟨⟨hx, hb, hml, ho, ht⟩, hK0, ⟨hB, hL4, hq200⟩, hlk, hrt, hnm, hst9⟩ := C
  intro ad la H locs e1 hR hKC hL hc1 hc2 hF hS hn hs
  have hop : op.category = 1 := hKC.2.2.2
  obtain ⟨hlink, hz⟩ := mth_mem (kap_lt hq200) hm (by decide)
  have hz0 : z = 0 := by omega
  rw [hz0, if_neg (by decide)] at hlink
  have hna2 : 2 ≤ st.length := hna
  match st, hna2 with
  | w1 :: w0 :: r, _ =>
    have hV := V_of_run hrun
    have hsum' : (((r.map (cv_ ad op)).map fun v => v.category).sum) ≤ 8 := by rw [cv_sum hop]; exact hsum
    have hcr : ∀ w ∈ r, vc_ L h w := fun w hw => hc2 w (List.mem_cons_of_mem _ (List.mem_cons_of_mem _ hw))
    rcases w0 with x0 | x0 | x0 | x0
    case inr.inl =>
      rcases w1 with x1 | x1 | x1 | x1
      case inr.inl =>
        obtain ⟨hy0, hv, hh⟩ := r_fdiv hV
        cases hv
        cases hh
        exact va_fdiv hx hb (hml.trans hL.1.symm) ho (zgw_ ht hlink rfl) (zgw_ ht (show lw_tbl[813]? = some (.static yJ9_floorDiv_f86c9) by decide +kernel) rfl) (zgw_ ht (show lw_tbl[80]? = some (.initialized "java/lang/Math") by decide +kernel) rfl) (zgw_ ht (show lw_tbl[814]? = some (.code yJ9_floorDiv_f86c9 cJ9_floorDiv_f86c9 6 (some .long)) by decide +kernel) rfl) hfr (by omega) hrc hrs hy0 hd (K ad la H locs e1 hR hKC hL hc1 (all_cons vcJ hcr) hF hS hn hs)
      all_goals
        exfalso
        obtain ⟨y, hy⟩ := V_needL (show decode (cod_ 182) 1 = .ok (.lload_n 2, 1) by decide +kernel) (s182_0.mp hV)
        cases hy
    all_goals
      exfalso
      obtain ⟨y, hy⟩ := V_needL (show decode (cod_ 182) 0 = .ok (.lload_n 0, 1) by decide +kernel) hV
      cases hy
end FDS
