/-! ===== methods of java.lang.Math that an entry of the table of natives runs ===== -/
theorem hasRoom9 {s : State} {pl : Platform} {m mS : MethodId} {a b : Array Value} {nf : NFrame} {below : List Frame} {meth methS : Method} {c cS : Code} {r r' : Room} (hf : s.frames = .invoking m a :: below) (hm : s.vm.method? m = some meth) (hc : meth.code = some c) (hmS : s.vm.method? mS = some methS) (hcS : methS.code = some cS) (hw : nf.words ≤ 1024) (h : s.hasRoom pl r = true) (h1 : r'.frames + 1 ≤ r.frames) (h2 : 1024 + cS.maxLocals + r'.locals ≤ c.maxLocals + r.locals) (h3 : r'.cells ≤ r.cells) (h4 : r'.slots ≤ r.slots) : (s.setFrames (.invoking mS b :: .native nf :: below)).hasRoom pl r' = true := by
  have hcur := State.cur_lt_of_frames hf
  have e1 := State.localsInUse_invoking hf hm hc
  have hf2 : (s.setFrames (.invoking mS b :: .native nf :: below)).frames = .invoking mS b :: .native nf :: below := State.frames_setFrames _ hcur
  have e2 := State.localsInUse_invoking (s := s.setFrames (.invoking mS b :: .native nf :: below)) hf2 (meth := methS) (c := cS) hmS hcS
  have hwt : Frame.weight (.native nf) = 1024 := by show max nf.words vmFrameWords = 1024; unfold vmFrameWords; omega
  have e3 : stackWeight (.native nf :: below) = 1024 + stackWeight below := by
    unfold stackWeight
    rw [List.map_cons, List.sum_cons, hwt]
  rw [e3] at e2
  simp only [State.hasRoom, Bool.and_eq_true, decide_eq_true_eq, State.stackLimits_setFrames, State.stackBytes_setFrames, e1, e2, hf, hf2, List.length_cons] at h ⊢
  obtain ⟨⟨⟨⟨a0, a1, a2, a3, a4, a5⟩, b1⟩, c1⟩, d1⟩ := h
  refine ⟨⟨⟨⟨by omega, by omega, by omega, by omega, by omega, a5⟩, ?_⟩, ?_⟩, d1⟩
  · show s.heap.size + r'.cells ≤ pl.maxCells
    omega
  · show s.slotsUsed + r'.slots ≤ pl.maxSlots
    omega
/-- what a fresh frame's locals give back of an invocation's values -/
def gb9 (ls : Array Slot) (n : Nat) : Array Value := (ls.toList.filterMap fun | .val v => some v | _ => none).toArray.extract 0 n
/-- a step of a fresh frame whose method an entry of the table runs -/
theorem ovs9 {tb : Tables} {e : Env} {s : State} {f : JFrame} {rest : List Frame} {k : Class} {x : Method} {row : NativeRow} {given : Array Value} (hf : s.frames = .java f :: rest) (h0 : f.pc = 0) (hk : s.vm.classes[f.method.cls]? = some k) (hx : k.methods[f.method.idx]? = some x) (hin : overriddenIn.contains k.name = true) (hb : k.loader = none) (hrow : NativeRow.find? tb.natives k.name x.name x.desc = some row) (hg : gb9 f.locals (x.sig.parameters.length + (if x.isStatic then 0 else 1)) = given) : stepThread tb e s = afterNative e { method := f.method, args := given, locked := f.locked } rest ((row.sem given).run e (s.setFrames (.native { method := f.method, args := given, locked := f.locked } :: rest))) := by
  have e1 : overridden tb e s f = some row := by
    rw [overridden, if_neg (by rw [h0]; decide), hk]
    show (if (!(overriddenIn.contains k.name || (e.platform.finalization && k.name == "java/lang/Object")) || k.loader.isSome) = true then none else _) = _
    rw [hin, hb, if_neg (by rw [Bool.true_or]; decide), hx]
    exact hrow
  have e2 : argCount s f.method = x.sig.parameters.length + (if x.isStatic then 0 else 1) := by
    rw [argCount, hk, Option.bind_some, hx]
  rw [stepThread, hf]
  simp only [e1, e2]
  rw [← hg]
  rfl
theorem gb9_D (v : UInt64) : gb9 (argsToLocals #[.double v] 2) 1 = #[.double v] := rfl
theorem gb9_DD (v w : UInt64) : gb9 (argsToLocals #[.double v, .double w] 4) 2 = #[.double v, .double w] := rfl
theorem ov1 {p : Program} {e : Env} {s : State} {m : MethodId} {args : Array Value} {below : List Frame} {mi : MI} {rm : Room} {row : NativeRow} {ps : List FieldType} (hf : s.frames = .invoking m args :: below) (happ : (headSpec (pw9 mi) rm).appliesLoose mi.1 e.platform s = true) (hst : Cond.static mi.1 ∈ lw_w) (hin : overriddenIn.contains mi.1.cls = true) (hrow : NativeRow.find? p.tables.natives mi.1.cls mi.1.name mi.1.desc = some row) (hdesc : parseMethodDescriptor mi.1.desc = some { parameters := ps, returnType := mi.2.2.2 }) (hgiven : gb9 (argsToLocals args mi.2.2.1) ps.length = args) :
    ∃ meth c k, s.vm.method? m = some meth ∧ meth.code = some c ∧ c.maxLocals = mi.2.2.1 ∧ meth.sig.returnType = mi.2.2.2 ∧ s.vm.classes[m.cls]? = some k ∧ k.methods[m.idx]? = some meth ∧ k.loader = none ∧ k.name = mi.1.cls ∧ meth.name = mi.1.name ∧ meth.desc = mi.1.desc ∧ (stepThread p.tables e s).1 = s.setFrames (.java (entryFrame m args mi.2.2.1) :: below) ∧ stepThread p.tables e (s.setFrames (.java (entryFrame m args mi.2.2.1) :: below)) = afterNative e { method := m, args := args, locked := none } below ((row.sem args).run e (s.setFrames (.native { method := m, args := args, locked := none } :: below))) := by
  obtain ⟨hrun, hable, halone, hname, hhears, hinit, hroom, hpre⟩ := (Spec.appliesLoose_iff hf).mp happ
  have hts := atoms_spec (ws := pw9 mi) hpre
  obtain ⟨meth, c, hmeth, hcode, hbytes, hlocals, hret, hlocks, -, hsig⟩ := Cond.code_spec hname (hts _ List.mem_cons_self)
  have hstatic := Cond.static_spec hname hmeth (hts _ (List.mem_cons_of_mem _ hst))
  obtain ⟨k, hk, hkname⟩ := className_of_methodNamed hname
  obtain ⟨hmn, hmd⟩ := name_of_methodNamed hname hmeth
  have hx : k.methods[m.idx]? = some meth := by simpa [Vm.method?, hk] using hmeth
  have hboot : k.loader = none := Vm.bootOf_findClass (findClass_of_methodNamed hname) hk
  have hps : meth.sig.parameters = ps := by
    rw [hdesc] at hsig
    rw [← Option.some.inj hsig]
  have hcur := State.cur_lt_of_frames hf
  have hstep : (stepThread p.tables e s).1 = s.setFrames (.java (entryFrame m args mi.2.2.1) :: below) := by
    have hfull : e.platform.stackFull (s.setFrames below).me (s.setFrames below).frames c.maxLocals = false := by
      obtain ⟨-, h1, -, h2⟩ := State.hasRoom_stack hroom
      rw [hf, List.length_cons] at h1
      rw [State.localsInUse_invoking hf hmeth hcode] at h2
      have hw := stackUse_le_stackWeight below
      rw [State.frames_setFrames _ hcur]
      exact Platform.stackFull_eq_false (by rw [State.stackLimits_setFrames]; omega) (by rw [State.stackLimits_setFrames]; omega)
    rw [stepThread_invoking hf, (doInvoke_java (s := s.setFrames below) (e := e) (meth := meth) (code := c) hmeth hcode hlocks hfull).1]
    simp only [State.pushFrame, State.frames_setFrames _ hcur, State.setFrames_setFrames, hlocals, entryFrame]
  refine ⟨meth, c, k, hmeth, hcode, hlocals, hret, hk, hx, hboot, hkname, hmn, hmd, hstep, ?_⟩
  have hf1 : (s.setFrames (.java (entryFrame m args mi.2.2.1) :: below)).frames = .java (entryFrame m args mi.2.2.1) :: below := State.frames_setFrames _ hcur
  rw [ovs9 (k := k) (x := meth) (row := row) (given := args) hf1 rfl hk hx (by rw [hkname]; exact hin) hboot (by rw [hkname, hmn, hmd]; exact hrow) (by rw [hstatic, hps]; exact hgiven), State.setFrames_setFrames]
  rfl
theorem sbn9 {A B : State} {L : List Loc} {k n : Nat} {F fs : List Frame} (hc : B.cur < B.threads.size) (h : (A.setFrames F).sameButNew B L k n) : A.sameButNew (B.setFrames fs) L k n := by
  obtain ⟨h1, h2⟩ := h
  refine ⟨?_, h2⟩
  have h3 := congrArg (fun S : State => S.setFrames fs) h1
  have h4 : B.setFrames fs = { ((A.setFrames F).setFrames B.frames).setFrames fs with heap := B.heap, slotsUsed := B.slotsUsed } := h3
  rw [State.setFrames_setFrames, State.setFrames_setFrames] at h4
  rw [State.frames_setFrames _ hc]
  exact h4
theorem end9 {s : State} {m : MethodId} {below fs : List Frame} {v : Value} {meth : Method} (hm : s.vm.method? m = some meth) (hr : meth.sig.returnType = some .double) (hcur : s.cur < s.threads.size) (hh : s.hears m below = true) (hfs : handOver s (some v) below = some fs) : Ended (s.setFrames fs) below (.returned (some v)) := by
  refine ended_of_handOver hfs hcur ?_
  rcases below with _ | ⟨y, r⟩
  · simp [State.hears, hm, hr] at hh
  · cases y
    case java g => exact Or.inr ⟨_, _, rfl, trivial⟩
    case native g => exact Or.inr ⟨_, _, rfl, trivial⟩
    case proc g => exact Or.inr ⟨_, _, rfl, trivial⟩
    all_goals simp [State.hears, hm, hr] at hh
/-- a method that an entry runs and that changes nothing -/
theorem Cc_ov {d : Nat} {mi : MI} {av : List Value} {σ : S9} {P : UInt64 → S9 → Prop} {row : NativeRow} {ps : List FieldType} {r : UInt64} (hst : Cond.static mi.1 ∈ lw_w) (hin : overriddenIn.contains mi.1.cls = true) (hrow : ∀ p : Program, NativeRow.find? p.tables.natives mi.1.cls mi.1.name mi.1.desc = some row) (hret : mi.2.2.2 = some .double) (hdesc : parseMethodDescriptor mi.1.desc = some { parameters := ps, returnType := mi.2.2.2 }) (hgiven : ∀ ad, gb9 (argsToLocals (av.map (trv ad)).toArray mi.2.2.1) ps.length = (av.map (trv ad)).toArray) (hw : ∀ ad (e : Env) (S : State), wpRun (row.sem (av.map (trv ad)).toArray) (fun v s₂ _ => v = some (.double r) ∧ s₂ = S) (fun _ _ _ => False) e S) (h : P r σ) : Cc d mi av σ (QD P) := by
  intro γ l hG p e ha hc hk s m args below hf happ hv _
  obtain ⟨rfl, hP, hK⟩ := hv
  obtain ⟨hrun, hable, halone, hname, hhears, hinit, hroom, hpre⟩ := (Spec.appliesLoose_iff hf).mp happ
  obtain ⟨meth, c, k, hmeth, hcode, hlocals, hret2, hk2, hx, hboot, hkn, hmn, hmd, hstep, hstep2⟩ := ov1 hf happ hst hin (hrow p) hdesc (hgiven γ.1)
  have hcur := State.cur_lt_of_frames hf
  obtain ⟨S, eS⟩ : ∃ S, s.setFrames (.native { method := m, args := (av.map (trv γ.1)).toArray, locked := none } :: below) = S := ⟨_, rfl⟩
  rw [eS] at hstep2
  have hfS : S.frames = .native { method := m, args := (av.map (trv γ.1)).toArray, locked := none } :: below := by rw [← eS]; exact State.frames_setFrames _ hcur
  have hhS : S.hears m below = true := by rw [← eS]; exact hhears
  obtain ⟨fs, hfs⟩ := handOver_isSome (s := S) (some (.double r)) hhS
  have hw2 := (wpRun_iff_run _ _ _ _ _).mp (hw γ.1 e S)
  have hstep3 : (stepThread p.tables e (s.setFrames (.java (entryFrame m (av.map (trv γ.1)).toArray mi.2.2.1) :: below))).1 = S.setFrames fs := by
    rw [hstep2]
    cases hr : (row.sem (av.map (trv γ.1)).toArray).run e S with
    | ctl x s₁ acts₁ => rw [hr] at hw2; cases x <;> exact hw2.elim
    | ok v' s₁ acts₁ =>
      rw [hr] at hw2
      obtain ⟨rfl, rfl⟩ := hw2
      exact doReturn_native hfS rfl hfs
  have e9 : S.setFrames fs = s.setFrames fs := by rw [← eS, State.setFrames_setFrames]
  have hmS : S.vm.method? m = some meth := by rw [← eS]; exact hmeth
  have hcS : S.cur < S.threads.size := State.cur_lt_of_frames hfS
  have hE := end9 hmS (hret2.trans hret) hcS hhS hfs
  have hf1 : (s.setFrames (.java (entryFrame m (av.map (trv γ.1)).toArray mi.2.2.1) :: below)).frames = .java (entryFrame m (av.map (trv γ.1)).toArray mi.2.2.1) :: below := State.frames_setFrames _ hcur
  have s1 : Steps p.tables e below (s.setFrames (.java (entryFrame m (av.map (trv γ.1)).toArray mi.2.2.1) :: below)) (S.setFrames fs) :=
    Steps.head ⟨hrun, by simpa using hable, by simpa using halone⟩ ⟨[.java (entryFrame m (av.map (trv γ.1)).toArray mi.2.2.1)], hf1, by simp, by simp⟩ (hstep3 ▸ Steps.refl _)
  obtain ⟨n, hn, hw⟩ := Steps.head (tb := p.tables) (e := e) ⟨hrun, hable, halone⟩ ⟨[.invoking m (av.map (trv γ.1)).toArray], hf, by simp, by simp⟩ (hstep ▸ s1)
  refine ⟨n, .returned (some (.double r)), hw, ?_, by rw [hn]; exact hE, ?_⟩
  · rw [hn, e9]; exact hrun
  · rw [hn]
    refine ⟨s.drawn, Drawn.sameBut.refl _ _, ⟨⟨[.double r], σ, rfl, Nat.le_refl _, ⟨r, rfl, h⟩, ?_, ?_⟩, ?_⟩, [], ⟨⟨_, rfl⟩, ?_, ?_⟩, fun q hq => absurd hq List.not_mem_nil⟩
    · rw [e9]; exact hP
    · rw [e9]; exact hK
    · rw [e9]; exact ⟨Nat.le_refl _, fun _ _ _ => rfl⟩
    · rw [e9]; exact State.WarmedH.refl _
    · rw [e9]
      have hz : s.sameButNew s [] 0 0 := by
        refine ⟨?_, Nat.le_refl _, Nat.le_refl _, ?_, ?_, fun a c hc => ⟨c, hc, rfl, rfl, fun _ _ => rfl⟩⟩
        · obtain ⟨t, ht, -⟩ := State.frames_cons hf
          rw [State.setFrames_self ht]
        · rw [← Array.length_toList, List.drop_length]; rfl
        · rw [← Array.length_toList, List.drop_length]; exact Nat.le_refl _
      have hz2 : (s.setFrames s.frames).sameButNew s [] 0 0 := by
        obtain ⟨t, ht, -⟩ := State.frames_cons hf
        rw [State.setFrames_self ht]
        exact hz
      exact sbn9 hcur hz2
def rintRow9 : NativeRow := (NativeRow.find? Native.java_lang_Math.nans.rows "java/lang/Math" "rint" "(D)D").get (by decide +kernel)
set_option maxRecDepth 100000 in
theorem rint_row9 (p : Program) : NativeRow.find? p.tables.natives "java/lang/Math" "rint" "(D)D" = some rintRow9 := by
  cases p <;> rfl
theorem rint_run9 (b : UInt64) (e : Env) (S : State) {cS : ClassId} {kS : Class} {i : Nat} (hf : S.vm.findClass "java/lang/StrictMath" = some cS) (hk : S.vm.classes[cS]? = some kS) (hi : kS.init = .initialized) (hm : kS.findMethod "rint" "(D)D" = some i) :
    ∃ acts, (rintRow9.sem #[.double b]).run e S = .ctl (.call ⟨cS, i⟩ #[.double b] 1 #[]) S acts := by
  have hsem : rintRow9.sem #[.double b] = (do
      let c ← classNamed "java/lang/StrictMath"
      ensureInit c
      let some i := (← theClass c).findMethod "rint" "(D)D" | modelBug ("StrictMath lacks " ++ "rint")
      callThen ⟨c, i⟩ #[.double b] 1 #[]) := rfl
  have hw : wpRun (rintRow9.sem #[.double b]) (fun _ _ _ => False) (fun c s₂ _ => c = .call ⟨cS, i⟩ #[.double b] 1 #[] ∧ s₂ = S) e S := by
    rw [hsem]
    simp [jvm, wpRun, W.classNamed_ready hf, W.ensureInit_ready ⟨kS, hk, hi⟩, theClass, callThen, hk, hm]
    exact ⟨rfl, rfl, rfl, rfl⟩
  have hw' := (wpRun_iff_run _ _ _ _ _).mp hw
  cases hr : (rintRow9.sem #[.double b]).run e S with
  | ok v s₂ acts₂ => rw [hr] at hw'; exact hw'.elim
  | ctl x s₂ acts₂ =>
    rw [hr] at hw'
    have h2 : x = .call ⟨cS, i⟩ #[.double b] 1 #[] ∧ s₂ = S := by cases x <;> first | exact hw' | exact hw'.elim
    obtain ⟨rfl, rfl⟩ := h2
    exact ⟨_, rfl⟩
theorem rint_resume9 {r : UInt64} (hn : r &&& 0x7fffffffffffffff ≤ 0x7ff0000000000000) (e : Env) (S : State) :
    ∃ acts, (rintRow9.resume 1 #[] (.returned (some (.double r)))).run e S = .ok (some (.double r)) S acts := by
  have hsem : rintRow9.resume 1 #[] (.returned (some (.double r))) = (do
      let r ← anyNaN64 r
      mark "nat.java_lang_Math.rint"
      Pure.pure (some (.double r))) := rfl
  have hw : wpRun (rintRow9.resume 1 #[] (.returned (some (.double r)))) (fun v s₂ _ => v = some (.double r) ∧ s₂ = S) (fun _ _ _ => False) e S := by
    rw [hsem]
    simp [jvm, wpRun, anyNaN64, hn]
  have hw' := (wpRun_iff_run _ _ _ _ _).mp hw
  cases hr : (rintRow9.resume 1 #[] (.returned (some (.double r)))).run e S with
  | ok v s₂ acts₂ => rw [hr] at hw'; obtain ⟨rfl, rfl⟩ := hw'; exact ⟨_, rfl⟩
  | ctl x s₂ acts₂ => rw [hr] at hw'; cases x <;> exact hw'.elim
theorem nanmask {r : UInt64} (h : isNaN64 r = false) : r &&& 0x7fffffffffffffff ≤ 0x7ff0000000000000 := by
  have h1 := (FP.Core.ne_nan r).mp (nnv h)
  have h2 := FP.Core.mask_toNat r
  rw [UInt64.le_iff_toNat_le]
  have h3 : (0x7ff0000000000000 : UInt64).toNat = 9218868437227405312 := by decide
  omega
theorem hears9 {s t : State} {m : MethodId} {below : List Frame} (hal : s.vm.Alike t.vm) (h : s.hears m below = true) : t.hears m below = true := by
  rcases below with _ | ⟨y, r⟩
  · simp only [State.hears, hal.method?] at h ⊢; exact h
  · cases y <;> (simp only [State.hears, State.code?_eq, hal.method?] at h ⊢ <;> exact h)
theorem Cc_rint {d : Nat} {v : UInt64} {σ : S9} {P : UInt64 → S9 → Prop} (h : Cc 2 mJxfc994_rint_294c1 [.double v] σ (QD (fun w σ' => isNaN64 w = false ∧ P w σ'))) : Cc (d + 4) mJ9_rint_294c1 [.double v] σ (QD P) := by
  intro γ l hG p e ha hc hk s m args below hf happ hv _
  obtain ⟨rfl, hP, hK⟩ := hv
  obtain ⟨hrun, hable, halone, hname, hhears, hinit, hroom, hpre⟩ := (Spec.appliesLoose_iff hf).mp happ
  have hts := atoms_spec (ws := pw9 mJ9_rint_294c1) hpre
  obtain ⟨g1, g2, g3, g4, g5, g6, g7⟩ := kJ9_59
  obtain ⟨meth, c, k, hmeth, hcode, hlocals, hret2, hk2, hx, hboot, hkn, hmn, hmd, hstep, hstep2⟩ := ov1 (mi := mJ9_rint_294c1) (rm := rm9 (d + 4)) (row := rintRow9) (ps := [.double]) (p := p) hf happ kX10_265.2.1 (by decide) (rint_row9 p) (by decide +kernel) (gb9_D v)
  have hcur := State.cur_lt_of_frames hf
  have hCS := hts _ (List.mem_cons_of_mem _ g4)
  have hiniS := hts _ (List.mem_cons_of_mem _ g3)
  obtain ⟨mS, hnS⟩ := Cond.code_named hCS
  obtain ⟨methS, cSd, hmethS, hcodeS, -, hlocS, -, -, -, -⟩ := Cond.code_spec hnS hCS
  obtain ⟨kS, hkS, -⟩ := className_of_methodNamed hnS
  have hfS : s.vm.findClass "java/lang/StrictMath" = some mS.cls := findClass_of_methodNamed hnS
  have hiS : kS.init = .initialized := Cond.initialized_spec hfS hkS hiniS
  have hmS : kS.findMethod "rint" "(D)D" = some mS.idx := by
    have h := hnS
    simp only [State.methodNamed?, Option.bind_eq_bind, Option.pure_def] at h
    rw [show mJxfc994_rint_294c1.1.cls = "java/lang/StrictMath" from rfl, hfS] at h
    simp only [Option.bind_some, hkS] at h
    cases hfm : kS.findMethod mJxfc994_rint_294c1.1.name mJxfc994_rint_294c1.1.desc with
    | none => rw [hfm] at h; cases h
    | some j => rw [hfm] at h; simp at h; rw [← h]; exact hfm
  obtain ⟨acts₂, hr2⟩ := rint_run9 v e (s.setFrames (.native { method := m, args := #[.double v], locked := none } :: below)) (cS := mS.cls) (kS := kS) (i := mS.idx) hfS hkS hiS hmS
  obtain ⟨U, eU⟩ : ∃ U, s.setFrames (.native { method := m, args := #[.double v], stage := 1, saved := #[], awaiting := true, answer := none, words := 0 } :: below) = U := ⟨_, rfl⟩
  have hstep3 : (stepThread p.tables e (s.setFrames (.java (entryFrame m #[.double v] 2) :: below))).1 = (doInvoke e U acts₂ mS #[.double v]).1 := by
    have h9 : stepThread p.tables e (s.setFrames (.java (entryFrame m #[.double v] 2) :: below)) = afterNative e { method := m, args := #[.double v], locked := none } below ((rintRow9.sem #[.double v]).run e (s.setFrames (.native { method := m, args := #[.double v], locked := none } :: below))) := hstep2
    rw [h9, hr2, ← eU]
    have hw3 : ((s.vm.classes[m.cls]?).bind fun k => Option.map (fun n => upcallWords k.name n.name) k.methods[m.idx]?).getD 0 = 0 := by
      rw [hk2]
      simp only [Option.bind_some, hx, Option.map_some, Option.getD_some, hkn, hmn]
      decide
    simp [afterNative, hw3, State.setFrames_setFrames]
  have hfU : U.frames = .native { method := m, args := #[.double v], stage := 1, saved := #[], awaiting := true, answer := none, words := 0 } :: below := by rw [← eU]; exact State.frames_setFrames _ hcur
  have hcU : U.cur < U.threads.size := State.cur_lt_of_frames hfU
  have ePush : U.pushFrame (.invoking mS #[.double v]) = s.setFrames (.invoking mS #[.double v] :: .native { method := m, args := #[.double v], stage := 1, saved := #[], awaiting := true, answer := none, words := 0 } :: below) := by
    rw [State.pushFrame, hfU, ← eU, State.setFrames_setFrames]
  have hroomS : (s.setFrames (.invoking mS #[.double v] :: .native { method := m, args := #[.double v], stage := 1, saved := #[], awaiting := true, answer := none, words := 0 } :: below)).hasRoom e.platform (rm9 2) = true := hasRoom9 hf hmeth hcode hmethS hcodeS (Nat.zero_le _) hroom (by show 2 + 1 ≤ d + 4; omega) (by rw [hlocals, hlocS]; show 1024 + 6 + (60 * 2 + 1400 * min 1 (2 / 4)) ≤ 2 + (60 * (d + 4) + 1400 * min 1 ((d + 4) / 4)); omega) (Nat.le_refl _) (Nat.le_refl _)
  have hfP : (U.pushFrame (.invoking mS #[.double v])).frames = .invoking mS #[.double v] :: .native { method := m, args := #[.double v], stage := 1, saved := #[], awaiting := true, answer := none, words := 0 } :: below := by rw [ePush]; exact State.frames_setFrames _ hcur
  have happS : (headSpec (pw9 mJxfc994_rint_294c1) (rm9 2)).appliesLoose mJxfc994_rint_294c1.1 e.platform (U.pushFrame (.invoking mS #[.double v])) = true := by
    refine (Spec.appliesLoose_iff hfP).mpr ⟨?_, ?_, ?_, ?_, rfl, ?_, ?_, ?_⟩
    · rw [ePush]; exact hrun
    · rw [ePush]; simpa using hable
    · rw [ePush]; simpa using halone
    · rw [ePush]; exact hnS
    · rw [ePush]; exact State.classRipe_of (s := s.setFrames _) hkS hiS
    · rw [ePush]; exact hroomS
    · rw [ePush, Cond.before_setFrames]
      exact atoms_intro (fun w hw => by
        rcases List.mem_cons.mp hw with h | h
        · rw [h]; exact hCS
        · exact hts _ (List.mem_cons_of_mem _ h))
  have hPS : va_Pc ([Value.double v].map (trv γ.1)) (fun U => P9 γ σ U.heap ∧ K9 γ U) #[.double v] (U.pushFrame (.invoking mS #[.double v])) := by
    rw [ePush]
    exact ⟨rfl, hP, hK⟩
  obtain ⟨o, s₂, hsteps, hrun2, hend, d', hd', ⟨⟨r, σ', ho, hrl, hQ, hP2, hK2⟩, hF⟩, L, hfe, hL⟩ := Steps.callFree (h γ l hG) p ha hc hk (s := U) (m := mS) (args := #[.double v]) (acts := acts₂) (mid := [.native { method := m, args := #[.double v], stage := 1, saved := #[], awaiting := true, answer := none, words := 0 }]) (below := below) hfU happS hPS trivial
  obtain ⟨w, rfl, hwn, hPw⟩ := hQ
  subst ho
  rw [hfU] at hend
  replace hend : s₂.frames = .native { method := m, args := #[.double v], stage := 1, saved := #[], awaiting := false, answer := some (.returned (some (.double w))), words := 0 } :: below := hend
  obtain ⟨-, hW₂, hsb⟩ := hfe
  have hal : s.vm.Alike s₂.vm := by
    have h9 : (U.pushFrame (.invoking mS #[.double v])).vm.Alike s₂.vm := hW₂.alike
    rw [ePush] at h9
    exact h9
  obtain ⟨k', hk', ek⟩ := hal.2.2 _ _ hk2
  have hboot' : k'.loader = none := by rw [ek]; exact hboot
  have hx' : k'.methods[m.idx]? = some meth := by rw [ek]; exact hx
  have hkn' : k'.name = "java/lang/Math" := by rw [ek]; exact hkn
  obtain ⟨acts₃, hr3⟩ := rint_resume9 (nanmask hwn) e s₂
  have hh2 := hears9 hal hhears
  obtain ⟨fs, hfs⟩ := handOver_isSome (s := s₂) (some (.double w)) hh2
  have hc2 : s₂.cur < s₂.threads.size := State.cur_lt_of_frames hend
  have hm2 : s₂.vm.method? m = some meth := by rw [hal.method?]; exact hmeth
  have hE := end9 hm2 hret2 hc2 hh2 hfs
  have hstep4 : (stepThread p.tables e s₂).1 = s₂.setFrames fs := by
    rw [Jvm.Example.Controls.stepThread_resumed (f := { method := m, args := #[.double v], stage := 1, saved := #[], awaiting := false, answer := some (.returned (some (.double w))), words := 0 }) (o := .returned (some (.double w))) hend hk' hboot' hx' (by rw [hkn', hmn, hmd]; exact rint_row9 p) rfl]
    show (afterNative e _ _ ((rintRow9.resume 1 #[] (.returned (some (.double w)))).run e s₂)).1 = _
    rw [hr3]
    exact doReturn_native (f := { method := m, args := #[.double v], stage := 1, saved := #[], awaiting := false, answer := some (.returned (some (.double w))), words := 0 }) hend rfl hfs
  have e2 := hsb.1
  have hcs : s₂.curStatus? = some .runnable := by
    have h1 : s₂.curStatus? = ({ s₂ with vm := ((U.pushFrame (.invoking mS #[.double v])).setDrawn d').vm } : State).curStatus? := rfl
    rw [h1, e2, ePush]
    show ((s.setFrames (.invoking mS #[.double v] :: .native { method := m, args := #[.double v], stage := 1, saved := #[], awaiting := true, answer := none, words := 0 } :: below)).setFrames ({ s₂ with vm := s.vm } : State).frames).curStatus? = _
    simpa using hable
  have hal2 : s₂.alone = true := by
    have h1 : s₂.alone = ({ s₂ with vm := ((U.pushFrame (.invoking mS #[.double v])).setDrawn d').vm } : State).alone := rfl
    rw [h1, e2, ePush]
    show ((s.setFrames (.invoking mS #[.double v] :: .native { method := m, args := #[.double v], stage := 1, saved := #[], awaiting := true, answer := none, words := 0 } :: below)).setFrames ({ s₂ with vm := s.vm } : State).frames).alone = _
    simpa using halone
  have t1 : Steps p.tables e below s₂ (s₂.setFrames fs) := Steps.head ⟨hrun2, hcs, hal2⟩ ⟨[.native { method := m, args := #[.double v], stage := 1, saved := #[], awaiting := false, answer := some (.returned (some (.double w))), words := 0 }], hend, by simp, by simp⟩ (hstep4 ▸ Steps.refl _)
  have hf1 : (s.setFrames (.java (entryFrame m #[.double v] 2) :: below)).frames = .java (entryFrame m #[.double v] 2) :: below := State.frames_setFrames _ hcur
  have t2 : Steps p.tables e below (s.setFrames (.java (entryFrame m #[.double v] 2) :: below)) (s₂.setFrames fs) :=
    Steps.head ⟨hrun, by simpa using hable, by simpa using halone⟩ ⟨[.java (entryFrame m #[.double v] 2)], hf1, by simp, by simp⟩ (by rw [hstep3]; exact hsteps.trans t1)
  obtain ⟨n, hn, hw⟩ := Steps.head (tb := p.tables) (e := e) ⟨hrun, hable, halone⟩ ⟨[.invoking m #[.double v]], hf, by simp, by simp⟩ (hstep ▸ t2)
  refine ⟨n, .returned (some (.double w)), hw, ?_, by rw [hn]; exact hE, ?_⟩
  · rw [hn]; exact hrun2
  · rw [hn]
    rw [ePush] at hd' hF hsb hW₂
    refine ⟨d', hd', ⟨⟨[.double w], σ', rfl, Nat.le_refl _, ⟨w, rfl, hPw⟩, hP2, K9.moved (Vm.Alike.refl _) hK2⟩, hF⟩, L, ⟨⟨_, rfl⟩, hW₂, ?_⟩, hL⟩
    have hz : ((s.setDrawn d').setFrames (.invoking mS #[.double v] :: .native { method := m, args := #[.double v], stage := 1, saved := #[], awaiting := true, answer := none, words := 0 } :: below)).sameButNew { s₂ with vm := s.vm } L 0 0 := hsb
    exact sbn9 (B := { s₂ with vm := s.vm }) hc2 hz
