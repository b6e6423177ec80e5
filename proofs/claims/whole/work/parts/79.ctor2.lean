section
variable {γ : G9} {h nL n0 : Nat} {own : String} {cc : ByteArray} {rt : Option FieldType} {ini : Bool} {p : Program} {l : Launch} {e : Env} {R : Room} {s : State} {m : MethodId} {args : Array Value} {below : List Frame} {meth : Method} {c : Code} {Z : State → Prop} {pc : Nat} {lv lv' st : List Value} {n sl sl' : Nat} {σ : S9} {ν : List (Nat × Nat)}
theorem k_putR (C : KC γ h own cc nL n0 rt ini p s m args meth c) {k0 ci idx j k1 : Nat} (hd : decode cc pc = .ok (.putfield idx, 3)) (hs9 : sh9 k0 0 ci) (hkn : k0 < n) (hf : fr8 own idx ci j false) (hr1 : rfs k0 j = k1) (k : Kv γ h nL n0 p l e R s m args below meth c Z (pc + 3) (lv) (st) (n) (σ) ((k0, j) :: ν) (sl)) : Kv γ h nL n0 p l e R s m args below meth c Z (pc) (lv) (.ref k1 :: .ref k0 :: st) (n) (σ) (ν) (sl) := by
  intro H locs d0 ls hd0 hl hS hP
  obtain ⟨hx, hb, hml, hown, hts, hK, hAO, hG, hh, hlk, hr, hin⟩ := id C
  have hK1 : va_K (γ.2.1, γ.2.2.1) cls9 (ty9 γ) (s.setDrawn d0) := hK.1
  have hown1 : (s.setDrawn d0).vm.findClass own = some m.cls := hown
  obtain ⟨hnC, hfr, hPP⟩ := id hP
  subst hr1
  obtain ⟨⟨C0, T, N, ref, hc, hjN, hw, hin9, hsm, hfk, hlen⟩, ty0, hty, hnm, hfin, ty, hpd, hnf⟩ := hf
  obtain ⟨hk, hs, hn⟩ := hs9
  have hts1 := dr_words hts d0
  have hg : (ws8 γ n σ ν)[k0]? = some (γ.1 k0, .inr (ci, (List.range (fkL.getD ci []).length).map (fun j => fv8 γ.1 σ ν k0 j (fk ci j)))) := (ws8_get hkn).trans (by rw [en8_O hs])
  refine va_put (A := fun q => h ≤ q) (ci := ci) (C := C0) (T := T) (N := N) (ty := ty) (v := .ref (γ.1 (rfs k0 j))) hx hb hts1 hin9 ty0 (hty T N hc) (hnm T N hc) hown1 hK1 hPP (ws8_D hG hnC) hS k0 hg hc j hjN (hts1 _ hw) (hsm (s.setDrawn d0) args hts1) ((hfin T N hc).1) (hpd T N hc) (hnf _).1 (hnf _).2 (by rw [List.length_map, List.length_range]; omega) hd (fun H locs hP hD hS => ?_)
  have hset := fsX8 (ad := γ.1) (dA := γ.2.2.2) (ν := ν) (ν' := (k0, j) :: ν) (σ := σ) (σ' := σ) (v := .ref (γ.1 (rfs k0 j))) hs (by rw [hfk]; show (if _ then _ else _) = _; rw [hv8_cons]; simp) (fun i hi => by
    rcases Nat.lt_or_ge (fk ci i) 2 with q | q
    · rcases (show fk ci i = 0 ∨ fk ci i = 1 by omega) with q | q
      · rw [q]; rfl
      · rw [q]; rfl
    · obtain ⟨t, ht⟩ := Nat.exists_eq_add_of_le q
      rw [ht, Nat.add_comm]
      show (if _ then _ else _) = (if _ then _ else _)
      rw [hv8_cons, show (j == i) = false by simpa using fun q => hi q.symm, Bool.and_false, Bool.false_or])
  rw [ws8_set (k := k0) hset (fun k' hk' => en8_nu (fun i => hv8_ne hk' i))] at hP
  have hP : P8 γ n σ ((k0, j) :: ν) H := ⟨hnC, Fr8_nu hfr hkn, hP⟩
  exact k H locs d0 ls hd0 hl hS hP
theorem k_putRF (C : KC γ h own cc nL n0 rt ini p s m args meth c) (hini : ini = true) {k0 ci idx j k1 : Nat} (hd : decode cc pc = .ok (.putfield idx, 3)) (hs9 : sh9 k0 0 ci) (hkn : k0 < n) (hf : fr8 own idx ci j true) (hr1 : rfs k0 j = k1) (k : Kv γ h nL n0 p l e R s m args below meth c Z (pc + 3) (lv) (st) (n) (σ) ((k0, j) :: ν) (sl)) : Kv γ h nL n0 p l e R s m args below meth c Z (pc) (lv) (.ref k1 :: .ref k0 :: st) (n) (σ) (ν) (sl) := by
  intro H locs d0 ls hd0 hl hS hP
  obtain ⟨hx, hb, hml, hown, hts, hK, hAO, hG, hh, hlk, hr, hin⟩ := id C
  have hK1 : va_K (γ.2.1, γ.2.2.1) cls9 (ty9 γ) (s.setDrawn d0) := hK.1
  have hown1 : (s.setDrawn d0).vm.findClass own = some m.cls := hown
  obtain ⟨hnC, hfr, hPP⟩ := id hP
  subst hr1
  obtain ⟨⟨C0, T, N, ref, hc, hjN, hw, hin9, hsm, hfk, hlen⟩, ty0, hty, hnm, hfin, ty, hpd, hnf⟩ := hf
  obtain ⟨hk, hs, hn⟩ := hs9
  have hts1 := dr_words hts d0
  have hg : (ws8 γ n σ ν)[k0]? = some (γ.1 k0, .inr (ci, (List.range (fkL.getD ci []).length).map (fun j => fv8 γ.1 σ ν k0 j (fk ci j)))) := (ws8_get hkn).trans (by rw [en8_O hs])
  refine va_putF (A := fun q => h ≤ q) (ci := ci) (C := C0) (T := T) (N := N) (ty := ty) (v := .ref (γ.1 (rfs k0 j))) hx hb hts1 hin9 ty0 (hty T N hc) (hnm T N hc) hown1 hK1 hPP (ws8_D hG hnC) hS k0 hg hc j hjN (hts1 _ hw) (hsm (s.setDrawn d0) args hts1) ((hfin T N hc).1) (hin hini) ((hfin T N hc).2 rfl) (hpd T N hc) (hnf _).1 (hnf _).2 (by rw [List.length_map, List.length_range]; omega) hd (fun H locs hP hD hS => ?_)
  have hset := fsX8 (ad := γ.1) (dA := γ.2.2.2) (ν := ν) (ν' := (k0, j) :: ν) (σ := σ) (σ' := σ) (v := .ref (γ.1 (rfs k0 j))) hs (by rw [hfk]; show (if _ then _ else _) = _; rw [hv8_cons]; simp) (fun i hi => by
    rcases Nat.lt_or_ge (fk ci i) 2 with q | q
    · rcases (show fk ci i = 0 ∨ fk ci i = 1 by omega) with q | q
      · rw [q]; rfl
      · rw [q]; rfl
    · obtain ⟨t, ht⟩ := Nat.exists_eq_add_of_le q
      rw [ht, Nat.add_comm]
      show (if _ then _ else _) = (if _ then _ else _)
      rw [hv8_cons, show (j == i) = false by simpa using fun q => hi q.symm, Bool.and_false, Bool.false_or])
  rw [ws8_set (k := k0) hset (fun k' hk' => en8_nu (fun i => hv8_ne hk' i))] at hP
  have hP : P8 γ n σ ((k0, j) :: ν) H := ⟨hnC, Fr8_nu hfr hkn, hP⟩
  exact k H locs d0 ls hd0 hl hS hP
theorem k_iastore (C : KC γ h own cc nL n0 rt ini p s m args meth c) {k0 N : Nat} {z : Int} {x : Int} (hd : decode cc pc = .ok (.iastore, 1)) (hs9 : sh9 k0 1 N) (hkn : k0 < n) (hz : 0 ≤ z ∧ z < N) (k : Kv γ h nL n0 p l e R s m args below meth c Z (pc + 1) (lv) (st) (n) (sI σ k0 z x) (ν) (sl)) : Kv γ h nL n0 p l e R s m args below meth c Z (pc) (lv) (.int (iI x) :: .int (iI z) :: .ref k0 :: st) (n) (σ) (ν) (sl) := by
  intro H locs d0 ls hd0 hl hS hP
  obtain ⟨hx, hb, hml, hown, hts, hK, hAO, hG, hh, hlk, hr, hin⟩ := id C
  have hK1 : va_K (γ.2.1, γ.2.2.1) cls9 (ty9 γ) (s.setDrawn d0) := hK.1
  have hown1 : (s.setDrawn d0).vm.findClass own = some m.cls := hown
  obtain ⟨hnC, hfr, hPP⟩ := id hP
  obtain ⟨hk, hs, hn⟩ := hs9
  have hg : (ws8 γ n σ ν)[k0]? = some (γ.1 k0, .inl (γ.2.2.2 0, N, .inl (fun j => iI (gI σ k0 (j : Int))))) := (ws8_get hkn).trans (by rw [en8_I hs])
  refine va_iast (A := fun q => h ≤ q) hx hb hK1 hPP (ws8_D hG hnC) hS k0 0 hg rfl (iI_in hz.1 hz.2 hn) hd (fun H locs hP hD hS => ?_)
  rw [ws8_set (σ' := sI σ k0 z x) (ν' := ν) (k := k0) ((sti9 (ad := γ.1) hz.1 (by omega) hs).trans (by rw [ent_I hs, en8_I hs])) (fun k' hk' => en8_aI hk')] at hP
  have hP : P8 γ n (sI σ k0 z x) ν H := ⟨hnC, Fr8_aI hfr hkn, hP⟩
  exact k H locs d0 ls hd0 hl hS hP
theorem k_fastore (C : KC γ h own cc nL n0 rt ini p s m args meth c) {k0 N : Nat} {z : Int} {x : UInt32} (hd : decode cc pc = .ok (.fastore, 1)) (hs9 : sh9 k0 3 N) (hkn : k0 < n) (hz : 0 ≤ z ∧ z < N) (k : Kv γ h nL n0 p l e R s m args below meth c Z (pc + 1) (lv) (st) (n) (sF σ k0 z x) (ν) (sl)) : Kv γ h nL n0 p l e R s m args below meth c Z (pc) (lv) (.float x :: .int (iI z) :: .ref k0 :: st) (n) (σ) (ν) (sl) := by
  intro H locs d0 ls hd0 hl hS hP
  obtain ⟨hx, hb, hml, hown, hts, hK, hAO, hG, hh, hlk, hr, hin⟩ := id C
  have hK1 : va_K (γ.2.1, γ.2.2.1) cls9 (ty9 γ) (s.setDrawn d0) := hK.1
  have hown1 : (s.setDrawn d0).vm.findClass own = some m.cls := hown
  obtain ⟨hnC, hfr, hPP⟩ := id hP
  obtain ⟨hk, hs, hn⟩ := hs9
  have hg : (ws8 γ n σ ν)[k0]? = some (γ.1 k0, .inl (γ.2.2.2 2, N, .inr (.inr (.inl (fun j => gF σ k0 (j : Int)))))) := (ws8_get hkn).trans (by rw [en8_F hs])
  refine va_fast (A := fun q => h ≤ q) hx hb hK1 hPP (ws8_D hG hnC) hS k0 2 hg rfl (iI_in hz.1 hz.2 hn) hd (fun H locs hP hD hS => ?_)
  rw [ws8_set (σ' := sF σ k0 z x) (ν' := ν) (k := k0) ((stf9 (ad := γ.1) hz.1 (by omega) hs).trans (by rw [ent_F hs, en8_F hs])) (fun k' hk' => en8_aF hk')] at hP
  have hP : P8 γ n (sF σ k0 z x) ν H := ⟨hnC, Fr8_aF hfr hkn, hP⟩
  exact k H locs d0 ls hd0 hl hS hP
theorem k_aastore (C : KC γ h own cc nL n0 rt ini p s m args meth c) {k0 N k1 : Nat} {z : Int} (hd : decode cc pc = .ok (.aastore, 1)) (hs9 : sh9 k0 6 N) (hkn : k0 < n) (hs1 : sh9 k1 0 6) (hk1 : k1 < n) (hz : 0 ≤ z ∧ z < N) {zn : Nat} (hzn : (zn : Int) = z) (hrf : rfs k0 zn = k1) (k : Kv γ h nL n0 p l e R s m args below meth c Z (pc + 1) (lv) (st) (n) (σ) ((k0, zn) :: ν) (sl)) : Kv γ h nL n0 p l e R s m args below meth c Z (pc) (lv) (.ref k1 :: .int (iI z) :: .ref k0 :: st) (n) (σ) (ν) (sl) := by
  intro H locs d0 ls hd0 hl hS hP
  obtain ⟨hx, hb, hml, hown, hts, hK, hAO, hG, hh, hlk, hr, hin⟩ := id C
  have hK1 : va_K (γ.2.1, γ.2.2.1) cls9 (ty9 γ) (s.setDrawn d0) := hK.1
  have hown1 : (s.setDrawn d0).vm.findClass own = some m.cls := hown
  obtain ⟨hnC, hfr, hPP⟩ := id hP
  obtain ⟨hk, hs, hn⟩ := hs9
  obtain ⟨hkb, hsb, hnb⟩ := hs1
  subst hzn
  subst hrf
  have hg : (ws8 γ n σ ν)[k0]? = some (γ.1 k0, .inl (γ.2.2.2 5, N, .inr (.inr (.inr (.inr (fun j => if hv8 ν k0 j then some (γ.1 (rfs k0 j)) else none)))))) := (ws8_get hkn).trans (by rw [en8_S hs])
  have hgv := (ws8_get (γ := γ) (σ := σ) (ν := ν) hk1).trans (by rw [en8_O hsb])
  refine va_astq (A := fun q => h ≤ q) hx hb hK1 hPP (ws8_D hG hnC) hS k0 5 (rfs k0 zn) 6 (r := (RX7, TX7, 5)) hg rfl hgv rfl (iI_in hz.1 hz.2 hn) hd (fun H locs hP hD hS => ?_)
  have hcl : (iI (zn : Int)).toNatClampNeg = zn := by rw [iI_clamp (by omega) (by omega)]; rfl
  have hset : (Sum.inl (γ.2.2.2 5, N, .inr (.inr (.inr (.inr (va_up (fun j => if hv8 ν k0 j then some (γ.1 (rfs k0 j)) else none) (iI (zn : Int)).toNatClampNeg (some (γ.1 (rfs k0 zn)))))))) : va_E) = en8 γ.1 γ.2.2.2 σ ((k0, zn) :: ν) k0 := by
    rw [en8_S hs, hcl]
    refine congrArg (fun g => (Sum.inl (γ.2.2.2 5, N, .inr (.inr (.inr (.inr g)))) : va_E)) (funext fun q => ?_)
    unfold va_up
    rw [hv8_cons]
    by_cases hq : q = zn
    · subst hq; simp
    · rw [if_neg hq, show (zn == q) = false by simpa using fun q2 => hq q2.symm, Bool.and_false, Bool.false_or]
  rw [ws8_set (k := k0) hset (fun k' hk' => en8_nu (fun i => hv8_ne hk' i))] at hP
  have hP : P8 γ n σ ((k0, zn) :: ν) H := ⟨hnC, Fr8_nu hfr hkn, hP⟩
  exact k H locs d0 ls hd0 hl hS hP
theorem k_objInit (C : KC γ h own cc nL n0 rt ini p s m args meth c) {idx k0 : Nat} (hd : decode cc pc = .ok (.invokespecial idx, 3)) (hw : Cond.methodLink own idx objectInit ∈ lw_w) (hw2 : Cond.instanceMethod objectInit ∈ lw_w) (hw3 : Cond.code objectInit ⟨#[0xb1]⟩ 1 none ∈ lw_w) (hfr : 1 ≤ R.frames) (hlo : 20 ≤ R.locals) (hst : st = []) (k : Kv γ h nL n0 p l e R s m args below meth c Z (pc + 3) (lv) (st) (n) (σ) (ν) (sl)) : Kv γ h nL n0 p l e R s m args below meth c Z (pc) (lv) (.ref k0 :: st) (n) (σ) (ν) (sl) := by
  intro H locs d0 ls hd0 hl hS hP
  obtain ⟨hx, hb, hml, hown, hts, hK, hAO, hG, hh, hlk, hr, hin⟩ := id C
  subst hst
  have hts1 := dr_words hts d0
  have hown1 : (s.setDrawn d0).vm.findClass own = some m.cls := hown
  refine W.objInit hx hb hown1 (hts1 _ hw) (hts1 _ hw2) (hts1 _ hw3) rfl (by rw [hml]; exact hl.1) rfl hd hfr (Nat.le_trans (Nat.le_of_ble_eq_true rfl) hlo) ?_
  exact k H locs d0 ls hd0 hl hS hP
end
/-- one instruction whose end is known by what holds there -/
theorem step8 {p : Program} {e : Env} {below : List Frame} {T : State} {g : JFrame} {c : Code} {i : Instr} {len : Nat} {P : State → JFrame → Prop} (h : At T g.method c below) (hd : decode c.code g.pc = .ok (i, len)) (hw : wpRun (p.tables.exec i) (fun _ S _ => ∃ U f, S = U.setTop f ∧ P U f) (fun _ _ _ => False) e (T.setTop g)) : ∃ U f, P U f ∧ ∀ t, Steps p.tables e below (U.setTop { f with pc := f.pc + len }) t → Steps p.tables e below (T.setTop g) t := by
  have hr := (wpRun_iff_run _ _ _ _ _).mp hw
  cases hx : (p.tables.exec i).run e (T.setTop g) with
  | ctl x S acts => rw [hx] at hr; cases x <;> exact hr.elim
  | ok a S acts =>
    rw [hx] at hr
    obtain ⟨U, f, hS, hP⟩ := hr
    refine ⟨U, f, hP, fun t ht => Steps.instr (c := c) h ?_⟩
    rw [hd]
    refine (wpRun_iff_run _ _ _ _ _).mpr ?_
    rw [hx]
    intro acts2
    rw [hS, afterInstr_ok]
    exact ht
/-- the heap J is H, behind it a row of N references and the first i of their rows -/
def Mr8 (cA cI : ClassId) (N K : Nat) (H : Heap) (i : Nat) (J : Heap) : Prop := J.size = H.size + 1 + i ∧ (∀ q, q < H.size → J[q]? = H[q]?) ∧ J[H.size]? = some (arrV cA N (fun j => if j < i then .ref (H.size + 1 + j) else .null)) ∧ ∀ j, j < i → J[H.size + 1 + j]? = some (arrV cI K (fun _ => .int 0))
theorem Mr8.zero (cA cI : ClassId) (N K : Nat) (T : State) : Mr8 cA cI N K T.heap 0 (T.pushCell { cls := cA, slots := Array.replicate N .null, vm := .none }).heap := by
  refine ⟨by simp, fun q hq => State.heap_pushCell_of_lt _ _ hq, ?_, fun j hj => absurd hj (Nat.not_lt_zero _)⟩
  rw [State.heap_pushCell_size, arrV_new]
  refine congrArg some (congrArg (arrV cA N) (funext fun j => ?_))
  rw [if_neg (Nat.not_lt_zero _)]
theorem Mr8.next {cA cI : ClassId} {N K : Nat} {H : Heap} {i : Nat} {U : State} (h : Mr8 cA cI N K H i U.heap) : Mr8 cA cI N K H (i + 1) ((U.pushCell { cls := cI, slots := Array.replicate K (.int 0), vm := .none }).setCell H.size ((arrV cA N (fun j => if j < i then .ref (H.size + 1 + j) else .null)).setSlot i (.ref U.heap.size))).heap := by
  obtain ⟨h1, h2, h3, h4⟩ := h
  have hup : ∀ q, q < U.heap.size → (U.pushCell { cls := cI, slots := Array.replicate K (.int 0), vm := .none }).heap[q]? = U.heap[q]? := fun q hq => State.heap_pushCell_of_lt _ _ hq
  have h5 : (U.pushCell { cls := cI, slots := Array.replicate K (.int 0), vm := .none }).heap[H.size]? = some (arrV cA N (fun j => if j < i then .ref (H.size + 1 + j) else .null)) := by rw [hup _ (by omega)]; exact h3
  refine ⟨by simp [State.setCell, h1]; omega, fun q hq => ?_, ?_, fun j hj => ?_⟩
  · rw [State.heap_setCell_other (Nat.ne_of_gt hq), hup _ (by omega)]
    exact h2 q hq
  · rw [State.heap_setCell_self h5, arrV_store, h1]
    refine congrArg some (congrArg (arrV cA N) (funext fun j => ?_))
    unfold updV
    by_cases e1 : j = i
    · rw [if_pos e1, if_pos (by omega), e1]
    · rw [if_neg e1]
      by_cases e2 : j < i
      · show (if j < i then _ else _) = _
        rw [if_pos e2, if_pos (by omega)]
      · show (if j < i then _ else _) = _
        rw [if_neg e2, if_neg (by omega)]
  · rw [State.heap_setCell_other (show H.size ≠ H.size + 1 + j by omega)]
    by_cases e1 : j < i
    · rw [hup _ (by omega)]
      exact h4 j e1
    · rw [show H.size + 1 + j = U.heap.size by omega, State.heap_pushCell_size, arrV_new]
section
variable {p : Program} {l : Launch} {e : Env} {R : Room} {s : State} {m : MethodId} {args : Array Value} {below : List Frame} {meth : Method} {c : Code} {T : State} {locs : List Loc} {cells slots : Nat} {E : CtlPost} {d : Bool} {acts : List Action} {cA cI c0 : ClassId} {kA kI : Class}
theorem lim8 (X : Stand p l e R s m args below meth c T locs cells slots) {n : Nat} (hn : n ≤ 1000) : ¬ n > e.platform.arrayLengthLimit ∧ ¬ n * 4 > e.platform.maxHeapBytes := by
  rw [Launch.admits_arrayLengthLimit X.admits, Launch.admits_maxHeapBytes X.admits]
  omega
/-- a row of ints, as 'make' makes it -/
theorem one8 (X : Stand p l e R s m args below meth c T locs cells slots) {f : JFrame} (hk : T.vm.classes[cI]? = some kI) (hkind : kI.kind = .array c0 .int) {b : Int32} (hb : ¬ b < 0) (hK : b.toNatClampNeg ≤ 1000) (hce : cells + 1 ≤ R.cells) (hsl : slots + b.toNatClampNeg ≤ R.slots) {Q : Addr → Pre} (hq : ∀ acts, Q T.heap.size d acts ((T.pushCell { cls := cI, slots := Array.replicate b.toNatClampNeg (.int 0), vm := .none }).setTop f)) : wp (Op.multianewarray.make cI [b]) Q E e d acts (T.setTop f) := by
  obtain ⟨r1, r2⟩ := X.roomAbove hce hsl
  obtain ⟨g1, g2⟩ := lim8 X hK
  have hk2 : (T.setTop f).vm.classes[cI]? = some kI := hk
  rw [Op.multianewarray.make]
  simp only [wp_bind', W.ite, hb, if_false, wp_pure', W.theClass, hk2, hkind, Option.some.injEq, exists_eq_left']
  exact W.newArray_of hk2 hkind g1 g2 r1 r2 rfl hq
/-- rows of ints and the row of their references -/
theorem all8 (X : Stand p l e R s m args below meth c T locs cells slots) {f : JFrame} (hkA : T.vm.classes[cA]? = some kA) (hA : kA.kind = .array cI (.array .int)) (hkI : T.vm.classes[cI]? = some kI) (hI : kI.kind = .array c0 .int) {a b : Int32} (ha : ¬ a < 0) (hb : ¬ b < 0) {N K : Nat} (hN : a.toNatClampNeg = N) (hK : b.toNatClampNeg = K) (hN1 : N ≤ 1000) (hK1 : K ≤ 1000) (hce : cells + (1 + N) ≤ R.cells) (hsl : slots + (N + N * K) ≤ R.slots) {Q : Addr → Pre} (hq : ∀ d acts U, Stand p l e R s m args below meth c U locs (cells + 1 + N) (slots + N + N * K) → Mr8 cA cI N K T.heap N U.heap → Q T.heap.size d acts (U.setTop f)) : wp (Op.multianewarray.make cA [a, b]) Q E e d acts (T.setTop f) := by
  subst hN
  subst hK
  obtain ⟨r1, r2⟩ := X.roomAbove hce hsl
  obtain ⟨g1, g2⟩ := lim8 X hN1
  have hkA2 : (T.setTop f).vm.classes[cA]? = some kA := hkA
  have hfind : [b].find? (fun x => decide (x < 0)) = none := by simp [hb]
  rw [Op.multianewarray.make]
  simp only [wp_bind', W.ite, ha, if_false, wp_pure', W.theClass, hkA2, hA, Option.some.injEq, exists_eq_left']
  refine W.newArray_of hkA2 hA g1 g2 (show T.heap.size < _ by omega) (show T.slotsUsed + _ ≤ _ by omega) rfl fun acts1 => ?_
  simp only [hfind, ite_self, wp_bind', wp_pure', Std.Legacy.Range.forIn_eq_forIn_range']
  refine wp_forIn_inv (fun xs S => ∃ i U, i ≤ a.toNatClampNeg ∧ xs = List.range' i (a.toNatClampNeg - i) ∧ S = U.setTop f ∧ Stand p l e R s m args below meth c U locs (cells + 1 + i) (slots + a.toNatClampNeg + i * b.toNatClampNeg) ∧ U.vm = T.vm ∧ Mr8 cA cI a.toNatClampNeg b.toNatClampNeg T.heap i U.heap) _ _ ?_ ?_ ?_
  · refine ⟨0, T.pushCell { cls := cA, slots := Array.replicate a.toNatClampNeg .null, vm := .none }, Nat.zero_le _, ?_, rfl, ?_, rfl, Mr8.zero cA cI _ _ T⟩
    · simp [Std.Legacy.Range.size]
    · have X1 := X.pushed { cls := cA, slots := Array.replicate a.toNatClampNeg .null, vm := .none }
      rw [Array.size_replicate] at X1
      rw [Nat.zero_mul]
      exact X1
  · rintro x xs S d1 acts2 Q1 ⟨i, U, hi, hxs, rfl, XU, hvm, hM⟩ hnext
    have hlt : i < a.toNatClampNeg := by
      rcases Nat.lt_or_ge i a.toNatClampNeg with q | q
      · exact q
      · rw [Nat.sub_eq_zero_of_le q] at hxs; cases hxs
    rw [show a.toNatClampNeg - i = a.toNatClampNeg - (i + 1) + 1 by omega, List.range'_succ] at hxs
    obtain ⟨rfl, rfl⟩ := List.cons.inj hxs
    have hmul : x * b.toNatClampNeg + b.toNatClampNeg ≤ a.toNatClampNeg * b.toNatClampNeg := by
      rw [← Nat.succ_mul]; exact Nat.mul_le_mul_right _ hlt
    simp only [wp_bind']
    refine one8 XU (hvm ▸ hkI) hI hb hK1 (by omega) (by omega) fun acts3 => ?_
    obtain ⟨h1, h2, h3, h4⟩ := id hM
    have h5 : (U.pushCell { cls := cI, slots := Array.replicate b.toNatClampNeg (.int 0), vm := .none }).heap[T.heap.size]? = some (arrV cA a.toNatClampNeg (fun j => if j < x then .ref (T.heap.size + 1 + j) else .null)) := (State.heap_pushCell_of_lt U _ (show T.heap.size < U.heap.size by omega)).trans h3
    simp only [wp_bind', W.writeLoc, wp_pure']
    refine ⟨_, h5, (by intro q; cases q), by rw [arrV_size]; exact hlt, ?_, ?_⟩
    · have hk9 : U.vm.classes[cA]? = some kA := hvm ▸ hkA
      simp [State.fitsSlot, State.slotType?, arrV, hk9, hA, fits]
    · refine hnext _ _ _ ⟨x + 1, (U.pushCell { cls := cI, slots := Array.replicate b.toNatClampNeg (.int 0), vm := .none }).setCell T.heap.size ((arrV cA a.toNatClampNeg (fun j => if j < x then .ref (T.heap.size + 1 + j) else .null)).setSlot x (.ref U.heap.size)), hlt, rfl, rfl, ?_, hvm, hM.next⟩
      have X2 := (XU.pushed { cls := cI, slots := Array.replicate b.toNatClampNeg (.int 0), vm := .none }).stored h5 x (.ref U.heap.size)
      rw [Array.size_replicate] at X2
      have X3 := X2.dropFresh (fun y hy => by rw [List.mem_singleton.mp hy]; exact X.heapGrown)
      rw [show slots + a.toNatClampNeg + (x + 1) * b.toNatClampNeg = slots + a.toNatClampNeg + x * b.toNatClampNeg + b.toNatClampNeg by rw [Nat.succ_mul]; omega]
      exact X3
  · rintro S d1 acts2 ⟨i, U, hi, hxs, rfl, XU, hvm, hM⟩
    have hiN : i = a.toNatClampNeg := by
      rcases Nat.lt_or_ge i a.toNatClampNeg with q | q
      · rw [show a.toNatClampNeg - i = a.toNatClampNeg - (i + 1) + 1 by omega, List.range'_succ] at hxs; cases hxs
      · omega
    subst hiN
    exact hq _ _ U XU hM
end
theorem W8_multi {p : Program} {l : Launch} {e : Env} {R : Room} {s : State} {m : MethodId} {args : Array Value} {below : List Frame} {meth : Method} {c : Code} {H : Heap} {locs : List Loc} {cells slots : Nat} {Q : State → Prop} {cc : ByteArray} (hexec : p.tables.exec = Jvm.exec) (hb : c.code = cc) {own : String} {index : Nat}
    (hown : s.vm.findClass own = some m.cls) (hclink : (Cond.classLink own index "[[I").before args s = true) (hover : (Cond.arrayOver (.array .int)).before args s = true) (harr : (Cond.arrayClass .int).before args s = true)
    {g : JFrame} (hg : g.method = m) (hdg : decode cc g.pc = .ok (.multianewarray index 2, 4)) {a b : Int32} {N K : Nat} {rest : List Value} (hstack : g.stack = .int b :: .int a :: rest) (ha : ¬ a < 0) (hb9 : ¬ b < 0) (hN : a.toNatClampNeg = N) (hK : b.toNatClampNeg = K) (hN1 : N ≤ 1000) (hK1 : K ≤ 1000)
    (hcells : cells + (1 + N) ≤ R.cells) (hslots : slots + (N + N * K) ≤ R.slots)
    (kk : ∀ (H1 : Heap) (cA comp : ClassId), s.vm.findClass ("[" ++ (FieldType.array .int).toString) = some cA → s.vm.findClass ("[" ++ FieldType.int.toString) = some comp → H1.size = H.size + (1 + N) → (∀ q, q < H.size → H1[q]? = H[q]?) → H1[H.size]? = some (arrV cA N (fun j => .ref (H.size + 1 + j))) → (∀ j, j < N → H1[H.size + 1 + j]? = some (arrV comp K (fun _ => .int 0))) →
      W p l e R s m args below meth c H1 locs (cells + 1 + N) (slots + N + N * K) Q { g with pc := g.pc + 4, stack := .ref H.size :: rest }) : W p l e R s m args below meth c H locs cells slots Q g := by
  intro T hT X
  subst hT; subst hb; subst hg
  obtain ⟨cI, cA, kA, hfI, -, hkA, hA, hfA⟩ := ao8_iff.mp hover
  obtain ⟨cI2, kI, c0, hfI2, hkI, hI⟩ := Cond.arrayClass_spec harr
  cases hfI.symm.trans hfI2
  obtain ⟨c1, hf1, hcl⟩ := Cond.classLink_spec hown hclink e.platform (by rw [X.admits.platform])
  have hc1 : c1 = cA := Option.some.inj (hf1.symm.trans hfA)
  subst hc1
  obtain ⟨hgv, hwm, -⟩ := State.classEntry (e := e) X.warmed hcl
  obtain ⟨v1, hv1⟩ : ∃ v1, T.vm.noted g.method.cls index (.cls c1) = v1 := ⟨_, rfl⟩
  rw [hv1] at hgv hwm
  obtain ⟨kA1, hkA1, eA⟩ := hwm.alike.2.2 _ _ hkA
  obtain ⟨kI1, hkI1, eI⟩ := hwm.alike.2.2 _ _ hkI
  obtain ⟨U, f, ⟨rfl, XU, hM⟩, hgo⟩ := step8 (p := p) (e := e) (P := fun U f => f = { g with stack := .ref T.heap.size :: rest } ∧ Stand p l e R s g.method args below meth c U locs (cells + 1 + N) (slots + N + N * K) ∧ Mr8 c1 cI N K T.heap N U.heap) X.here hdg (by
    rw [hexec]
    show wp (Op.multianewarray.sem index 2) _ _ e false [] (T.setTop g)
    simp only [Op.multianewarray.sem, wp_bind', W.resolveClassAt_links (State.method?_setTop g X.here.top) hgv]
    rw [W.popN, if_neg (by decide)]
    refine ⟨g, State.topJava?_setTop' (s := T.setVm v1) g X.here.top, [.int a, .int b], rest, rfl, hstack, ?_⟩
    simp only [List.mapM_cons, List.mapM_nil, wp_bind', wp_pure']
    rw [show ((T.setTop g).setVm v1).setTop { g with stack := rest } = (T.setVm v1).setTop { g with stack := rest } from State.setTop_setTop (s := T.setVm v1) _ _]
    refine all8 (X.noted hwm) (f := { g with stack := rest }) hkA1 (by rw [eA]; exact hA) hkI1 (by rw [eI]; exact hI) ha hb9 hN hK hN1 hK1 hcells hslots fun d1 acts1 U XU hM => ?_
    simp only [wp_bind', W.mark, W.pushRef, State.topJava?_setTop' _ XU.here.top, Option.some.injEq, exists_eq_left', State.setTop_setTop]
    exact ⟨U, _, rfl, rfl, XU, hM⟩)
  obtain ⟨h1, h2, h3, h4⟩ := hM
  obtain ⟨t, a1, b1⟩ := kk U.heap c1 cI hfA hfI (by omega) h2 (by
    rw [h3]
    refine congrArg some ?_
    unfold arrV
    congr 1
    apply Array.ext
    · simp
    · intro i q1 q2
      have hi : i < N := by simpa using q1
      simp only [Array.getElem_ofFn]
      rw [if_pos hi]) h4 U rfl XU
  exact ⟨t, hgo t a1, b1⟩
section
variable {γ : G9} {h nL n0 : Nat} {own : String} {cc : ByteArray} {rt : Option FieldType} {ini : Bool} {p : Program} {l : Launch} {e : Env} {R : Room} {s : State} {m : MethodId} {args : Array Value} {below : List Frame} {meth : Method} {c : Code} {Z : State → Prop} {pc : Nat} {lv lv' st : List Value} {n sl sl' : Nat} {σ : S9} {ν : List (Nat × Nat)}
theorem k_multi (C : KC γ h own cc nL n0 rt ini p s m args meth c) {idx N K : Nat} {z w : Int} (hd : decode cc pc = .ok (.multianewarray idx 2, 4)) (hw : Cond.classLink own idx "[[I" ∈ lw_w) (hz : (N : Int) = z) (hw9 : (K : Int) = w) (hN1 : N ≤ 1000) (hK9 : K ≤ 1000) (hnN : n + N < NC) (hs9 : sh9 n 7 N) (hs1 : ∀ j, j < N → shp (n + 1 + j) = (1, K) ∧ rfs n j = n + 1 + j) (h0 : n0 ≤ n) (hce : n + (1 + N) - n0 ≤ R.cells) (hsl : sl + (N + N * K) = sl') (hsR : sl' ≤ R.slots) (k : Kv γ h nL n0 p l e R s m args below meth c Z (pc + 4) (lv) (.ref n :: st) (n + (1 + N)) (σ) (ml8 n N ν) (sl')) : Kv γ h nL n0 p l e R s m args below meth c Z (pc) (lv) (.int (iI w) :: .int (iI z) :: st) (n) (σ) (ν) (sl) := by
  intro H locs d0 ls hd0 hl hS hP
  obtain ⟨hx, hb, hml, hown, hts, hK, hAO, hG, hh, hlk, hr, hin⟩ := id C
  have hK1 : va_K (γ.2.1, γ.2.2.1) cls9 (ty9 γ) (s.setDrawn d0) := hK.1
  have hown1 : (s.setDrawn d0).vm.findClass own = some m.cls := hown
  obtain ⟨hnC, hfr, hPP⟩ := id hP
  subst hsl
  subst hz
  subst hw9
  obtain ⟨hk9, hs, -⟩ := hs9
  have hts1 := dr_words hts d0
  refine sz8 C h0 hS hP (fun hsz => ?_)
  have hadr : H.size = γ.1 n := by rw [hsz, hG n hk9]
  have hn9 : ¬ iI (N : Int) < 0 := fun q => (iI_in (n := N + 1) (by omega) (by omega) (by omega)) (Or.inl q)
  have hcl : (iI (N : Int)).toNatClampNeg = N := by rw [iI_clamp (by omega) (by omega)]; rfl
  have hn9k : ¬ iI (K : Int) < 0 := fun q => (iI_in (n := K + 1) (by omega) (by omega) (by omega)) (Or.inl q)
  have hclk : (iI (K : Int)).toNatClampNeg = K := by rw [iI_clamp (by omega) (by omega)]; rfl
  have hAO1 : (Cond.arrayOver (.array .int)).before args (s.setDrawn d0) = true := hAO.2.1
  have hRA : (s.setDrawn d0).vm.findClass ("[" ++ (FieldType.array .int).toString) = some (γ.2.2.2 6) := (hK1.2 6 (γ.2.2.2 6, .array .int) rfl).2
  have hRI : (s.setDrawn d0).vm.findClass ("[" ++ FieldType.int.toString) = some (γ.2.2.2 0) := (hK1.2 0 (γ.2.2.2 0, .int) rfl).2
  refine W8_multi hx hb hown1 (hts1 _ hw) hAO1 (hts1 (.arrayClass .int) w8_I) rfl hd rfl hn9 hn9k hcl hclk hN1 hK9 (by omega) hsR fun H1 cA comp g1 g2 z1 o1 e1 ei => ?_
  have hcA : cA = γ.2.2.2 6 := Option.some.inj (g1.symm.trans hRA)
  subst hcA
  have hcB : comp = γ.2.2.2 0 := Option.some.inj (g2.symm.trans hRI)
  subst hcB
  have hP1 : P8 γ (n + (1 + N)) σ (ml8 n N ν) H1 := ⟨by omega, Fr8_ml hfr, fun q x hx => by
    have hq := ws8_lt hx
    rw [ws8_get hq] at hx
    cases hx
    by_cases q1 : q < n
    · have h3 := hPP q _ (ws8_get q1)
      rw [en8_nu (ν := ν) (fun j => ml8_ne (by omega) j)]
      exact h3.kept (o1 _ h3.lt)
    · by_cases q2 : q = n
      · rw [q2, en8_R hs, ← hadr]
        show H1[H.size]? = some (vp_cell _ _)
        rw [e1, vp_cell_q]
        refine congrArg some ?_
        unfold arrV
        congr 1
        apply Array.ext
        · simp
        · intro i h1 h2
          have hi : i < N := by simpa using h1
          simp only [Array.getElem_ofFn]
          rw [ml8_eq hi, (hs1 i hi).2, hsz, hG _ (by omega)]
          exact congrArg Value.ref (show h + n + 1 + i = h + (n + 1 + i) by omega)
      · obtain ⟨j, rfl⟩ := Nat.exists_eq_add_of_le (show n + 1 ≤ q by omega)
        have hj : j < N := by omega
        rw [en8_I (hs1 j hj).1, hG _ (by omega)]
        show H1[h + (n + 1 + j)]? = some (vp_cell _ _)
        have h4 := ei j hj
        rw [hsz] at h4
        rw [show h + (n + 1 + j) = h + n + 1 + j by omega, h4, vp_cell_i]
        refine congrArg some (congrArg (arrV _ K) (funext fun i => ?_))
        rw [(hfr (n + 1 + j) (by omega)).1.1]
        rfl⟩
  have hS1 : va_S (fun q => h ≤ q) s.heap H1 locs := ⟨Nat.le_trans hS.1 (by omega), fun x h1 h2 => (o1 x (Nat.lt_of_lt_of_le h1 hS.1)).trans (hS.2.1 x h1 h2), hS.2.2⟩
  have h2 := k H1 locs d0 ls hd0 hl hS1 hP1
  rw [List.map_cons, show trv γ.1 (.ref n) = .ref (γ.1 n) from rfl, ← hadr, show n + (1 + N) - n0 = n - n0 + 1 + N by omega, ← Nat.add_assoc] at h2
  exact h2
end
