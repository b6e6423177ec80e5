section
variable {γ : G9} {h nL n0 : Nat} {own : String} {cc : ByteArray} {rt : Option FieldType} {ini : Bool} {p : Program} {l : Launch} {e : Env} {R : Room} {s : State} {m : MethodId} {args : Array Value} {below : List Frame} {meth : Method} {c : Code} {Z : State → Prop} {pc : Nat} {lv lv' st : List Value} {n sl sl' : Nat} {σ : S9} {ν : List (Nat × Nat)}
theorem k_putR (C : KC γ h own cc nL n0 rt ini p s m args meth c) {k0 ci idx j k1 : Nat} (hd : decode cc pc = .ok (.putfield idx, 3)) (hs9 : sh9 k0 0 ci) (hkn : k0 < n) (hf : fr8 own idx ci j false) (hr1 : rfs k0 j = k1) (k : Kv γ h nL n0 p l e R s m args below meth c Z (pc + 3) (lv) (st) (n) (σ) ((k0, j) :: ν) (sl)) : Kv γ h nL n0 p l e R s m args below meth c Z (pc) (lv) (.ref k1 :: .ref k0 :: st) (n) (σ) (ν) (sl) := by
  intro H locs d0 ls hd0 hl hS hP
  obtain ⟨hx, hb, hml, hown, hts, hK, hAO, hG, hh, hlk, hr, hin⟩ := id C
  have hK1 : va_K (γ.2.1, γ.2.2.1) cls9 (ty9 γ) (s.setDrawn d0) := hK.1
  have hown1 : (s.setDrawn d0).vm.findClass own = some m.cls := hown
  obtain ⟨hnC, hfr, hPP⟩ := id hP
  subst hr1
  obtain ⟨⟨C0, T, N, ref, hc, hjN, hw, hin9, hsm, hfk, hlen⟩, ty0, hty, hnm, hfin, ty, hpd, hnf⟩ := hf
  obtain ⟨hk, hs, hn⟩ := hs9
  have hts1 := dr_words hts d0
  have hg : (ws8 γ n σ ν)[k0]? = some (γ.1 k0, .inr (ci, (List.range (fkL.getD ci []).length).map (fun j => fv8 γ.1 σ ν k0 j (fk ci j)))) := (ws8_get hkn).trans (by rw [en8_O hs])
  refine va_put (A := fun q => h ≤ q) (ci := ci) (C := C0) (T := T) (N := N) (ty := ty) (v := .ref (γ.1 (rfs k0 j))) hx hb hts1 hin9 ty0 (hty T N hc) (hnm T N hc) hown1 hK1 hPP (ws8_D hG hnC) hS k0 hg hc j hjN (hts1 _ hw) (hsm (s.setDrawn d0) args hts1) ((hfin T N hc).1) (hpd T N hc) (hnf _).1 (hnf _).2 (by rw [List.length_map, List.length_range]; omega) hd (fun H locs hP hD hS => ?_)
  have hset := fsX8 (ad := γ.1) (dA := γ.2.2.2) (ν := ν) (ν' := (k0, j) :: ν) (σ := σ) (σ' := σ) (v := .ref (γ.1 (rfs k0 j))) hs (by rw [hfk]; show (if _ then _ else _) = _; rw [hv8_cons]; simp) (fun i hi => by
    rcases Nat.lt_or_ge (fk ci i) 2 with q | q
    · rcases (show fk ci i = 0 ∨ fk ci i = 1 by omega) with q | q
      · rw [q]; rfl
      · rw [q]; rfl
    · obtain ⟨t, ht⟩ := Nat.exists_eq_add_of_le q
      rw [ht, Nat.add_comm]
      show (if _ then _ else _) = (if _ then _ else _)
      rw [hv8_cons, show (j == i) = false by simpa using fun q => hi q.symm, Bool.and_false, Bool.false_or])
  rw [ws8_set (k := k0) hset (fun k' hk' => en8_nu (fun i => hv8_ne hk' i))] at hP
  have hP : P8 γ n σ ((k0, j) :: ν) H := ⟨hnC, Fr8_nu hfr hkn, hP⟩
  exact k H locs d0 ls hd0 hl hS hP
theorem k_putRF (C : KC γ h own cc nL n0 rt ini p s m args meth c) (hini : ini = true) {k0 ci idx j k1 : Nat} (hd : decode cc pc = .ok (.putfield idx, 3)) (hs9 : sh9 k0 0 ci) (hkn : k0 < n) (hf : fr8 own idx ci j true) (hr1 : rfs k0 j = k1) (k : Kv γ h nL n0 p l e R s m args below meth c Z (pc + 3) (lv) (st) (n) (σ) ((k0, j) :: ν) (sl)) : Kv γ h nL n0 p l e R s m args below meth c Z (pc) (lv) (.ref k1 :: .ref k0 :: st) (n) (σ) (ν) (sl) := by
  intro H locs d0 ls hd0 hl hS hP
  obtain ⟨hx, hb, hml, hown, hts, hK, hAO, hG, hh, hlk, hr, hin⟩ := id C
  have hK1 : va_K (γ.2.1, γ.2.2.1) cls9 (ty9 γ) (s.setDrawn d0) := hK.1
  have hown1 : (s.setDrawn d0).vm.findClass own = some m.cls := hown
  obtain ⟨hnC, hfr, hPP⟩ := id hP
  subst hr1
  obtain ⟨⟨C0, T, N, ref, hc, hjN, hw, hin9, hsm, hfk, hlen⟩, ty0, hty, hnm, hfin, ty, hpd, hnf⟩ := hf
  obtain ⟨hk, hs, hn⟩ := hs9
  have hts1 := dr_words hts d0
  have hg : (ws8 γ n σ ν)[k0]? = some (γ.1 k0, .inr (ci, (List.range (fkL.getD ci []).length).map (fun j => fv8 γ.1 σ ν k0 j (fk ci j)))) := (ws8_get hkn).trans (by rw [en8_O hs])
  refine va_putF (A := fun q => h ≤ q) (ci := ci) (C := C0) (T := T) (N := N) (ty := ty) (v := .ref (γ.1 (rfs k0 j))) hx hb hts1 hin9 ty0 (hty T N hc) (hnm T N hc) hown1 hK1 hPP (ws8_D hG hnC) hS k0 hg hc j hjN (hts1 _ hw) (hsm (s.setDrawn d0) args hts1) ((hfin T N hc).1) (hin hini) ((hfin T N hc).2 rfl) (hpd T N hc) (hnf _).1 (hnf _).2 (by rw [List.length_map, List.length_range]; omega) hd (fun H locs hP hD hS => ?_)
  have hset := fsX8 (ad := γ.1) (dA := γ.2.2.2) (ν := ν) (ν' := (k0, j) :: ν) (σ := σ) (σ' := σ) (v := .ref (γ.1 (rfs k0 j))) hs (by rw [hfk]; show (if _ then _ else _) = _; rw [hv8_cons]; simp) (fun i hi => by
    rcases Nat.lt_or_ge (fk ci i) 2 with q | q
    · rcases (show fk ci i = 0 ∨ fk ci i = 1 by omega) with q | q
      · rw [q]; rfl
      · rw [q]; rfl
    · obtain ⟨t, ht⟩ := Nat.exists_eq_add_of_le q
      rw [ht, Nat.add_comm]
      show (if _ then _ else _) = (if _ then _ else _)
      rw [hv8_cons, show (j == i) = false by simpa using fun q => hi q.symm, Bool.and_false, Bool.false_or])
  rw [ws8_set (k := k0) hset (fun k' hk' => en8_nu (fun i => hv8_ne hk' i))] at hP
  have hP : P8 γ n σ ((k0, j) :: ν) H := ⟨hnC, Fr8_nu hfr hkn, hP⟩
  exact k H locs d0 ls hd0 hl hS hP
theorem k_iastore (C : KC γ h own cc nL n0 rt ini p s m args meth c) {k0 N : Nat} {z : Int} {x : Int} (hd : decode cc pc = .ok (.iastore, 1)) (hs9 : sh9 k0 1 N) (hkn : k0 < n) (hz : 0 ≤ z ∧ z < N) (k : Kv γ h nL n0 p l e R s m args below meth c Z (pc + 1) (lv) (st) (n) (sI σ k0 z x) (ν) (sl)) : Kv γ h nL n0 p l e R s m args below meth c Z (pc) (lv) (.int (iI x) :: .int (iI z) :: .ref k0 :: st) (n) (σ) (ν) (sl) := by
  intro H locs d0 ls hd0 hl hS hP
  obtain ⟨hx, hb, hml, hown, hts, hK, hAO, hG, hh, hlk, hr, hin⟩ := id C
  have hK1 : va_K (γ.2.1, γ.2.2.1) cls9 (ty9 γ) (s.setDrawn d0) := hK.1
  have hown1 : (s.setDrawn d0).vm.findClass own = some m.cls := hown
  obtain ⟨hnC, hfr, hPP⟩ := id hP
  obtain ⟨hk, hs, hn⟩ := hs9
  have hg : (ws8 γ n σ ν)[k0]? = some (γ.1 k0, .inl (γ.2.2.2 0, N, .inl (fun j => iI (gI σ k0 (j : Int))))) := (ws8_get hkn).trans (by rw [en8_I hs])
  refine va_iast (A := fun q => h ≤ q) hx hb hK1 hPP (ws8_D hG hnC) hS k0 0 hg rfl (iI_in hz.1 hz.2 hn) hd (fun H locs hP hD hS => ?_)
  rw [ws8_set (σ' := sI σ k0 z x) (ν' := ν) (k := k0) ((sti9 (ad := γ.1) hz.1 (by omega) hs).trans (by rw [ent_I hs, en8_I hs])) (fun k' hk' => en8_aI hk')] at hP
  have hP : P8 γ n (sI σ k0 z x) ν H := ⟨hnC, Fr8_aI hfr hkn, hP⟩
  exact k H locs d0 ls hd0 hl hS hP
theorem k_fastore (C : KC γ h own cc nL n0 rt ini p s m args meth c) {k0 N : Nat} {z : Int} {x : UInt32} (hd : decode cc pc = .ok (.fastore, 1)) (hs9 : sh9 k0 3 N) (hkn : k0 < n) (hz : 0 ≤ z ∧ z < N) (k : Kv γ h nL n0 p l e R s m args below meth c Z (pc + 1) (lv) (st) (n) (sF σ k0 z x) (ν) (sl)) : Kv γ h nL n0 p l e R s m args below meth c Z (pc) (lv) (.float x :: .int (iI z) :: .ref k0 :: st) (n) (σ) (ν) (sl) := by
  intro H locs d0 ls hd0 hl hS hP
  obtain ⟨hx, hb, hml, hown, hts, hK, hAO, hG, hh, hlk, hr, hin⟩ := id C
  have hK1 : va_K (γ.2.1, γ.2.2.1) cls9 (ty9 γ) (s.setDrawn d0) := hK.1
  have hown1 : (s.setDrawn d0).vm.findClass own = some m.cls := hown
  obtain ⟨hnC, hfr, hPP⟩ := id hP
  obtain ⟨hk, hs, hn⟩ := hs9
  have hg : (ws8 γ n σ ν)[k0]? = some (γ.1 k0, .inl (γ.2.2.2 2, N, .inr (.inr (.inl (fun j => gF σ k0 (j : Int)))))) := (ws8_get hkn).trans (by rw [en8_F hs])
  refine va_fast (A := fun q => h ≤ q) hx hb hK1 hPP (ws8_D hG hnC) hS k0 2 hg rfl (iI_in hz.1 hz.2 hn) hd (fun H locs hP hD hS => ?_)
  rw [ws8_set (σ' := sF σ k0 z x) (ν' := ν) (k := k0) ((stf9 (ad := γ.1) hz.1 (by omega) hs).trans (by rw [ent_F hs, en8_F hs])) (fun k' hk' => en8_aF hk')] at hP
  have hP : P8 γ n (sF σ k0 z x) ν H := ⟨hnC, Fr8_aF hfr hkn, hP⟩
  exact k H locs d0 ls hd0 hl hS hP
theorem k_aastore (C : KC γ h own cc nL n0 rt ini p s m args meth c) {k0 N k1 : Nat} {z : Int} (hd : decode cc pc = .ok (.aastore, 1)) (hs9 : sh9 k0 6 N) (hkn : k0 < n) (hs1 : sh9 k1 0 6) (hk1 : k1 < n) (hz : 0 ≤ z ∧ z < N) {zn : Nat} (hzn : (zn : Int) = z) (hrf : rfs k0 zn = k1) (k : Kv γ h nL n0 p l e R s m args below meth c Z (pc + 1) (lv) (st) (n) (σ) ((k0, zn) :: ν) (sl)) : Kv γ h nL n0 p l e R s m args below meth c Z (pc) (lv) (.ref k1 :: .int (iI z) :: .ref k0 :: st) (n) (σ) (ν) (sl) := by
  intro H locs d0 ls hd0 hl hS hP
  obtain ⟨hx, hb, hml, hown, hts, hK, hAO, hG, hh, hlk, hr, hin⟩ := id C
  have hK1 : va_K (γ.2.1, γ.2.2.1) cls9 (ty9 γ) (s.setDrawn d0) := hK.1
  have hown1 : (s.setDrawn d0).vm.findClass own = some m.cls := hown
  obtain ⟨hnC, hfr, hPP⟩ := id hP
  obtain ⟨hk, hs, hn⟩ := hs9
  obtain ⟨hkb, hsb, hnb⟩ := hs1
  subst hzn
  subst hrf
  have hg : (ws8 γ n σ ν)[k0]? = some (γ.1 k0, .inl (γ.2.2.2 5, N, .inr (.inr (.inr (.inr (fun j => if hv8 ν k0 j then some (γ.1 (rfs k0 j)) else none)))))) := (ws8_get hkn).trans (by rw [en8_S hs])
  have hgv := (ws8_get (γ := γ) (σ := σ) (ν := ν) hk1).trans (by rw [en8_O hsb])
  refine va_astq (A := fun q => h ≤ q) hx hb hK1 hPP (ws8_D hG hnC) hS k0 5 (rfs k0 zn) 6 (r := (RX7, TX7, 5)) hg rfl hgv rfl (iI_in hz.1 hz.2 hn) hd (fun H locs hP hD hS => ?_)
  have hcl : (iI (zn : Int)).toNatClampNeg = zn := by rw [iI_clamp (by omega) (by omega)]; rfl
  have hset : (Sum.inl (γ.2.2.2 5, N, .inr (.inr (.inr (.inr (va_up (fun j => if hv8 ν k0 j then some (γ.1 (rfs k0 j)) else none) (iI (zn : Int)).toNatClampNeg (some (γ.1 (rfs k0 zn)))))))) : va_E) = en8 γ.1 γ.2.2.2 σ ((k0, zn) :: ν) k0 := by
    rw [en8_S hs, hcl]
    refine congrArg (fun g => (Sum.inl (γ.2.2.2 5, N, .inr (.inr (.inr (.inr g)))) : va_E)) (funext fun q => ?_)
    unfold va_up
    rw [hv8_cons]
    by_cases hq : q = zn
    · subst hq; simp
    · rw [if_neg hq, show (zn == q) = false by simpa using fun q2 => hq q2.symm, Bool.and_false, Bool.false_or]
  rw [ws8_set (k := k0) hset (fun k' hk' => en8_nu (fun i => hv8_ne hk' i))] at hP
  have hP : P8 γ n σ ((k0, zn) :: ν) H := ⟨hnC, Fr8_nu hfr hkn, hP⟩
  exact k H locs d0 ls hd0 hl hS hP
theorem k_objInit (C : KC γ h own cc nL n0 rt ini p s m args meth c) {idx k0 : Nat} (hd : decode cc pc = .ok (.invokespecial idx, 3)) (hw : Cond.methodLink own idx objectInit ∈ lw_w) (hw2 : Cond.instanceMethod objectInit ∈ lw_w) (hw3 : Cond.code objectInit ⟨#[0xb1]⟩ 1 none ∈ lw_w) (hfr : 1 ≤ R.frames) (hlo : 20 ≤ R.locals) (hst : st = []) (k : Kv γ h nL n0 p l e R s m args below meth c Z (pc + 3) (lv) (st) (n) (σ) (ν) (sl)) : Kv γ h nL n0 p l e R s m args below meth c Z (pc) (lv) (.ref k0 :: st) (n) (σ) (ν) (sl) := by
  intro H locs d0 ls hd0 hl hS hP
  obtain ⟨hx, hb, hml, hown, hts, hK, hAO, hG, hh, hlk, hr, hin⟩ := id C
  subst hst
  have hts1 := dr_words hts d0
  have hown1 : (s.setDrawn d0).vm.findClass own = some m.cls := hown
  refine W.objInit hx hb hown1 (hts1 _ hw) (hts1 _ hw2) (hts1 _ hw3) rfl (by rw [hml]; exact hl.1) rfl hd hfr (Nat.le_trans (Nat.le_of_ble_eq_true rfl) hlo) ?_
  exact k H locs d0 ls hd0 hl hS hP
end
theorem out8 (cA : ClassId) (N h0 : Nat) : ∀ i, Jvm.Free.Multi.outerC cA N h0 i = { cls := cA, slots := (Jvm.Free.Multi.outerC cA N h0 i).slots, vm := .none }
  | 0 => rfl
  | i + 1 => by
    have h := out8 cA N h0 i
    show Cell.setSlot (Jvm.Free.Multi.outerC cA N h0 i) i _ = { cls := cA, slots := (Cell.setSlot (Jvm.Free.Multi.outerC cA N h0 i) i _).slots, vm := .none }
    rw [h]
    rfl
theorem W8_multi {p : Program} {l : Launch} {e : Env} {R : Room} {s : State} {m : MethodId} {args : Array Value} {below : List Frame} {meth : Method} {c : Code} {H : Heap} {locs : List Loc} {cells slots : Nat} {Q : State → Prop} {cc : ByteArray} (hexec : p.tables.exec = Jvm.exec) (hb : c.code = cc) {own : String} {index : Nat}
    (hown : s.vm.findClass own = some m.cls) (hclink : (Cond.classLink own index "[[I").before args s = true) (hover : (Cond.arrayOver (.array .int)).before args s = true) (harr : (Cond.arrayClass .int).before args s = true)
    {g : JFrame} (hg : g.method = m) (hdg : decode cc g.pc = .ok (.multianewarray index 2, 4)) {a b : Int32} {N K : Nat} {rest : List Value} (hstack : g.stack = .int b :: .int a :: rest) (ha : ¬ a < 0) (hb9 : ¬ b < 0) (hN : a.toNatClampNeg = N) (hK : b.toNatClampNeg = K) (hN1 : N ≤ 1000) (hK1 : K ≤ 1000)
    (hcells : cells + (1 + N) ≤ R.cells) (hslots : slots + (N + N * K) ≤ R.slots)
    (kk : ∀ (H1 : Heap) (cA comp : ClassId), s.vm.findClass ("[" ++ (FieldType.array .int).toString) = some cA → s.vm.findClass ("[" ++ FieldType.int.toString) = some comp → H1.size = H.size + (1 + N) → (∀ q, q < H.size → H1[q]? = H[q]?) → H1[H.size]? = some (arrV cA N (fun j => .ref (H.size + 1 + j))) → (∀ j, j < N → H1[H.size + 1 + j]? = some (arrV comp K (fun _ => .int 0))) →
      W p l e R s m args below meth c H1 locs (cells + 1 + N) (slots + N + N * K) Q { g with pc := g.pc + 4, stack := .ref H.size :: rest }) : W p l e R s m args below meth c H locs cells slots Q g := by
  intro T hT X
  subst hT; subst hb; subst hN; subst hK
  obtain ⟨vm₁, cA, comp, hW, hfA, hfC, hO, hI, X1, st⟩ := X.multianewarray2F hexec (own := own) (index := index) (ty := .int) hown hclink hover harr hg hdg hstack ha hb9 (by omega) (by show _ * 4 ≤ _; omega) (by omega) rfl rfl hcells hslots
  obtain ⟨f1, f2, f3, f4⟩ := Jvm.Free.Multi.fill_facts (T.setVm vm₁) cA comp a.toNatClampNeg b.toNatClampNeg (defaultValue .int) a.toNatClampNeg
  have fo := fun (q : Addr) (hq : q < T.heap.size) => Jvm.Free.Multi.fill_old (T.setVm vm₁) cA comp a.toNatClampNeg b.toNatClampNeg (defaultValue .int) (a := q) hq a.toNatClampNeg
  have fi := fun (j : Nat) (hj : j < a.toNatClampNeg) => Jvm.Free.Multi.fill_inner (T.setVm vm₁) cA comp a.toNatClampNeg b.toNatClampNeg (defaultValue .int) a.toNatClampNeg j hj
  obtain ⟨o1, o2, o3⟩ := Jvm.Free.Multi.outerC_facts cA a.toNatClampNeg T.heap.size a.toNatClampNeg
  have os := fun (j : Nat) (hj : j < a.toNatClampNeg) => Jvm.Free.Multi.outerC_slot cA a.toNatClampNeg T.heap.size a.toNatClampNeg j hj
  have hout : Jvm.Free.Multi.outerC cA a.toNatClampNeg T.heap.size a.toNatClampNeg = arrV cA a.toNatClampNeg (fun j => .ref (T.heap.size + 1 + j)) := by
    have hsl : (Jvm.Free.Multi.outerC cA a.toNatClampNeg T.heap.size a.toNatClampNeg).slots = (arrV cA a.toNatClampNeg (fun j => .ref (T.heap.size + 1 + j))).slots := by
      apply Array.ext_getElem?
      intro i
      by_cases hi : i < a.toNatClampNeg
      · rw [os i hi, arrV_read _ _ hi]; simp [hi]
      · rw [Array.getElem?_eq_none (by rw [o3]; omega), Array.getElem?_eq_none (by rw [arrV_size]; omega)]
    rw [out8, hsl]
    rfl
  obtain ⟨t, a1, b1⟩ := kk _ cA comp hfA hfC (by rw [f1]; show T.heap.size + 1 + _ = _; omega) fo (by rw [← hout]; exact f2) (fun j hj => (fi j hj).trans (congrArg some (arrV_new comp _ _))) _ rfl X1
  exact ⟨t, st t a1, b1⟩
section
variable {γ : G9} {h nL n0 : Nat} {own : String} {cc : ByteArray} {rt : Option FieldType} {ini : Bool} {p : Program} {l : Launch} {e : Env} {R : Room} {s : State} {m : MethodId} {args : Array Value} {below : List Frame} {meth : Method} {c : Code} {Z : State → Prop} {pc : Nat} {lv lv' st : List Value} {n sl sl' : Nat} {σ : S9} {ν : List (Nat × Nat)}
theorem k_multi (C : KC γ h own cc nL n0 rt ini p s m args meth c) {idx N K : Nat} {z w : Int} (hd : decode cc pc = .ok (.multianewarray idx 2, 4)) (hw : Cond.classLink own idx "[[I" ∈ lw_w) (hz : (N : Int) = z) (hw9 : (K : Int) = w) (hN1 : N ≤ 1000) (hK9 : K ≤ 1000) (hnN : n + N < NC) (hs9 : sh9 n 7 N) (hs1 : ∀ j, j < N → shp (n + 1 + j) = (1, K) ∧ rfs n j = n + 1 + j) (h0 : n0 ≤ n) (hce : n + (1 + N) - n0 ≤ R.cells) (hsl : sl + (N + N * K) = sl') (hsR : sl' ≤ R.slots) (k : Kv γ h nL n0 p l e R s m args below meth c Z (pc + 4) (lv) (.ref n :: st) (n + (1 + N)) (σ) (ml8 n N ν) (sl')) : Kv γ h nL n0 p l e R s m args below meth c Z (pc) (lv) (.int (iI w) :: .int (iI z) :: st) (n) (σ) (ν) (sl) := by
  intro H locs d0 ls hd0 hl hS hP
  obtain ⟨hx, hb, hml, hown, hts, hK, hAO, hG, hh, hlk, hr, hin⟩ := id C
  have hK1 : va_K (γ.2.1, γ.2.2.1) cls9 (ty9 γ) (s.setDrawn d0) := hK.1
  have hown1 : (s.setDrawn d0).vm.findClass own = some m.cls := hown
  obtain ⟨hnC, hfr, hPP⟩ := id hP
  subst hsl
  subst hz
  subst hw9
  obtain ⟨hk9, hs, -⟩ := hs9
  have hts1 := dr_words hts d0
  refine sz8 C h0 hS hP (fun hsz => ?_)
  have hadr : H.size = γ.1 n := by rw [hsz, hG n hk9]
  have hn9 : ¬ iI (N : Int) < 0 := fun q => (iI_in (n := N + 1) (by omega) (by omega) (by omega)) (Or.inl q)
  have hcl : (iI (N : Int)).toNatClampNeg = N := by rw [iI_clamp (by omega) (by omega)]; rfl
  have hn9k : ¬ iI (K : Int) < 0 := fun q => (iI_in (n := K + 1) (by omega) (by omega) (by omega)) (Or.inl q)
  have hclk : (iI (K : Int)).toNatClampNeg = K := by rw [iI_clamp (by omega) (by omega)]; rfl
  have hAO1 : (Cond.arrayOver (.array .int)).before args (s.setDrawn d0) = true := hAO.2.1
  have hRA : (s.setDrawn d0).vm.findClass ("[" ++ (FieldType.array .int).toString) = some (γ.2.2.2 6) := (hK1.2 6 (γ.2.2.2 6, .array .int) rfl).2
  have hRI : (s.setDrawn d0).vm.findClass ("[" ++ FieldType.int.toString) = some (γ.2.2.2 0) := (hK1.2 0 (γ.2.2.2 0, .int) rfl).2
  refine W8_multi hx hb hown1 (hts1 _ hw) hAO1 (hts1 (.arrayClass .int) w8_I) rfl hd rfl hn9 hn9k hcl hclk hN1 hK9 (by omega) hsR fun H1 cA comp g1 g2 z1 o1 e1 ei => ?_
  have hcA : cA = γ.2.2.2 6 := Option.some.inj (g1.symm.trans hRA)
  subst hcA
  have hcB : comp = γ.2.2.2 0 := Option.some.inj (g2.symm.trans hRI)
  subst hcB
  have hP1 : P8 γ (n + (1 + N)) σ (ml8 n N ν) H1 := ⟨by omega, Fr8_ml hfr, fun q x hx => by
    have hq := ws8_lt hx
    rw [ws8_get hq] at hx
    cases hx
    by_cases q1 : q < n
    · have h3 := hPP q _ (ws8_get q1)
      rw [en8_nu (ν := ν) (fun j => ml8_ne (by omega) j)]
      exact h3.kept (o1 _ h3.lt)
    · by_cases q2 : q = n
      · rw [q2, en8_R hs, ← hadr]
        show H1[H.size]? = some (vp_cell _ _)
        rw [e1, vp_cell_q]
        refine congrArg some ?_
        unfold arrV
        congr 1
        apply Array.ext
        · simp
        · intro i h1 h2
          have hi : i < N := by simpa using h1
          simp only [Array.getElem_ofFn]
          rw [ml8_eq hi, (hs1 i hi).2, hsz, hG _ (by omega)]
          exact congrArg Value.ref (show h + n + 1 + i = h + (n + 1 + i) by omega)
      · obtain ⟨j, rfl⟩ := Nat.exists_eq_add_of_le (show n + 1 ≤ q by omega)
        have hj : j < N := by omega
        rw [en8_I (hs1 j hj).1, hG _ (by omega)]
        show H1[h + (n + 1 + j)]? = some (vp_cell _ _)
        have h4 := ei j hj
        rw [hsz] at h4
        rw [show h + (n + 1 + j) = h + n + 1 + j by omega, h4, vp_cell_i]
        refine congrArg some (congrArg (arrV _ K) (funext fun i => ?_))
        rw [(hfr (n + 1 + j) (by omega)).1.1]
        rfl⟩
  have hS1 : va_S (fun q => h ≤ q) s.heap H1 locs := ⟨Nat.le_trans hS.1 (by omega), fun x h1 h2 => (o1 x (Nat.lt_of_lt_of_le h1 hS.1)).trans (hS.2.1 x h1 h2), hS.2.2⟩
  have h2 := k H1 locs d0 ls hd0 hl hS1 hP1
  rw [List.map_cons, show trv γ.1 (.ref n) = .ref (γ.1 n) from rfl, ← hadr, show n + (1 + N) - n0 = n - n0 + 1 + N by omega, ← Nat.add_assoc] at h2
  exact h2
end
