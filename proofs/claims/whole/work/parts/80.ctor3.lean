abbrev rm8 (d mc ms : Nat) : Room := { frames := d, cells := mc, slots := ms, locals := 60 * d }
def Q8 (γ : G9) (h n : Nat) (σ : S9) (ν : List (Nat × Nat)) : Array Value → State → Outcome → State → Prop := fun _ st oc t => (oc = .returned none ∧ P8 γ n σ ν t.heap ∧ K9 γ t ∧ AO8 t) ∧ va_F (fun q => h ≤ q) st t
abbrev p8 (γ : G9) (h n : Nat) (σ : S9) (ν : List (Nat × Nat)) (U : State) : Prop := U.heap.size = h + n ∧ P8 γ n σ ν U.heap ∧ K9 γ U ∧ AO8 U
/-- a method that builds: from n cells to n' -/
def C8 (d ms : Nat) (mi : MI) (av : List Value) (n : Nat) (σ : S9) (ν : List (Nat × Nat)) (n' : Nat) (σ' : S9) (ν' : List (Nat × Nat)) : Prop :=
  n ≤ n' ∧ ∀ (γ : G9) (h : Nat) (l : Launch), gS8 γ h → MetD lw_cs l mi.1 (pw9 mi) (rm8 d (n' - n) ms) (va_Pc (av.map (trv γ.1)) (p8 γ h n σ ν)) (Q8 γ h n' σ' ν') (n' - n) ms (fun q => h ≤ q)
theorem C8_of {d ms n n' : Nat} {mi : MI} {av lv : List Value} {σ σ' : S9} {ν ν' : List (Nat × Nat)} {ini : Bool} (hy : plainFor mi.1 = true) (hini : ini = true → mi.1.name = "<init>") (hret : mi.2.2.2 = none) (hn : ∀ ad : Nat → Nat, (lg_sl (av.map (trv ad))).length ≤ mi.2.2.1)
    (hlv : lay9 av ++ List.replicate (mi.2.2.1 - (lay9 av).length) .null = lv) (hnn : n ≤ n')
    (k : ∀ (γ : G9) (h : Nat) (p : Program) (l : Launch) (e : Env) (s : State) (m : MethodId) (args : Array Value) (below : List Frame) (meth : Method) (c : Code), KC γ h mi.1.cls mi.2.1 mi.2.2.1 n none ini p s m args meth c → Kv γ h mi.2.2.1 n p l e (rm8 d (n' - n) ms) s m args below meth c (MQD lw_cs below (Q8 γ h n' σ' ν') args s (n' - n) ms (fun q => h ≤ q)) 0 lv [] n σ ν 0) : C8 d ms mi av n σ ν n' σ' ν' := by
  refine ⟨hnn, ?_⟩
  intro γ h l hG
  refine MetD_ofWF (cc := mi.2.1) (maxL := mi.2.2.1) (ret := mi.2.2.2) hy rfl ?_
  intro p e s m args below meth c s₁ B hml hv hd0
  obtain ⟨rfl, hsz, hP, hK, hAO⟩ := hv
  have hts := atoms_spec (ws := pw9 mi) B.pre
  have hl := lv_entry (av.map (trv γ.1)) (n := mi.2.2.1) (hn γ.1)
  rw [lg_entry_eq]
  generalize (lg_sl (av.map (trv γ.1)) ++ List.replicate (mi.2.2.1 - (lg_sl (av.map (trv γ.1))).length) Slot.unset).toArray = ls at hl ⊢
  have hk := k γ h p l e s m (av.map (trv γ.1)).toArray below meth c ⟨B.exec, B.bytes, hml, findClass_of_methodNamed B.named, fun w h => hts w (List.mem_cons_of_mem _ h), hK, hAO, hG, hsz, B.notSynchronized, B.returns.trans hret, fun q => (name_of_methodNamed B.named B.method).1.trans (hini q)⟩ s.heap [] s.drawn ls hd0 ⟨hl.1, hl.2.1, fun i v hi hnn => by
    refine hl.2.2 (i, trv γ.1 v) ?_
    subst hlv
    by_cases hlt : i < (lay9 av).length
    · rw [List.getElem?_append_left hlt] at hi
      have := lay9_args γ.1 av 0 i v hi hnn
      rwa [Nat.zero_add] at this
    · rw [List.getElem?_append_right (Nat.not_lt.mp hlt), List.getElem?_replicate] at hi
      split at hi
      · cases hi; exact absurd rfl hnn
      · cases hi⟩ va_S.rf hP
  rw [Nat.sub_self] at hk
  exact hk
def lkI8 (own : String) (idx : Nat) (mj : MI) : Prop := Cond.methodLink own idx mj.1 ∈ lw_w ∧ Cond.instanceMethod mj.1 ∈ lw_w ∧ Cond.initialized mj.1.cls ∈ lw_w ∧ Cond.code mj.1 mj.2.1 mj.2.2.1 none ∈ lw_w ∧ mj.2.2.2 = none ∧ nMH mj.1.cls ∧ np9 mj.1 = some 0 ∧ mj.1.name = "<init>"
def lkN8 (own : String) (idx : Nat) (mj : MI) : Prop := (own, idx, mj.1) ∈ nst8 ∧ Cond.instanceMethod mj.1 ∈ lw_w ∧ Cond.initialized mj.1.cls ∈ lw_w ∧ Cond.code mj.1 mj.2.1 mj.2.2.1 none ∈ lw_w ∧ mj.2.2.2 = none ∧ nMH mj.1.cls ∧ np9 mj.1 = some 0 ∧ mj.1.name = "<init>"
section
variable {γ : G9} {h nL n0 : Nat} {own : String} {cc : ByteArray} {rt : Option FieldType} {ini : Bool} {p : Program} {l : Launch} {e : Env} {R : Room} {s : State} {m : MethodId} {args : Array Value} {below : List Frame} {meth : Method} {c : Code} {Z : State → Prop} {pc : Nat} {lv lv' st : List Value} {n sl sl' : Nat} {σ : S9} {ν : List (Nat × Nat)}
theorem k_return (C : KC γ h own cc nL n0 rt ini p s m args meth c) (hd : decode cc pc = .ok (.return_, 1)) (hrt : rt = none) : Kv γ h nL n0 p l e R s m args below meth c (MQD lw_cs below (Q8 γ h n σ ν) args s (n - n0) sl (fun q => h ≤ q)) pc lv [] n σ ν sl := by
  intro H locs d0 ls hd0 hl hS hP
  obtain ⟨hx, hb, hml, hown, hts, hK, hAO, hG, hh, hlk, hr, hin⟩ := id C
  refine W.endD hd0 ?_
  exact W.vret hx hb (hr.trans hrt) (fun t ht hW => ⟨⟨rfl, by rw [ht]; exact hP, K9.moved hW.alike hK, AO8.warm hW (AO8.same rfl hAO)⟩, hS.F ht⟩) hS.2.2 hd hlk
theorem run8 {H : Heap} {locs : List Loc} {d0 : Drawn} {ls : Array Slot} {st0 rest : List Value} {a : Array Value} {n' ms : Nat} {σ' : S9} {ν' : List (Nat × Nat)} (h0 : n0 ≤ n) (hnn : n ≤ n') (hd0 : s.drawn.sameBut d0 lw_cs)
    (hr : va_RunD lw_cs p l e R (s.setDrawn d0) m args below meth c H locs (n - n0) sl (n' - n) ms (F0 m pc ls st0) rest (Q8 γ h n' σ' ν' a) (fun q => h ≤ q)) (hS : va_S (fun q => h ≤ q) s.heap H locs)
    (kk : ∀ (H1 : Heap) (locs1 : List Loc) (d1 : Drawn), P8 γ n' σ' ν' H1 → va_S (fun q => h ≤ q) s.heap H1 locs1 → s.drawn.sameBut d1 lw_cs → W p l e R (s.setDrawn d1) m args below meth c H1 locs1 (n' - n0) (sl + ms) Z (F0 m (pc + 3) ls rest)) : W p l e R (s.setDrawn d0) m args below meth c H locs (n - n0) sl Z (F0 m pc ls st0) := by
  intro T hT X
  obtain ⟨v, st₀, t, T', L, d', hd', h0', X', hL, e1, e2, ⟨⟨hv, hP', hK', hA'⟩, hz, hk⟩, st⟩ := hr T hT X
  rw [h0'] at hz hk
  have hS1 : va_S (fun q => h ≤ q) s.heap T'.heap (locs ++ L) := ⟨Nat.le_trans hS.1 (by rw [e1]; exact hz), fun q h1 h2 => by
      rw [e1, hk q (Nat.lt_of_lt_of_le h1 hS.1) h2]
      exact hS.2.1 q h1 h2, fun q hq => by
      rcases List.mem_append.mp hq with h | h
      · exact hS.2.2 q h
      · exact hL q h⟩
  rw [show n - n0 + (n' - n) = n' - n0 by omega] at X'
  obtain ⟨t2, a1, b1⟩ := kk T'.heap (locs ++ L) d' (by rw [e1]; exact hP') hS1 (hd0.trans hd') T' rfl X'
  have hvr : v = none := Option.some.inj (congrArg (fun o => match o with | .returned x => some x | _ => none) hv)
  subst hvr
  exact ⟨t2, st t2 a1, b1⟩
theorem blind8 {av : List Value} : FrameBlind (va_Pc av (p8 γ h n σ ν)) := fun a U g mk q => ⟨q.1, q.2.1, q.2.2.1, K9.moved (u := U) (U := U.calling g mk a) (Vm.Alike.refl U.vm) q.2.2.2.1, AO8.same (u := U) (U := U.calling g mk a) rfl q.2.2.2.2⟩
theorem k_callI (C : KC γ h own cc nL n0 rt ini p s m args meth c) {mj : MI} {idx k0 d ms n' : Nat} {σ' : S9} {ν' : List (Nat × Nat)} (hd : decode cc pc = .ok (.invokespecial idx, 3)) (hk : lkI8 own idx mj) (hW : (st.map Value.category).sum ≤ 8) (h8 : C8 d ms mj [.ref k0] n σ ν n' σ' ν') (h0 : n0 ≤ n) (hro : d + 1 ≤ R.frames ∧ 8 + (mj.2.2.1 + 11) + 60 * d ≤ R.locals) (hce : n' - n0 ≤ R.cells) (hsl : sl + ms = sl') (hsR : sl' ≤ R.slots) (k : Kv γ h nL n0 p l e R s m args below meth c Z (pc + 3) (lv) (st) (n') (σ') (ν') (sl')) : Kv γ h nL n0 p l e R s m args below meth c Z (pc) (lv) (.ref k0 :: st) (n) (σ) (ν) (sl) := by
  intro H locs d0 ls hd0 hl hS hP
  obtain ⟨hx, hb, hml, hown, hts, hK, hAO, hG, hh, hlk, hr, hin⟩ := id C
  have hK1 : va_K (γ.2.1, γ.2.2.1) cls9 (ty9 γ) (s.setDrawn d0) := hK.1
  have hown1 : (s.setDrawn d0).vm.findClass own = some m.cls := hown
  obtain ⟨hnC, hfr, hPP⟩ := id hP
  subst hsl
  obtain ⟨g1, g2, g3, g4, g5, g6, g7, g8⟩ := hk
  have hnn := h8.1
  have hts1 := dr_words hts d0
  refine sz8 C h0 hS hP (fun hsz => ?_)
  have hw1 : ((st.map (trv γ.1)).map fun v => v.category).sum ≤ 8 := by rw [List.map_map]; simpa [Function.comp_def, trv_cat] using hW
  have hgd : GoodIn lw_w (pw9 mj) := gi9 (fun w hw => by
    rcases List.mem_cons.mp hw with rfl | h
    · rw [g5]; exact g4
    · exact h)
  have hK2 : K9 γ (s.setDrawn d0) := hK
  have hAO2 : AO8 (s.setDrawn d0) := AO8.same rfl hAO
  refine run8 (rest := st.map (trv γ.1)) h0 hnn hd0 (va_runI_D (As := []) ⟨hx, hb, hml, hown1, hts1⟩ (h8.2 γ h l hG) (cwI 0 hts1 hgd (by show pw9 mj = _; rw [← g5]) rfl rfl (hts1 _ g3) (hts1 _ g1) (hts1 _ g2) g8 ⟨g6.1, g6.2, g7⟩ ⟨hro.1, hro.2⟩)
    ⟨blind8, fun U hU hW => ⟨rfl, by rw [hU]; exact hsz, by rw [hU]; exact hP, K9.moved hW.alike hK2, AO8.warm hW hAO2⟩⟩ rfl rfl hl.1 rfl (lv_room hw1) hd ⟨by omega, hsR⟩) hS ?_
  intro H1 locs1 d1 hP1 hS1 hd1
  exact k H1 locs1 d1 ls hd1 hl hS1 hP1
theorem k_callN (C : KC γ h own cc nL n0 rt ini p s m args meth c) {mj : MI} {idx k0 d ms n' : Nat} {σ' : S9} {ν' : List (Nat × Nat)} (hd : decode cc pc = .ok (.invokespecial idx, 3)) (hk : lkN8 own idx mj) (hW : (st.map Value.category).sum ≤ 8) (h8 : C8 d ms mj [.ref k0] n σ ν n' σ' ν') (h0 : n0 ≤ n) (hro : d + 1 ≤ R.frames ∧ 8 + (mj.2.2.1 + 11) + 60 * d ≤ R.locals) (hce : n' - n0 ≤ R.cells) (hsl : sl + ms = sl') (hsR : sl' ≤ R.slots) (k : Kv γ h nL n0 p l e R s m args below meth c Z (pc + 3) (lv) (st) (n') (σ') (ν') (sl')) : Kv γ h nL n0 p l e R s m args below meth c Z (pc) (lv) (.ref k0 :: st) (n) (σ) (ν) (sl) := by
  intro H locs d0 ls hd0 hl hS hP
  obtain ⟨hx, hb, hml, hown, hts, hK, hAO, hG, hh, hlk, hr, hin⟩ := id C
  have hK1 : va_K (γ.2.1, γ.2.2.1) cls9 (ty9 γ) (s.setDrawn d0) := hK.1
  have hown1 : (s.setDrawn d0).vm.findClass own = some m.cls := hown
  obtain ⟨hnC, hfr, hPP⟩ := id hP
  subst hsl
  obtain ⟨g1, g2, g3, g4, g5, g6, g7, g8⟩ := hk
  have hnn := h8.1
  have hts1 := dr_words hts d0
  refine sz8 C h0 hS hP (fun hsz => ?_)
  have hw1 : ((st.map (trv γ.1)).map fun v => v.category).sum ≤ 8 := by rw [List.map_map]; simpa [Function.comp_def, trv_cat] using hW
  have hgd : GoodIn lw_w (pw9 mj) := gi9 (fun w hw => by
    rcases List.mem_cons.mp hw with rfl | h
    · rw [g5]; exact g4
    · exact h)
  have hK2 : K9 γ (s.setDrawn d0) := hK
  have hAO2 : AO8 (s.setDrawn d0) := AO8.same rfl hAO
  refine run8 (rest := st.map (trv γ.1)) h0 hnn hd0 (va_runIN_D (As := []) ⟨hx, hb, hml, hown1, hts1⟩ (h8.2 γ h l hG) ⟨va_cnB (host := RX9) 0 hts1 hgd (by show pw9 mj = _; rw [← g5]) rfl rfl (va_Nw.same rfl (rfl : s.vm = (s.setDrawn d0).vm) (hAO.2.2 _ g1)) (hts1 _ g3) ⟨g6.1, g6.2, g7⟩ ⟨hro.1, hro.2⟩, g8, hts1 _ g2⟩
    ⟨blind8, fun U hU hW => ⟨rfl, by rw [hU]; exact hsz, by rw [hU]; exact hP, K9.moved hW.alike hK2, AO8.warm hW hAO2⟩⟩ rfl rfl hl.1 rfl (lv_room hw1) hd ⟨by omega, hsR⟩) hS ?_
  intro H1 locs1 d1 hP1 hS1 hd1
  exact k H1 locs1 d1 ls hd1 hl hS1 hP1
theorem k_callV1 (C : KC γ h own cc nL n0 rt ini p s m args meth c) {mj : MI} {idx k0 ci d ms n' : Nat} {a0 : Value} {σ' : S9} {ν' : List (Nat × Nat)} (hd : decode cc pc = .ok (.invokevirtual idx, 3)) (hk : lkV own idx ci mj 1) (hs9 : sh9 k0 0 ci) (hkn : k0 < n) (hW : (st.map Value.category).sum ≤ 8) (h8 : C8 d ms mj [.ref k0, a0] n σ ν n' σ' ν') (h0 : n0 ≤ n) (hro : d + 1 ≤ R.frames ∧ 8 + (mj.2.2.1 + 11) + 60 * d ≤ R.locals) (hce : n' - n0 ≤ R.cells) (hsl : sl + ms = sl') (hsR : sl' ≤ R.slots) (k : Kv γ h nL n0 p l e R s m args below meth c Z (pc + 3) (lv) (st) (n') (σ') (ν') (sl')) : Kv γ h nL n0 p l e R s m args below meth c Z (pc) (lv) (a0 :: .ref k0 :: st) (n) (σ) (ν) (sl) := by
  intro H locs d0 ls hd0 hl hS hP
  obtain ⟨hx, hb, hml, hown, hts, hK, hAO, hG, hh, hlk, hr, hin⟩ := id C
  have hK1 : va_K (γ.2.1, γ.2.2.1) cls9 (ty9 γ) (s.setDrawn d0) := hK.1
  have hown1 : (s.setDrawn d0).vm.findClass own = some m.cls := hown
  obtain ⟨hnC, hfr, hPP⟩ := id hP
  subst hsl
  obtain ⟨g1, g2, g3, g3b, g4, g5, g6, g7, T, N, hc⟩ := hk
  obtain ⟨hk0, hs, -⟩ := hs9
  have hnn := h8.1
  have hts1 := dr_words hts d0
  refine sz8 C h0 hS hP (fun hsz => ?_)
  have hw1 : ((st.map (trv γ.1)).map fun v => v.category).sum ≤ 8 := by rw [List.map_map]; simpa [Function.comp_def, trv_cat] using hW
  have hg : (ws8 γ n σ ν)[k0]? = some (γ.1 k0, .inr (ci, (List.range (fkL.getD ci []).length).map (fun j => fv8 γ.1 σ ν k0 j (fk ci j)))) := (ws8_get hkn).trans (by rw [en8_O hs])
  have hK2 : K9 γ (s.setDrawn d0) := hK
  have hAO2 : AO8 (s.setDrawn d0) := AO8.same rfl hAO
  refine run8 (rest := st.map (trv γ.1)) h0 hnn hd0 (va_runV_D (As := [trv γ.1 a0]) ⟨hx, hb, hml, hown1, hts1⟩ (h8.2 γ h l hG) (cwV 1 hts1 (good9 (a := [.methodLink own idx mj.1, .instanceMethod mj.1, .selects mj.1.cls mj.1 mj.1, .initialized mj.1.cls]) (by simpa using ⟨g1, g2, g3, g3b⟩) g4) rfl rfl rfl ⟨rfl, g5.1, g5.2, g6⟩ ⟨hro.1, hro.2⟩)
    ⟨blind8, va_recv hK1 hPP hc hg, fun U hU hW => ⟨rfl, by rw [hU]; exact hsz, by rw [hU]; exact hP, K9.moved hW.alike hK2, AO8.warm hW hAO2⟩⟩ rfl rfl hl.1 rfl (lv_room hw1) hd ⟨by omega, hsR⟩) hS ?_
  intro H1 locs1 d1 hP1 hS1 hd1
  exact k H1 locs1 d1 ls hd1 hl hS1 hP1
end
