/-! ===== the world at the law's beginning ===== -/
def z9 : S9 := (fun _ _ => 0, fun _ _ => 0, fun _ _ => 0, fun _ _ => 0)
def full8 (ν : List (Nat × Nat)) (k : Nat) : Bool := match shp k with
  | (0, ci) => (List.range (fkL.getD ci []).length).all (fun j => decide (fk ci j < 2) || hv8 ν k j)
  | (1, _) => true
  | (2, _) => true
  | (3, _) => true
  | (4, _) => true
  | (5, _) => true
  | (6, n) => (List.range n).all (hv8 ν k)
  | (7, n) => (List.range n).all (hv8 ν k)
  | (_, _) => false
theorem P9_of8 {γ : G9} {σ : S9} {ν : List (Nat × Nat)} {H : Heap} (hf : ∀ k, k < NC → full8 ν k = true) (h : P8 γ NC σ ν H) : P9 γ σ H := by
  intro k q hk
  have hkn : k < NC := by have := (List.getElem?_eq_some_iff.mp hk).1; simpa using this
  rw [ws9_get hkn] at hk
  cases hk
  have h1 := h.2.2 k _ (ws8_get hkn)
  have h2 := hf k hkn
  have harr : ∀ {n i : Nat}, (List.range n).all (hv8 ν k) = true → va_at (γ.2.1, γ.2.2.1) cls9 (γ.1 k, .inl (γ.2.2.2 i, n, .inr (.inr (.inr (.inr (fun j => if hv8 ν k j then some (γ.1 (rfs k j)) else none)))))) H → va_at (γ.2.1, γ.2.2.1) cls9 (γ.1 k, .inl (γ.2.2.2 i, n, .inr (.inr (.inr (.inr (fun j => some (γ.1 (rfs k j)))))))) H := by
    intro n i ha hb
    have hb : H[γ.1 k]? = some (vp_cell _ _) := hb
    show H[γ.1 k]? = some (vp_cell _ _)
    rw [hb, vp_cell_q, vp_cell_q]
    refine congrArg some ?_
    unfold arrV
    congr 1
    apply Array.ext
    · simp
    · intro j h1 h2
      have hj : j < n := by simpa using h1
      simp only [Array.getElem_ofFn]
      rw [List.all_eq_true.mp ha j (List.mem_range.mpr hj)]
      rfl
  obtain ⟨kd, n, hs⟩ : ∃ kd n, shp k = (kd, n) := ⟨_, _, rfl⟩
  unfold full8 at h2
  rw [hs] at h2
  match kd, hs, h2 with
  | 0, hs, h2 =>
    rw [ent_O hs]
    rw [en8_O hs] at h1
    rw [List.map_congr_left (g := fun j => fvv γ.1 σ k j (fk n j)) (fun j hj => by
      have h3 := List.all_eq_true.mp h2 j hj
      rcases Nat.lt_or_ge (fk n j) 2 with q | q
      · rcases (show fk n j = 0 ∨ fk n j = 1 by omega) with q | q
        · rw [q]; rfl
        · rw [q]; rfl
      · have h4 : hv8 ν k j = true := by
          rw [show decide (fk n j < 2) = false by simpa using q, Bool.false_or] at h3
          exact h3
        obtain ⟨t, ht⟩ := Nat.exists_eq_add_of_le q
        rw [ht, Nat.add_comm]
        show (if _ then _ else _) = Value.ref _
        rw [h4]
        rfl)] at h1
    exact h1
  | 1, hs, h2 => rw [ent_I hs]; rw [en8_I hs] at h1; exact h1
  | 2, hs, h2 => rw [ent_L hs]; rw [en8_L hs] at h1; exact h1
  | 3, hs, h2 => rw [ent_F hs]; rw [en8_F hs] at h1; exact h1
  | 4, hs, h2 => rw [ent_D hs]; rw [en8_D hs] at h1; exact h1
  | 5, hs, h2 => rw [ent_B hs]; rw [en8_B hs] at h1; exact h1
  | 6, hs, h2 => rw [ent_S hs]; rw [en8_S hs] at h1; exact harr h2 h1
  | 7, hs, h2 => rw [ent_R hs]; rw [en8_R hs] at h1; exact harr h2 h1
  | kd + 8, hs, h2 => cases h2
/-- classes' numbers and slots -/
theorem cls8 {s : State} {args : Array Value} (hts : ∀ w ∈ lw_w, w.before args s = true) (i : Nat) : ∃ q : ClassId × (Nat → Nat), ∀ r : vw_C, cls9[i]? = some r → u_Kn s r.1 r.2.1 r.2.2 q.1 q.2 := by
  match i with
  | 0 => obtain ⟨a, b, h⟩ := u_known (n := 10) hts incX0 (hts _ (w9 164 (by decide +kernel) rfl)); exact ⟨(a, b), fun r hr => by cases hr; exact h⟩
  | 1 => obtain ⟨a, b, h⟩ := u_known (n := 2) hts incX1 (hts _ (w9 127 (by decide +kernel) rfl)); exact ⟨(a, b), fun r hr => by cases hr; exact h⟩
  | 2 => obtain ⟨a, b, h⟩ := u_known (n := 7) hts incX2 (hts _ (w9 242 (by decide +kernel) rfl)); exact ⟨(a, b), fun r hr => by cases hr; exact h⟩
  | 3 => obtain ⟨a, b, h⟩ := u_known (n := 8) hts incX3 (hts _ (w9 201 (by decide +kernel) rfl)); exact ⟨(a, b), fun r hr => by cases hr; exact h⟩
  | 4 => obtain ⟨a, b, h⟩ := u_known (n := 3) hts incX4 (hts _ (w9 142 (by decide +kernel) rfl)); exact ⟨(a, b), fun r hr => by cases hr; exact h⟩
  | 5 => obtain ⟨a, b, h⟩ := u_known (n := 10) hts incX5 (hts _ (w9 61 (by decide +kernel) rfl)); exact ⟨(a, b), fun r hr => by cases hr; exact h⟩
  | 6 => obtain ⟨a, b, h⟩ := u_known (n := 5) hts incX7 (hts _ (w9 269 (by decide +kernel) rfl)); exact ⟨(a, b), fun r hr => by cases hr; exact h⟩
  | 7 => obtain ⟨a, b, h⟩ := u_known (n := 10) hts incX9 (hts _ (w9 53 (by decide +kernel) rfl)); exact ⟨(a, b), fun r hr => by cases hr; exact h⟩
  | 8 => obtain ⟨a, b, h⟩ := u_known (n := 44) hts incX10 (hts _ (w9 833 (by decide +kernel) rfl)); exact ⟨(a, b), fun r hr => by cases hr; exact h⟩
  | i + 9 => exact ⟨(0, fun _ => 0), fun r hr => by cases hr⟩
abbrev tyL8 : List FieldType := [.int, .long, .float, .double, .byte, .object "RewritingTermination$Slot", .array .int]
theorem arr8 {s : State} {args : Array Value} (hts : ∀ w ∈ lw_w, w.before args s = true) (hAO : AO8 s) (i : Nat) : ∃ cA : ClassId, ∀ ty, tyL8[i]? = some ty → ArrOfT s cA ty ∧ va_RA s cA ty := by
  match i with
  | 0 => obtain ⟨cA, kA, comp, h1, h2, h3⟩ := Cond.arrayClass_spec (hts _ w8_I); exact ⟨cA, fun ty hty => by cases hty; exact ⟨fun n z => ⟨(fun k h => by cases h), kA, h2, comp, h3⟩, h1⟩⟩
  | 1 => obtain ⟨cA, kA, comp, h1, h2, h3⟩ := Cond.arrayClass_spec (hts _ w8_L); exact ⟨cA, fun ty hty => by cases hty; exact ⟨fun n z => ⟨(fun k h => by cases h), kA, h2, comp, h3⟩, h1⟩⟩
  | 2 => obtain ⟨cA, kA, comp, h1, h2, h3⟩ := Cond.arrayClass_spec (hts _ w8_F); exact ⟨cA, fun ty hty => by cases hty; exact ⟨fun n z => ⟨(fun k h => by cases h), kA, h2, comp, h3⟩, h1⟩⟩
  | 3 => obtain ⟨cA, kA, comp, h1, h2, h3⟩ := Cond.arrayClass_spec (hts _ w8_D); exact ⟨cA, fun ty hty => by cases hty; exact ⟨fun n z => ⟨(fun k h => by cases h), kA, h2, comp, h3⟩, h1⟩⟩
  | 4 => obtain ⟨cA, kA, comp, h1, h2, h3⟩ := Cond.arrayClass_spec (hts _ w8_B); exact ⟨cA, fun ty hty => by cases hty; exact ⟨fun n z => ⟨(fun k h => by cases h), kA, h2, comp, h3⟩, h1⟩⟩
  | 5 => obtain ⟨comp, cA, kA, h1, -, h2, h3, h4⟩ := Cond.arrayOver_spec hAO.1; exact ⟨cA, fun ty hty => by cases hty; exact ⟨fun n z => ⟨(fun k h => by cases h), kA, h2, comp, h3⟩, kA, comp, h2, h3, h1, h4⟩⟩
  | 6 => obtain ⟨comp, cA, kA, h1, -, h2, h3, h4⟩ := ao8_iff.mp hAO.2.1; exact ⟨cA, fun ty hty => by cases hty; exact ⟨fun n z => ⟨(fun k h => by cases h), kA, h2, comp, h3⟩, h4⟩⟩
  | i + 7 => exact ⟨0, fun ty hty => by cases hty⟩
theorem nst8_in : ∀ q ∈ nst8, Cond.methodLinkNest q.1 q.2.1 q.2.2 RX9 ∈ lw_tbl := by decide +kernel
theorem AO8_of {s : State} {args : Array Value} (htb : ∀ w ∈ lw_tbl, w.before args s = true) : AO8 s :=
  ⟨va_AO.of (htb (.arrayOver (.object RX7)) (List.mem_of_getElem? (i := 268) (by decide +kernel))), ao8_alike (Vm.Alike.refl s.vm) (htb (.arrayOver (.array .int)) (List.mem_of_getElem? (i := 67) (by decide +kernel))), fun q hq => va_Nw.of rfl (htb _ (nst8_in q hq))⟩
theorem world8 {s : State} {args : Array Value} (htb : ∀ w ∈ lw_tbl, w.before args s = true) (ad : Nat → Nat) : ∃ (dC : Nat → ClassId) (dI : Nat → Nat → Nat) (dA : Nat → ClassId), K9 (ad, dC, dI, dA) s := by
  have hts := lw_w_of htb
  have hAO := AO8_of htb
  refine ⟨fun i => (Classical.choose (cls8 hts i)).1, fun i => (Classical.choose (cls8 hts i)).2, fun i => Classical.choose (arr8 hts hAO i), ⟨fun i r hr => Classical.choose_spec (cls8 hts i) r hr, fun k q hq => ?_⟩, va_Nw.of rfl (htb _ (List.mem_of_getElem? (i := 511) (by decide +kernel)))⟩
  have hk : k < 7 := (List.getElem?_eq_some_iff.mp hq).1
  match k, hk, hq with
  | 0, _, hq => cases hq; exact Classical.choose_spec (arr8 hts hAO 0) _ rfl
  | 1, _, hq => cases hq; exact Classical.choose_spec (arr8 hts hAO 1) _ rfl
  | 2, _, hq => cases hq; exact Classical.choose_spec (arr8 hts hAO 2) _ rfl
  | 3, _, hq => cases hq; exact Classical.choose_spec (arr8 hts hAO 3) _ rfl
  | 4, _, hq => cases hq; exact Classical.choose_spec (arr8 hts hAO 4) _ rfl
  | 5, _, hq => cases hq; exact Classical.choose_spec (arr8 hts hAO 5) _ rfl
  | 6, _, hq => cases hq; exact Classical.choose_spec (arr8 hts hAO 6) _ rfl
theorem nw8_L_7 : nw8 R_law 7 7 10 := ⟨RX9, TX9, rfl, (w9 52 (by decide +kernel) rfl), (w9 53 (by decide +kernel) rfl), (w9 35 (by decide +kernel) rfl), incX9, rfl, tyX9, tyX9_ok, by decide +kernel⟩
theorem l8_L_9 : lkI8 R_law 9 mX9_init := ⟨(w9 54 (by decide +kernel) rfl), (w9 55 (by decide +kernel) rfl), (w9 35 (by decide +kernel) rfl), (w9 56 (by decide +kernel) rfl), rfl, ⟨by decide +kernel, by decide +kernel⟩, by decide +kernel, rfl⟩
theorem nw8_L_10 : nw8 R_law 10 8 44 := ⟨RX10, TX10, rfl, (w9 832 (by decide +kernel) rfl), (w9 833 (by decide +kernel) rfl), (w9 44 (by decide +kernel) rfl), incX10, rfl, tyX10, tyX10_ok, by decide +kernel⟩
theorem l8_L_12 : lkI8 R_law 12 mX10_init := ⟨(w9 834 (by decide +kernel) rfl), (w9 835 (by decide +kernel) rfl), (w9 44 (by decide +kernel) rfl), (w9 836 (by decide +kernel) rfl), rfl, ⟨by decide +kernel, by decide +kernel⟩, by decide +kernel, rfl⟩
def sgF : S9 := (sg_X10_init_97 (sg_X9_init_0 z9))
def nuF : List (Nat × Nat) := (nu_X10_init_97 (nu_X9_init_0 []))
theorem full_F : ∀ k, k < NC → full8 nuF k = true := by decide +kernel
theorem law_entry {γ : G9} {h : Nat} {p : Program} {l : Launch} {e : Env} {s : State} {m : MethodId} {args : Array Value} {below : List Frame} {meth : Method} {c : Code} {Z : State → Prop} (C : KC γ h R_law cL_law 4 0 ret false p s m args meth c) (kk : Kv γ h 4 0 p l e room_1 s m args below meth c Z 18 [.ref 130, .ref 0, .ref 97, .int (iI 0)] [] 130 sgF nuF 25171) : Kv γ h 4 0 p l e room_1 s m args below meth c Z 0 [.ref 130, .null, .null, .null] [] 0 z9 [] 0 := by
  refine k_new (sl' := 10) C dL_law_0 nw8_L_7 s_0 (by decide) (Nat.le_of_ble_eq_true rfl) rfl (Nat.le_of_ble_eq_true rfl) ?_
  refine k_n (n' := 1) rfl ?_
  refine k_dup C dL_law_3 rfl ?_
  refine k_callI (sl' := 3413) C dL_law_4 l8_L_9 (Nat.le_of_ble_eq_true rfl) (i_X9_init_0 _ _) (by decide) ⟨(Nat.le_of_ble_eq_true rfl), (Nat.le_of_ble_eq_true rfl)⟩ (Nat.le_of_ble_eq_true rfl) rfl (Nat.le_of_ble_eq_true rfl) ?_
  refine k_astore_n C dL_law_7 (by decide) rfl (lv' := [.ref 130, .ref 0, .null, .null]) rfl ?_
  refine k_new (sl' := 3457) C dL_law_8 nw8_L_10 s_97 (by decide) (Nat.le_of_ble_eq_true rfl) rfl (Nat.le_of_ble_eq_true rfl) ?_
  refine k_n (n' := 98) rfl ?_
  refine k_dup C dL_law_11 rfl ?_
  refine k_callI (sl' := 25171) C dL_law_12 l8_L_12 (Nat.le_of_ble_eq_true rfl) (i_X10_init_97 _ _) (by decide) ⟨(Nat.le_of_ble_eq_true rfl), (Nat.le_of_ble_eq_true rfl)⟩ (Nat.le_of_ble_eq_true rfl) rfl (Nat.le_of_ble_eq_true rfl) ?_
  refine k_astore_n C dL_law_15 (by decide) rfl (lv' := [.ref 130, .ref 0, .ref 97, .null]) rfl ?_
  refine k_iconst C dL_law_16 ?_
  refine k_istore_n C dL_law_17 (by decide) rfl (lv' := [.ref 130, .ref 0, .ref 97, .int (iI 0)]) rfl ?_
  exact kk
