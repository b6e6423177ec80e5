/-! ===== building the world: only the first n cells stand, some references are null yet ===== -/
def hv8 (ν : List (Nat × Nat)) (k j : Nat) : Bool := ν.any (fun q => q.1 == k && q.2 == j)
theorem hv8_cons (ν : List (Nat × Nat)) (a b k j : Nat) : hv8 ((a, b) :: ν) k j = ((a == k && b == j) || hv8 ν k j) := rfl
theorem hv8_ne {ν : List (Nat × Nat)} {a b k : Nat} (h : k ≠ a) (j : Nat) : hv8 ((a, b) :: ν) k j = hv8 ν k j := by
  rw [hv8_cons, show (a == k) = false by simpa using fun q => h q.symm]; rfl
def ml8 (a N : Nat) (ν : List (Nat × Nat)) : List (Nat × Nat) := (List.range N).map (fun j => (a, j)) ++ ν
theorem ml8_ne {ν : List (Nat × Nat)} {a N k : Nat} (h : k ≠ a) (j : Nat) : hv8 (ml8 a N ν) k j = hv8 ν k j := by
  unfold ml8 hv8
  rw [List.any_append]
  have : ((List.range N).map (fun j => (a, j))).any (fun q => q.1 == k && q.2 == j) = false := by
    rw [List.any_eq_false]
    intro x hx
    obtain ⟨i, -, rfl⟩ := List.mem_map.mp hx
    simpa using fun q => absurd q.symm h
  rw [this]; rfl
theorem ml8_eq {ν : List (Nat × Nat)} {a N j : Nat} (h : j < N) : hv8 (ml8 a N ν) a j = true := by
  unfold ml8 hv8
  rw [List.any_append]
  have : ((List.range N).map (fun j => (a, j))).any (fun q => q.1 == a && q.2 == j) = true := by
    rw [List.any_eq_true]
    exact ⟨(a, j), List.mem_map.mpr ⟨j, List.mem_range.mpr h, rfl⟩, by simp⟩
  rw [this]; rfl
def fv8 (ad : Nat → Nat) (σ : S9) (ν : List (Nat × Nat)) (k j : Nat) : Nat → Value
  | 0 => .int (iI (gI σ k j))
  | 1 => .long (lI (gL σ k j))
  | _ => if hv8 ν k j then .ref (ad (rfs k j)) else .null
def en8 (ad : Nat → Nat) (dA : Nat → ClassId) (σ : S9) (ν : List (Nat × Nat)) (k : Nat) : va_E := match shp k with
  | (0, ci) => .inr (ci, (List.range (fkL.getD ci []).length).map (fun j => fv8 ad σ ν k j (fk ci j)))
  | (1, n) => .inl (dA 0, n, .inl (fun j => iI (gI σ k (j : Int))))
  | (2, n) => .inl (dA 1, n, .inr (.inl (fun j => lI (gL σ k (j : Int)))))
  | (3, n) => .inl (dA 2, n, .inr (.inr (.inl (fun j => gF σ k (j : Int)))))
  | (4, n) => .inl (dA 3, n, .inr (.inr (.inr (.inl (fun j => gD σ k (j : Int))))))
  | (5, n) => .inl (dA 4, n, .inl (fun j => iI (gI σ k (j : Int))))
  | (6, n) => .inl (dA 5, n, .inr (.inr (.inr (.inr (fun j => if hv8 ν k j then some (ad (rfs k j)) else none)))))
  | (_, n) => .inl (dA 6, n, .inr (.inr (.inr (.inr (fun j => if hv8 ν k j then some (ad (rfs k j)) else none)))))
section
variable {ad : Nat → Nat} {dA : Nat → ClassId} {σ : S9} {ν ν' : List (Nat × Nat)} {k k' n : Nat}
theorem en8_I (h : shp k = (1, n)) : en8 ad dA σ ν k = .inl (dA 0, n, .inl (fun j => iI (gI σ k (j : Int)))) := by unfold en8; rw [h]; rfl
theorem en8_L (h : shp k = (2, n)) : en8 ad dA σ ν k = .inl (dA 1, n, .inr (.inl (fun j => lI (gL σ k (j : Int))))) := by unfold en8; rw [h]; rfl
theorem en8_F (h : shp k = (3, n)) : en8 ad dA σ ν k = .inl (dA 2, n, .inr (.inr (.inl (fun j => gF σ k (j : Int))))) := by unfold en8; rw [h]; rfl
theorem en8_D (h : shp k = (4, n)) : en8 ad dA σ ν k = .inl (dA 3, n, .inr (.inr (.inr (.inl (fun j => gD σ k (j : Int)))))) := by unfold en8; rw [h]; rfl
theorem en8_B (h : shp k = (5, n)) : en8 ad dA σ ν k = .inl (dA 4, n, .inl (fun j => iI (gI σ k (j : Int)))) := by unfold en8; rw [h]; rfl
theorem en8_S (h : shp k = (6, n)) : en8 ad dA σ ν k = .inl (dA 5, n, .inr (.inr (.inr (.inr (fun j => if hv8 ν k j then some (ad (rfs k j)) else none))))) := by unfold en8; rw [h]; rfl
theorem en8_R (h : shp k = (7, n)) : en8 ad dA σ ν k = .inl (dA 6, n, .inr (.inr (.inr (.inr (fun j => if hv8 ν k j then some (ad (rfs k j)) else none))))) := by unfold en8; rw [h]; rfl
theorem en8_O (h : shp k = (0, n)) : en8 ad dA σ ν k = .inr (n, (List.range (fkL.getD n []).length).map (fun j => fv8 ad σ ν k j (fk n j))) := by unfold en8; rw [h]; rfl
theorem en8_aI {f : Int → Int} (h : k' ≠ k) : en8 ad dA (aI σ k f) ν k' = en8 ad dA σ ν k' := by
  unfold en8
  have e1 : gI (aI σ k f) k' = gI σ k' := gI_aI_ne h
  have e2 : ∀ j t, fv8 ad (aI σ k f) ν k' j t = fv8 ad σ ν k' j t := by
    intro j t
    match t with
    | 0 => show Value.int _ = Value.int _; rw [e1]
    | 1 => rfl
    | _ + 2 => rfl
  split <;> simp only [e1, e2, gL_aI, gF_aI, gD_aI]
theorem en8_aL {f : Int → Int} (h : k' ≠ k) : en8 ad dA (aL σ k f) ν k' = en8 ad dA σ ν k' := by
  unfold en8
  have e1 : gL (aL σ k f) k' = gL σ k' := gL_aL_ne h
  have e2 : ∀ j t, fv8 ad (aL σ k f) ν k' j t = fv8 ad σ ν k' j t := by
    intro j t
    match t with
    | 0 => rfl
    | 1 => show Value.long _ = Value.long _; rw [e1]
    | _ + 2 => rfl
  split <;> simp only [e1, e2, gI_aL, gF_aL, gD_aL]
theorem en8_aF {f : Int → UInt32} (h : k' ≠ k) : en8 ad dA (aF σ k f) ν k' = en8 ad dA σ ν k' := by
  unfold en8
  have e1 : gF (aF σ k f) k' = gF σ k' := gF_aF_ne h
  have e2 : ∀ j t, fv8 ad (aF σ k f) ν k' j t = fv8 ad σ ν k' j t := by
    intro j t
    match t with
    | 0 => rfl
    | 1 => rfl
    | _ + 2 => rfl
  split <;> simp only [e1, e2, gI_aF, gL_aF, gD_aF]
theorem en8_nu (h : ∀ j, hv8 ν' k j = hv8 ν k j) : en8 ad dA σ ν' k = en8 ad dA σ ν k := by
  unfold en8
  have e2 : ∀ j t, fv8 ad σ ν' k j t = fv8 ad σ ν k j t := by
    intro j t
    match t with
    | 0 => rfl
    | 1 => rfl
    | _ + 2 => show (if _ then _ else _) = (if _ then _ else _); rw [h]
  split <;> simp only [e2, h]
/-- a field of an object, set -/
theorem fsX8 {ci j : Nat} {v : Value} {σ' : S9} (hs : shp k = (0, ci)) (hv : fv8 ad σ' ν' k j (fk ci j) = v) (ho : ∀ i, i ≠ j → fv8 ad σ' ν' k i (fk ci i) = fv8 ad σ ν k i (fk ci i)) : (Sum.inr (ci, ((List.range (fkL.getD ci []).length).map (fun j => fv8 ad σ ν k j (fk ci j))).set j v) : va_E) = en8 ad dA σ' ν' k := by
  rw [en8_O hs]
  congr 2
  apply List.ext_getElem?
  intro i
  rw [List.getElem?_set, List.length_map, List.length_range]
  by_cases hi : i < (fkL.getD ci []).length
  · by_cases hij : j = i
    · subst hij
      rw [if_pos rfl, if_pos hi, List.getElem?_map, List.getElem?_range hi]
      exact congrArg some hv.symm
    · rw [if_neg hij, List.getElem?_map, List.getElem?_map, List.getElem?_range hi]
      exact congrArg some (ho i (fun q => hij q.symm)).symm
  · have h1 : (List.range (fkL.getD ci []).length)[i]? = none := List.getElem?_eq_none (by simpa using Nat.not_lt.mp hi)
    rw [List.getElem?_map, List.getElem?_map, h1]
    by_cases hij : j = i
    · rw [if_pos hij, if_neg (by omega)]; rfl
    · rw [if_neg hij]; rfl
end
def z8 (σ : S9) (k : Nat) : Prop := (∀ j, gI σ k j = 0) ∧ (∀ j, gL σ k j = 0) ∧ (∀ j, gF σ k j = 0) ∧ ∀ j, gD σ k j = 0
abbrev ws8 (γ : G9) (n : Nat) (σ : S9) (ν : List (Nat × Nat)) : va_W := (List.range n).map (fun k => (γ.1 k, en8 γ.1 γ.2.2.2 σ ν k))
def Fr8 (n : Nat) (σ : S9) (ν : List (Nat × Nat)) : Prop := ∀ k, n ≤ k → z8 σ k ∧ ∀ j, hv8 ν k j = false
def P8 (γ : G9) (n : Nat) (σ : S9) (ν : List (Nat × Nat)) (H : Heap) : Prop := n ≤ NC ∧ Fr8 n σ ν ∧ va_P (γ.2.1, γ.2.2.1) cls9 (ws8 γ n σ ν) H
/-- the addresses go up by one -/
def gS8 (γ : G9) (h : Nat) : Prop := ∀ k, k < NC → γ.1 k = h + k
/-- the links to constructors of nest mates -/
abbrev nst8 : List (String × Nat × MethodName) := [(RX9, 27, yX1_init), (RX9, 34, yX4_init), (RX9, 41, yX0_init), (RX9, 48, yX3_init), (RX3, 1, yX6_init), (RX9, 55, yX2_init), (RX2, 3, yX6_init), (RX9, 70, yX7_init)]
/-- classes of arrays over the class c -/
def arq8 (c : ClassId) (x : Class) : Bool := match x.kind with
  | .array d _ => d == c
  | _ => false
/-- what the tables say of int[][] -/
theorem ao8_iff {a : Array Value} {U : State} : (Cond.arrayOver (.array .int)).before a U = true ↔ ∃ cI cA k, U.vm.findClass ("[" ++ FieldType.int.toString) = some cI ∧ U.vm.classes.findIdx? (arq8 cI) = some cA ∧ U.vm.classes[cA]? = some k ∧ k.kind = .array cI (.array .int) ∧ U.vm.findClass ("[" ++ (FieldType.array .int).toString) = some cA := by
  have hval : (Cond.arrayOver (.array .int)).before a U = true ↔ ((U.vm.findClass ("[" ++ FieldType.int.toString)).bind fun cI => (U.vm.classes.findIdx? (arq8 cI)).bind fun cA => (U.vm.classes[cA]?).map fun (k : Class) => match k.kind with
      | .array _ ty => decide (ty = .array .int) && decide (U.vm.findClass ("[" ++ (FieldType.array .int).toString) = some cA)
      | _ => false) = some true := by
    simp only [Cond.before, Cond.holds, Cond.value, beq_iff_eq]
    rfl
  rw [hval, Option.bind_eq_some_iff]
  constructor
  · rintro ⟨cI, h1, h2⟩
    obtain ⟨cA, h3, h4⟩ := Option.bind_eq_some_iff.mp h2
    obtain ⟨k, h5, h6⟩ := Option.map_eq_some_iff.mp h4
    obtain ⟨hlt, h7, -⟩ := Array.findIdx?_eq_some_iff_getElem.mp h3
    rw [(Array.getElem?_eq_some_iff.mp h5).2] at h7
    unfold arq8 at h7
    cases hk : k.kind with
    | array d ty =>
      rw [hk] at h6 h7
      have h8 : d = cI := by simpa using h7
      have h9 : ty = .array .int ∧ U.vm.findClass ("[" ++ (FieldType.array .int).toString) = some cA := by simpa only [Bool.and_eq_true, decide_eq_true_eq] using h6
      exact ⟨cI, cA, k, h1, h3, h5, by rw [hk, h8, h9.1], h9.2⟩
    | _ => rw [hk] at h7; cases h7
  · rintro ⟨cI, cA, k, h1, h3, h5, h6, h7⟩
    refine ⟨cI, h1, Option.bind_eq_some_iff.mpr ⟨cA, h3, Option.map_eq_some_iff.mpr ⟨k, h5, ?_⟩⟩⟩
    rw [h6]
    show (decide _ && decide _) = true
    rw [decide_eq_true (rfl : FieldType.array .int = .array .int), decide_eq_true h7]
    rfl
theorem ao8_alike {a b : Array Value} {U V : State} (hal : U.vm.Alike V.vm) (h : (Cond.arrayOver (.array .int)).before a U = true) : (Cond.arrayOver (.array .int)).before b V = true := by
  obtain ⟨cI, cA, k, h1, h3, h5, h6, h7⟩ := ao8_iff.mp h
  obtain ⟨k', hk', ek⟩ := hal.2.2 _ _ h5
  exact ao8_iff.mpr ⟨cI, cA, k', by rw [hal.findClass]; exact h1, by rw [hal.findIdx?_eqK _ (fun _ => rfl)]; exact h3, hk', by rw [ek]; exact h6, by rw [hal.findClass]; exact h7⟩
def AO8 (U : State) : Prop := va_AO RX7 U ∧ (Cond.arrayOver (.array .int)).before #[] U = true ∧ ∀ q ∈ nst8, va_Nw (.methodLinkNest q.1 q.2.1 q.2.2 RX9) U
theorem AO8.warm {s U : State} (hW : s.WarmedH U.vm) (h : AO8 s) : AO8 U := ⟨va_AO.moved hW.alike h.1, ao8_alike hW.alike h.2.1, fun q hq => va_Nw.warmM hW (h.2.2 q hq)⟩
theorem AO8.same {u U : State} (hvm : u.vm = U.vm) (h : AO8 u) : AO8 U := ⟨va_AO.moved (hvm ▸ Vm.Alike.refl _) h.1, ao8_alike (hvm ▸ Vm.Alike.refl _) h.2.1, fun q hq => va_Nw.same rfl hvm (h.2.2 q hq)⟩
section
variable {γ : G9} {h n k : Nat} {σ σ' : S9} {ν ν' : List (Nat × Nat)}
theorem ws8_get (hk : k < n) : (ws8 γ n σ ν)[k]? = some (γ.1 k, en8 γ.1 γ.2.2.2 σ ν k) := by
  rw [List.getElem?_map, List.getElem?_range hk]; rfl
theorem ws8_lt {x : Nat × va_E} (hx : (ws8 γ n σ ν)[k]? = some x) : k < n := by
  have := (List.getElem?_eq_some_iff.mp hx).1; simpa using this
theorem ws8_D (hG : gS8 γ h) (hn : n ≤ NC) : va_D (fun q => h ≤ q) (ws8 γ n σ ν) := by
  refine ⟨fun i j p q hi hj hpq => ?_, fun k q hk => ?_⟩
  · have h1 := ws8_lt hi
    have h2 := ws8_lt hj
    rw [ws8_get h1] at hi
    rw [ws8_get h2] at hj
    cases hi
    cases hj
    have e := hpq
    simp only at e
    rw [hG i (by omega), hG j (by omega)] at e
    omega
  · have h1 := ws8_lt hk
    rw [ws8_get h1] at hk
    cases hk
    show h ≤ γ.1 k
    rw [hG k (by omega)]
    omega
theorem ws8_set {e : va_E} (he : e = en8 γ.1 γ.2.2.2 σ' ν' k) (hne : ∀ k' : Nat, k' ≠ k → en8 γ.1 γ.2.2.2 σ' ν' k' = en8 γ.1 γ.2.2.2 σ ν k') : (ws8 γ n σ ν).set k (γ.1 k, e) = ws8 γ n σ' ν' := by
  subst he
  apply List.ext_getElem?
  intro i
  by_cases hi : i < n
  · rw [ws8_get hi, List.getElem?_set]
    by_cases hik : k = i
    · subst hik
      simp [hi]
    · rw [if_neg hik, ws8_get hi, hne i (fun q => hik q.symm)]
  · rw [List.getElem?_eq_none (by simpa using Nat.not_lt.mp hi), List.getElem?_eq_none (by simpa using Nat.not_lt.mp hi)]
theorem ws8_push : ws8 γ (n + 1) σ ν = ws8 γ n σ ν ++ [(γ.1 n, en8 γ.1 γ.2.2.2 σ ν n)] := by
  show (List.range (n + 1)).map _ = _
  rw [List.range_succ, List.map_append]; rfl
theorem Fr8_aI {i x : Int} (hf : Fr8 n σ ν) (hk : k < n) : Fr8 n (sI σ k i x) ν := fun k' hk' => by
  obtain ⟨⟨a, b, c, d⟩, e⟩ := hf k' hk'
  exact ⟨⟨fun j => by rw [gI_aI_ne (by omega)]; exact a j, fun j => by rw [gL_aI]; exact b j, fun j => by rw [gF_aI]; exact c j, fun j => by rw [gD_aI]; exact d j⟩, e⟩
theorem Fr8_aL {i x : Int} (hf : Fr8 n σ ν) (hk : k < n) : Fr8 n (sL σ k i x) ν := fun k' hk' => by
  obtain ⟨⟨a, b, c, d⟩, e⟩ := hf k' hk'
  exact ⟨⟨fun j => by rw [gI_aL]; exact a j, fun j => by rw [gL_aL_ne (by omega)]; exact b j, fun j => by rw [gF_aL]; exact c j, fun j => by rw [gD_aL]; exact d j⟩, e⟩
theorem Fr8_aF {i : Int} {x : UInt32} (hf : Fr8 n σ ν) (hk : k < n) : Fr8 n (sF σ k i x) ν := fun k' hk' => by
  obtain ⟨⟨a, b, c, d⟩, e⟩ := hf k' hk'
  exact ⟨⟨fun j => by rw [gI_aF]; exact a j, fun j => by rw [gL_aF]; exact b j, fun j => by rw [gF_aF_ne (by omega)]; exact c j, fun j => by rw [gD_aF]; exact d j⟩, e⟩
theorem Fr8_nu {j : Nat} (hf : Fr8 n σ ν) (hk : k < n) : Fr8 n σ ((k, j) :: ν) := fun k' hk' => ⟨(hf k' hk').1, fun i => by rw [hv8_ne (by omega)]; exact (hf k' hk').2 i⟩
theorem Fr8_ml {N : Nat} (hf : Fr8 n σ ν) : Fr8 (n + (1 + N)) σ (ml8 n N ν) := fun k' hk' => ⟨(hf k' (by omega)).1, fun i => by rw [ml8_ne (by omega)]; exact (hf k' (by omega)).2 i⟩
theorem Fr8_up {n' : Nat} (hf : Fr8 n σ ν) (hn : n ≤ n') : Fr8 n' σ ν := fun k' hk' => hf k' (by omega)
end
/-! ===== the judgement ===== -/
/-- rt: the answer's type; ini: whether it is a constructor; n0: how many cells stood at the method's beginning -/
def KC (γ : G9) (h : Nat) (own : String) (cc : ByteArray) (nL n0 : Nat) (rt : Option FieldType) (ini : Bool) (p : Program) (s : State) (m : MethodId) (args : Array Value) (meth : Method) (c : Code) : Prop :=
  p.tables.exec = Jvm.exec ∧ c.code = cc ∧ c.maxLocals = nL ∧ s.vm.findClass own = some m.cls ∧ (∀ w ∈ lw_w, w.before args s = true) ∧ K9 γ s ∧ AO8 s ∧ gS8 γ h ∧ s.heap.size = h + n0 ∧ meth.locks = false ∧ meth.sig.returnType = rt ∧ (ini = true → meth.name = "<init>")
def Kv (γ : G9) (h nL n0 : Nat) (p : Program) (l : Launch) (e : Env) (R : Room) (s : State) (m : MethodId) (args : Array Value) (below : List Frame) (meth : Method) (c : Code) (Z : State → Prop) (pc : Nat) (lv st : List Value) (n : Nat) (σ : S9) (ν : List (Nat × Nat)) (sl : Nat) : Prop :=
  ∀ (H : Heap) (locs : List Loc) (d0 : Drawn) (ls : Array Slot), s.drawn.sameBut d0 lw_cs → lvOK γ.1 ls nL lv → va_S (fun q => h ≤ q) s.heap H locs → P8 γ n σ ν H → W p l e R (s.setDrawn d0) m args below meth c H locs (n - n0) sl Z (F0 m pc ls (st.map (trv γ.1)))
def nw8 (own : String) (idx ci N : Nat) : Prop := ∃ (C0 : String) (T : u_T), cls9[ci]? = some (C0, T, N) ∧ Cond.classLink own idx C0 ∈ lw_w ∧ Cond.instantiable C0 N ∈ lw_w ∧ Cond.initialized C0 ∈ lw_w ∧ (∀ w ∈ u_ws C0 T N, w ∈ lw_w) ∧ (fkL.getD ci []).length = N ∧
  ∃ ty : Nat → FieldType, (∀ k, k < N → parseFieldDescriptor (T k).2.2.1 = some (ty k)) ∧ ∀ j, j < N → (fk ci j = 0 ∧ defaultValue (ty j) = .int 0) ∨ (fk ci j = 1 ∧ defaultValue (ty j) = .long 0) ∨ (fk ci j = 2 ∧ defaultValue (ty j) = .null)

theorem w8_I : Cond.arrayClass .int ∈ lw_w := w9 124 (by decide +kernel) rfl
theorem w8_L : Cond.arrayClass .long ∈ lw_w := w9 123 (by decide +kernel) rfl
theorem w8_F : Cond.arrayClass .float ∈ lw_w := w9 125 (by decide +kernel) rfl
theorem w8_D : Cond.arrayClass .double ∈ lw_w := w9 293 (by decide +kernel) rfl
theorem w8_B : Cond.arrayClass .byte ∈ lw_w := w9 140 (by decide +kernel) rfl
/-- a field that is a reference: put by a constructor -/
def fr8 (own : String) (idx ci j : Nat) (fin : Bool) : Prop := fd9 own idx ci j 2 ∧ ∃ ty0 : Nat → FieldType, (∀ (T : u_T) (N : Nat) {C0 : String}, cls9[ci]? = some (C0, T, N) → ∀ k, k < N → parseFieldDescriptor (T k).2.2.1 = some (ty0 k)) ∧ (∀ (T : u_T) (N : Nat) {C0 : String}, cls9[ci]? = some (C0, T, N) → ∀ a, a < N → ∀ b, b < N → a ≠ b → (T a).2.1 ≠ (T b).2.1) ∧ (∀ (T : u_T) (N : Nat) {C0 : String}, cls9[ci]? = some (C0, T, N) → (T j).2.2.2 = fin ∧ (fin = true → (T j).1 = own)) ∧ ∃ ty : FieldType, (∀ (T : u_T) (N : Nat) {C0 : String}, cls9[ci]? = some (C0, T, N) → parseFieldDescriptor (T j).2.2.1 = some ty) ∧ ∀ a : Nat, narrow ty (.ref a) = .ref a ∧ fits ty (.ref a) = true
section
variable {γ : G9} {h nL n0 : Nat} {own : String} {cc : ByteArray} {rt : Option FieldType} {ini : Bool} {p : Program} {l : Launch} {e : Env} {R : Room} {s : State} {m : MethodId} {args : Array Value} {below : List Frame} {meth : Method} {c : Code} {Z : State → Prop} {pc : Nat} {lv lv' st : List Value} {n sl sl' : Nat} {σ : S9} {ν : List (Nat × Nat)}
theorem k_aload_n (C : KC γ h own cc nL n0 rt ini p s m args meth c) {i : Fin 4} {z : Nat} (hd : decode cc pc = .ok (.aload_n i, 1)) (hg : lv[(i : Nat)]? = some (.ref z)) (k : Kv γ h nL n0 p l e R s m args below meth c Z (pc + 1) (lv) (.ref z :: st) (n) (σ) (ν) (sl)) : Kv γ h nL n0 p l e R s m args below meth c Z (pc) (lv) (st) (n) (σ) (ν) (sl) := by
  intro H locs d0 ls hd0 hl hS hP
  obtain ⟨hx, hb, hml, hown, hts, hK, hAO, hG, hh, hlk, hr, hin⟩ := id C
  refine lv_aload_n hx hb hd rfl (hl.2.2 _ _ hg (fun h => by cases h)) ?_
  exact k H locs d0 ls hd0 hl hS hP
theorem k_iload_n (C : KC γ h own cc nL n0 rt ini p s m args meth c) {i : Fin 4} {z : Int} (hd : decode cc pc = .ok (.iload_n i, 1)) (hg : lv[(i : Nat)]? = some (.int (iI z))) (k : Kv γ h nL n0 p l e R s m args below meth c Z (pc + 1) (lv) (.int (iI z) :: st) (n) (σ) (ν) (sl)) : Kv γ h nL n0 p l e R s m args below meth c Z (pc) (lv) (st) (n) (σ) (ν) (sl) := by
  intro H locs d0 ls hd0 hl hS hP
  obtain ⟨hx, hb, hml, hown, hts, hK, hAO, hG, hh, hlk, hr, hin⟩ := id C
  refine lv_iload_n hx hb hd rfl (hl.2.2 _ _ hg (fun h => by cases h)) ?_
  exact k H locs d0 ls hd0 hl hS hP
theorem k_istore_n (C : KC γ h own cc nL n0 rt ini p s m args meth c) {i : Fin 4} {z : Int} (hd : decode cc pc = .ok (.istore_n i, 1)) (hn : (i : Nat) < nL) (hc : c1A lv (i : Nat) = true) (hlv : lv.set (i : Nat) (.int (iI z)) = lv') (k : Kv γ h nL n0 p l e R s m args below meth c Z (pc + 1) (lv') (st) (n) (σ) (ν) (sl)) : Kv γ h nL n0 p l e R s m args below meth c Z (pc) (lv) (.int (iI z) :: st) (n) (σ) (ν) (sl) := by
  intro H locs d0 ls hd0 hl hS hP
  obtain ⟨hx, hb, hml, hown, hts, hK, hAO, hG, hh, hlk, hr, hin⟩ := id C
  refine lv_istore_n hx hb hd rfl (lvOK_has hl) hn rfl (fun ls hl2 => ?_)
  have hl := lvOK_st1 (ad := γ.1) (v := .int (iI z)) hc hlv hl2
  exact k H locs d0 ls hd0 hl hS hP
theorem k_astore_n (C : KC γ h own cc nL n0 rt ini p s m args meth c) {i : Fin 4} {z : Nat} (hd : decode cc pc = .ok (.astore_n i, 1)) (hn : (i : Nat) < nL) (hc : c1A lv (i : Nat) = true) (hlv : lv.set (i : Nat) (.ref z) = lv') (k : Kv γ h nL n0 p l e R s m args below meth c Z (pc + 1) (lv') (st) (n) (σ) (ν) (sl)) : Kv γ h nL n0 p l e R s m args below meth c Z (pc) (lv) (.ref z :: st) (n) (σ) (ν) (sl) := by
  intro H locs d0 ls hd0 hl hS hP
  obtain ⟨hx, hb, hml, hown, hts, hK, hAO, hG, hh, hlk, hr, hin⟩ := id C
  refine lv_astore_n hx hb hd rfl (lvOK_has hl) hn rfl (fun ls hl2 => ?_)
  have hl := lvOK_st1 (ad := γ.1) (v := .ref z) hc hlv hl2
  exact k H locs d0 ls hd0 hl hS hP
theorem k_iinc (C : KC γ h own cc nL n0 rt ini p s m args meth c) {i : Nat} {w z : Int} (hd : decode cc pc = .ok (.iinc i w, 3)) (hg : lv[i]? = some (.int (iI z))) (hn : i < nL) (hc : c1A lv i = true) (hlv : lv.set i (.int (iI (z + w))) = lv') (k : Kv γ h nL n0 p l e R s m args below meth c Z (pc + 3) (lv') (st) (n) (σ) (ν) (sl)) : Kv γ h nL n0 p l e R s m args below meth c Z (pc) (lv) (st) (n) (σ) (ν) (sl) := by
  intro H locs d0 ls hd0 hl hS hP
  obtain ⟨hx, hb, hml, hown, hts, hK, hAO, hG, hh, hlk, hr, hin⟩ := id C
  obtain ⟨q, hq⟩ := List.getElem?_of_mem (mem_prs (ad := γ.1) (lv := lv) (q := (i, .int (iI z))).mpr ⟨.int (iI z), hg, (fun h => by cases h), rfl⟩)
  refine lv_iinc (v := iI (z + w)) hx hb hd (lvOK_has hl) hq (iI_add z w).symm hn rfl (fun ls hl2 => ?_)
  have hl := lvOK_st1 (ad := γ.1) (v := .int (iI (z + w))) hc hlv hl2
  exact k H locs d0 ls hd0 hl hS hP
theorem k_iconst (C : KC γ h own cc nL n0 rt ini p s m args meth c) {z : Int} (hd : decode cc pc = .ok (.iconst z, 1)) (k : Kv γ h nL n0 p l e R s m args below meth c Z (pc + 1) (lv) (.int (iI z) :: st) (n) (σ) (ν) (sl)) : Kv γ h nL n0 p l e R s m args below meth c Z (pc) (lv) (st) (n) (σ) (ν) (sl) := by
  intro H locs d0 ls hd0 hl hS hP
  obtain ⟨hx, hb, hml, hown, hts, hK, hAO, hG, hh, hlk, hr, hin⟩ := id C
  exact lv_iconst hx hb hd rfl (k H locs d0 ls hd0 hl hS hP)
theorem k_bipush (C : KC γ h own cc nL n0 rt ini p s m args meth c) {z : Int} (hd : decode cc pc = .ok (.bipush z, 2)) (hn : -128 ≤ z ∧ z < 128) (k : Kv γ h nL n0 p l e R s m args below meth c Z (pc + 2) (lv) (.int (iI z) :: st) (n) (σ) (ν) (sl)) : Kv γ h nL n0 p l e R s m args below meth c Z (pc) (lv) (st) (n) (σ) (ν) (sl) := by
  intro H locs d0 ls hd0 hl hS hP
  obtain ⟨hx, hb, hml, hown, hts, hK, hAO, hG, hh, hlk, hr, hin⟩ := id C
  exact lv_bipush hx hb hd (Int8.toInt32_ofInt (by rw [Int8.toInt_minValue]; omega) (by rw [Int8.toInt_maxValue]; omega)) (k H locs d0 ls hd0 hl hS hP)
theorem k_sipush (C : KC γ h own cc nL n0 rt ini p s m args meth c) {z : Int} (hd : decode cc pc = .ok (.sipush z, 3)) (hn : -32768 ≤ z ∧ z < 32768) (k : Kv γ h nL n0 p l e R s m args below meth c Z (pc + 3) (lv) (.int (iI z) :: st) (n) (σ) (ν) (sl)) : Kv γ h nL n0 p l e R s m args below meth c Z (pc) (lv) (st) (n) (σ) (ν) (sl) := by
  intro H locs d0 ls hd0 hl hS hP
  obtain ⟨hx, hb, hml, hown, hts, hK, hAO, hG, hh, hlk, hr, hin⟩ := id C
  exact lv_sipush hx hb hd (Int16.toInt32_ofInt (by rw [Int16.toInt_minValue]; omega) (by rw [Int16.toInt_maxValue]; omega)) (k H locs d0 ls hd0 hl hS hP)
theorem k_lconst0 (C : KC γ h own cc nL n0 rt ini p s m args meth c) (hd : decode cc pc = .ok (.lconst 0, 1)) (k : Kv γ h nL n0 p l e R s m args below meth c Z (pc + 1) (lv) (.long (lI 0) :: st) (n) (σ) (ν) (sl)) : Kv γ h nL n0 p l e R s m args below meth c Z (pc) (lv) (st) (n) (σ) (ν) (sl) := by
  intro H locs d0 ls hd0 hl hS hP
  obtain ⟨hx, hb, hml, hown, hts, hK, hAO, hG, hh, hlk, hr, hin⟩ := id C
  exact lv_lconst (v := lI 0) hx hb hd rfl (k H locs d0 ls hd0 hl hS hP)
theorem k_fconst1 (C : KC γ h own cc nL n0 rt ini p s m args meth c) (hd : decode cc pc = .ok (.fconst 1, 1)) (k : Kv γ h nL n0 p l e R s m args below meth c Z (pc + 1) (lv) (.float 0x3f800000 :: st) (n) (σ) (ν) (sl)) : Kv γ h nL n0 p l e R s m args below meth c Z (pc) (lv) (st) (n) (σ) (ν) (sl) := by
  intro H locs d0 ls hd0 hl hS hP
  obtain ⟨hx, hb, hml, hown, hts, hK, hAO, hG, hh, hlk, hr, hin⟩ := id C
  exact lv_fconst1 hx hb hd (k H locs d0 ls hd0 hl hS hP)
theorem k_dup (C : KC γ h own cc nL n0 rt ini p s m args meth c) {v : Value} (hd : decode cc pc = .ok (.dup, 1)) (hc : v.category = 1) (k : Kv γ h nL n0 p l e R s m args below meth c Z (pc + 1) (lv) (v :: v :: st) (n) (σ) (ν) (sl)) : Kv γ h nL n0 p l e R s m args below meth c Z (pc) (lv) (v :: st) (n) (σ) (ν) (sl) := by
  intro H locs d0 ls hd0 hl hS hP
  obtain ⟨hx, hb, hml, hown, hts, hK, hAO, hG, hh, hlk, hr, hin⟩ := id C
  exact lv_dup hx hb hd (by rw [trv_cat]; exact hc) (k H locs d0 ls hd0 hl hS hP)
theorem k_goto (C : KC γ h own cc nL n0 rt ini p s m args meth c) {off : Int} {tgt : Nat} (hd : decode cc pc = .ok (.goto off, 3)) (ht : (pc : Int) + off = (tgt : Int)) (k : Kv γ h nL n0 p l e R s m args below meth c Z (tgt) (lv) (st) (n) (σ) (ν) (sl)) : Kv γ h nL n0 p l e R s m args below meth c Z (pc) (lv) (st) (n) (σ) (ν) (sl) := by
  intro H locs d0 ls hd0 hl hS hP
  obtain ⟨hx, hb, hml, hown, hts, hK, hAO, hG, hh, hlk, hr, hin⟩ := id C
  exact lv_goto hx hb hd ht (k H locs d0 ls hd0 hl hS hP)
theorem k_geT (C : KC γ h own cc nL n0 rt ini p s m args meth c) {a b off : Int} {tgt : Nat} (hd : decode cc pc = .ok (.if_icmp .ge off, 3)) (ht : (pc : Int) + off = (tgt : Int)) (hr9 : (-2147483648 ≤ a ∧ a < 2147483648) ∧ (-2147483648 ≤ b ∧ b < 2147483648)) (hq : b ≤ a) (k : Kv γ h nL n0 p l e R s m args below meth c Z (tgt) (lv) (st) (n) (σ) (ν) (sl)) : Kv γ h nL n0 p l e R s m args below meth c Z (pc) (lv) (.int (iI b) :: .int (iI a) :: st) (n) (σ) (ν) (sl) := by
  intro H locs d0 ls hd0 hl hS hP
  obtain ⟨hx, hb, hml, hown, hts, hK, hAO, hG, hh, hlk, hr, hin⟩ := id C
  refine lv_icmp_ge hx hb hd ht (fun q => ?_) (fun q => absurd ((iI_le ⟨hr9.2, hr9.1⟩).mpr hq) q)
  exact k H locs d0 ls hd0 hl hS hP
theorem k_geF (C : KC γ h own cc nL n0 rt ini p s m args meth c) {a b off : Int} (hd : decode cc pc = .ok (.if_icmp .ge off, 3)) {tgt : Nat} (ht : (pc : Int) + off = (tgt : Int)) (hr9 : (-2147483648 ≤ a ∧ a < 2147483648) ∧ (-2147483648 ≤ b ∧ b < 2147483648)) (hq : a < b) (k : Kv γ h nL n0 p l e R s m args below meth c Z (pc + 3) (lv) (st) (n) (σ) (ν) (sl)) : Kv γ h nL n0 p l e R s m args below meth c Z (pc) (lv) (.int (iI b) :: .int (iI a) :: st) (n) (σ) (ν) (sl) := by
  intro H locs d0 ls hd0 hl hS hP
  obtain ⟨hx, hb, hml, hown, hts, hK, hAO, hG, hh, hlk, hr, hin⟩ := id C
  refine lv_icmp_ge hx hb hd ht (fun q => absurd ((iI_le ⟨hr9.2, hr9.1⟩).mp q) (by omega)) (fun q => ?_)
  exact k H locs d0 ls hd0 hl hS hP
theorem sz8 (C : KC γ h own cc nL n0 rt ini p s m args meth c) {H : Heap} {locs : List Loc} {d0 : Drawn} {g : JFrame} (h0 : n0 ≤ n) (hS : va_S (fun q => h ≤ q) s.heap H locs) (hP : P8 γ n σ ν H) (kk : H.size = h + n → W p l e R (s.setDrawn d0) m args below meth c H locs (n - n0) sl Z g) : W p l e R (s.setDrawn d0) m args below meth c H locs (n - n0) sl Z g := by
  intro T hT X
  obtain ⟨hx, hb, hml, hown, hts, hK, hAO, hG, hh, -⟩ := id C
  have h1 : T.heap.size ≤ s.heap.size + (n - n0) := X.same.2.2.1
  have h2 : s.heap.size ≤ H.size := hS.1
  obtain ⟨hnC, hfr, hPP⟩ := hP
  have h3 : n0 < n → h + n ≤ H.size := fun q => by
    have := (hPP (n - 1) _ (ws8_get (by omega))).lt
    rw [show ((γ.1 (n - 1), en8 γ.1 γ.2.2.2 σ ν (n - 1)) : Nat × va_E).1 = γ.1 (n - 1) from rfl, hG (n - 1) (by omega)] at this
    omega
  refine kk ?_ T hT X
  rw [hT] at h1
  by_cases q : n0 < n
  · have := h3 q; omega
  · omega
theorem k_new (C : KC γ h own cc nL n0 rt ini p s m args meth c) {idx ci N : Nat} (hd : decode cc pc = .ok (.new idx, 3)) (hw : nw8 own idx ci N) (hs9 : sh9 n 0 ci) (h0 : n0 ≤ n) (hce : n + 1 - n0 ≤ R.cells) (hsl : sl + N = sl') (hsR : sl' ≤ R.slots) (k : Kv γ h nL n0 p l e R s m args below meth c Z (pc + 3) (lv) (.ref n :: st) (n + 1) (σ) (ν) (sl')) : Kv γ h nL n0 p l e R s m args below meth c Z (pc) (lv) (st) (n) (σ) (ν) (sl) := by
  intro H locs d0 ls hd0 hl hS hP
  obtain ⟨hx, hb, hml, hown, hts, hK, hAO, hG, hh, hlk, hr, hin⟩ := id C
  have hK1 : va_K (γ.2.1, γ.2.2.1) cls9 (ty9 γ) (s.setDrawn d0) := hK.1
  have hown1 : (s.setDrawn d0).vm.findClass own = some m.cls := hown
  obtain ⟨hnC, hfr, hPP⟩ := id hP
  subst hsl
  obtain ⟨C0, T, hc, w1, w2, w3, hin9, hlen, ty, hty, hdf⟩ := hw
  obtain ⟨hk9, hs, -⟩ := hs9
  have hts1 := dr_words hts d0
  refine sz8 C h0 hS hP (fun hsz => ?_)
  have hadr : H.size = γ.1 n := by rw [hsz, hG n hk9]
  have hKn := hK1.1 ci _ hc
  refine W.newcK hx hb hown1 (hts1 _ w1) (hts1 _ w2) (hts1 _ w3) rfl hd (by omega) hsR hKn.2.1 rfl fun H1 kC hkC e1 z1 o1 => ?_
  have hk : ∀ (k : Nat) (x : Nat × va_E), (ws8 γ n σ ν)[k]? = some x → H1[x.1]? = H[x.1]? := fun k x hx => o1 x.1 ((hPP k x hx).lt)
  have hP1 : P8 γ (n + 1) σ ν H1 := ⟨hk9, Fr8_up hfr (by omega), by
    rw [ws8_push]
    refine (hPP.kept hk).app (fun k x hx => ?_)
    have hz : k < 1 := (List.getElem?_eq_some_iff.mp hx).1
    rw [show k = 0 by omega] at hx
    cases hx
    rw [en8_O hs, ← hadr]
    refine ⟨_, hc, (u_born ty hts1 hin9 hKn hkC e1 hty).to (fun j hj => ?_)⟩
    show _ = ((List.range (fkL.getD ci []).length).map (fun j => fv8 γ.1 σ ν n j (fk ci j))).getD j .null
    have hj : j < N := hj
    rw [List.getD_eq_getElem?_getD, List.getElem?_map, List.getElem?_range (by omega)]
    show _ = fv8 γ.1 σ ν n j (fk ci j)
    obtain ⟨⟨za, zb, -, -⟩, zn⟩ := hfr n (Nat.le_refl n)
    rcases hdf j hj with ⟨q1, q2⟩ | ⟨q1, q2⟩ | ⟨q1, q2⟩
    · rw [q1, q2]; show _ = Value.int (iI (gI σ n j)); rw [za]; rfl
    · rw [q1, q2]; show _ = Value.long (lI (gL σ n j)); rw [zb]; rfl
    · rw [q1, q2]; show _ = (if _ then _ else _); rw [zn]; rfl⟩
  have hS1 : va_S (fun q => h ≤ q) s.heap H1 locs := ⟨Nat.le_trans hS.1 (by omega), fun x h1 h2 => (o1 x (Nat.lt_of_lt_of_le h1 hS.1)).trans (hS.2.1 x h1 h2), hS.2.2⟩
  have h2 := k H1 locs d0 ls hd0 hl hS1 hP1
  rw [List.map_cons, show trv γ.1 (.ref n) = .ref (γ.1 n) from rfl, ← hadr, show n + 1 - n0 = n - n0 + 1 by omega] at h2
  exact h2
theorem k_newaI (C : KC γ h own cc nL n0 rt ini p s m args meth c) {N : Nat} {z : Int} (hd : decode cc pc = .ok (.newarray .int, 2)) (hz : (N : Int) = z) (hN : N ≤ 60000) (hs9 : sh9 n 1 N) (h0 : n0 ≤ n) (hce : n + 1 - n0 ≤ R.cells) (hsl : sl + N = sl') (hsR : sl' ≤ R.slots) (k : Kv γ h nL n0 p l e R s m args below meth c Z (pc + 2) (lv) (.ref n :: st) (n + 1) (σ) (ν) (sl')) : Kv γ h nL n0 p l e R s m args below meth c Z (pc) (lv) (.int (iI z) :: st) (n) (σ) (ν) (sl) := by
  intro H locs d0 ls hd0 hl hS hP
  obtain ⟨hx, hb, hml, hown, hts, hK, hAO, hG, hh, hlk, hr, hin⟩ := id C
  have hK1 : va_K (γ.2.1, γ.2.2.1) cls9 (ty9 γ) (s.setDrawn d0) := hK.1
  have hown1 : (s.setDrawn d0).vm.findClass own = some m.cls := hown
  obtain ⟨hnC, hfr, hPP⟩ := id hP
  subst hsl
  subst hz
  obtain ⟨hk9, hs, -⟩ := hs9
  have hts1 := dr_words hts d0
  refine sz8 C h0 hS hP (fun hsz => ?_)
  have hadr : H.size = γ.1 n := by rw [hsz, hG n hk9]
  have hn9 : ¬ iI (N : Int) < 0 := fun q => (iI_in (n := N + 1) (by omega) (by omega) (by omega)) (Or.inl q)
  have hcl : (iI (N : Int)).toNatClampNeg = N := by rw [iI_clamp (by omega) (by omega)]; rfl
  have hby : N * componentBytes (newarray.typeOf .int) ≤ 536870912 := by
    have : componentBytes (newarray.typeOf .int) ≤ 8 := by decide
    exact Nat.le_trans (Nat.mul_le_mul_left N this) (by omega)
  have hRA : (s.setDrawn d0).vm.findClass ("[" ++ (newarray.typeOf .int).toString) = some (γ.2.2.2 0) := (hK1.2 0 (γ.2.2.2 0, .int) rfl).2
  refine va_newaK (N := N) hx hb (hts1 (.arrayClass (newarray.typeOf .int)) w8_I) rfl hd rfl hn9 hcl hby (by omega) hsR rfl fun H1 cA e1 z1 o1 hAr hNm => ?_
  have hcA : cA = γ.2.2.2 0 := Option.some.inj (hNm.symm.trans hRA)
  subst hcA
  have hk : ∀ (k : Nat) (x : Nat × va_E), (ws8 γ n σ ν)[k]? = some x → H1[x.1]? = H[x.1]? := fun k x hx => o1 x.1 ((hPP k x hx).lt)
  have hP1 : P8 γ (n + 1) σ ν H1 := ⟨hk9, Fr8_up hfr (by omega), by
    rw [ws8_push]
    refine (hPP.kept hk).app (fun k x hx => ?_)
    have hz : k < 1 := (List.getElem?_eq_some_iff.mp hx).1
    rw [show k = 0 by omega] at hx
    cases hx
    rw [en8_I hs, ← hadr]
    show H1[H.size]? = some (vp_cell _ _)
    obtain ⟨⟨za, zb, zc, zd⟩, -⟩ := hfr n (Nat.le_refl n)
    rw [e1, vp_cell_i]
    refine congrArg some (congrArg (arrV _ N) (funext fun j => ?_))
    rw [za]
    rfl⟩
  have hS1 : va_S (fun q => h ≤ q) s.heap H1 locs := ⟨Nat.le_trans hS.1 (by omega), fun x h1 h2 => (o1 x (Nat.lt_of_lt_of_le h1 hS.1)).trans (hS.2.1 x h1 h2), hS.2.2⟩
  have h2 := k H1 locs d0 ls hd0 hl hS1 hP1
  rw [List.map_cons, show trv γ.1 (.ref n) = .ref (γ.1 n) from rfl, ← hadr, show n + 1 - n0 = n - n0 + 1 by omega] at h2
  exact h2
theorem k_newaL (C : KC γ h own cc nL n0 rt ini p s m args meth c) {N : Nat} {z : Int} (hd : decode cc pc = .ok (.newarray .long, 2)) (hz : (N : Int) = z) (hN : N ≤ 60000) (hs9 : sh9 n 2 N) (h0 : n0 ≤ n) (hce : n + 1 - n0 ≤ R.cells) (hsl : sl + N = sl') (hsR : sl' ≤ R.slots) (k : Kv γ h nL n0 p l e R s m args below meth c Z (pc + 2) (lv) (.ref n :: st) (n + 1) (σ) (ν) (sl')) : Kv γ h nL n0 p l e R s m args below meth c Z (pc) (lv) (.int (iI z) :: st) (n) (σ) (ν) (sl) := by
  intro H locs d0 ls hd0 hl hS hP
  obtain ⟨hx, hb, hml, hown, hts, hK, hAO, hG, hh, hlk, hr, hin⟩ := id C
  have hK1 : va_K (γ.2.1, γ.2.2.1) cls9 (ty9 γ) (s.setDrawn d0) := hK.1
  have hown1 : (s.setDrawn d0).vm.findClass own = some m.cls := hown
  obtain ⟨hnC, hfr, hPP⟩ := id hP
  subst hsl
  subst hz
  obtain ⟨hk9, hs, -⟩ := hs9
  have hts1 := dr_words hts d0
  refine sz8 C h0 hS hP (fun hsz => ?_)
  have hadr : H.size = γ.1 n := by rw [hsz, hG n hk9]
  have hn9 : ¬ iI (N : Int) < 0 := fun q => (iI_in (n := N + 1) (by omega) (by omega) (by omega)) (Or.inl q)
  have hcl : (iI (N : Int)).toNatClampNeg = N := by rw [iI_clamp (by omega) (by omega)]; rfl
  have hby : N * componentBytes (newarray.typeOf .long) ≤ 536870912 := by
    have : componentBytes (newarray.typeOf .long) ≤ 8 := by decide
    exact Nat.le_trans (Nat.mul_le_mul_left N this) (by omega)
  have hRA : (s.setDrawn d0).vm.findClass ("[" ++ (newarray.typeOf .long).toString) = some (γ.2.2.2 1) := (hK1.2 1 (γ.2.2.2 1, .long) rfl).2
  refine va_newaK (N := N) hx hb (hts1 (.arrayClass (newarray.typeOf .long)) w8_L) rfl hd rfl hn9 hcl hby (by omega) hsR rfl fun H1 cA e1 z1 o1 hAr hNm => ?_
  have hcA : cA = γ.2.2.2 1 := Option.some.inj (hNm.symm.trans hRA)
  subst hcA
  have hk : ∀ (k : Nat) (x : Nat × va_E), (ws8 γ n σ ν)[k]? = some x → H1[x.1]? = H[x.1]? := fun k x hx => o1 x.1 ((hPP k x hx).lt)
  have hP1 : P8 γ (n + 1) σ ν H1 := ⟨hk9, Fr8_up hfr (by omega), by
    rw [ws8_push]
    refine (hPP.kept hk).app (fun k x hx => ?_)
    have hz : k < 1 := (List.getElem?_eq_some_iff.mp hx).1
    rw [show k = 0 by omega] at hx
    cases hx
    rw [en8_L hs, ← hadr]
    show H1[H.size]? = some (vp_cell _ _)
    obtain ⟨⟨za, zb, zc, zd⟩, -⟩ := hfr n (Nat.le_refl n)
    rw [e1, vp_cell_l]
    refine congrArg some (congrArg (arrV _ N) (funext fun j => ?_))
    rw [zb]
    rfl⟩
  have hS1 : va_S (fun q => h ≤ q) s.heap H1 locs := ⟨Nat.le_trans hS.1 (by omega), fun x h1 h2 => (o1 x (Nat.lt_of_lt_of_le h1 hS.1)).trans (hS.2.1 x h1 h2), hS.2.2⟩
  have h2 := k H1 locs d0 ls hd0 hl hS1 hP1
  rw [List.map_cons, show trv γ.1 (.ref n) = .ref (γ.1 n) from rfl, ← hadr, show n + 1 - n0 = n - n0 + 1 by omega] at h2
  exact h2
theorem k_newaF (C : KC γ h own cc nL n0 rt ini p s m args meth c) {N : Nat} {z : Int} (hd : decode cc pc = .ok (.newarray .float, 2)) (hz : (N : Int) = z) (hN : N ≤ 60000) (hs9 : sh9 n 3 N) (h0 : n0 ≤ n) (hce : n + 1 - n0 ≤ R.cells) (hsl : sl + N = sl') (hsR : sl' ≤ R.slots) (k : Kv γ h nL n0 p l e R s m args below meth c Z (pc + 2) (lv) (.ref n :: st) (n + 1) (σ) (ν) (sl')) : Kv γ h nL n0 p l e R s m args below meth c Z (pc) (lv) (.int (iI z) :: st) (n) (σ) (ν) (sl) := by
  intro H locs d0 ls hd0 hl hS hP
  obtain ⟨hx, hb, hml, hown, hts, hK, hAO, hG, hh, hlk, hr, hin⟩ := id C
  have hK1 : va_K (γ.2.1, γ.2.2.1) cls9 (ty9 γ) (s.setDrawn d0) := hK.1
  have hown1 : (s.setDrawn d0).vm.findClass own = some m.cls := hown
  obtain ⟨hnC, hfr, hPP⟩ := id hP
  subst hsl
  subst hz
  obtain ⟨hk9, hs, -⟩ := hs9
  have hts1 := dr_words hts d0
  refine sz8 C h0 hS hP (fun hsz => ?_)
  have hadr : H.size = γ.1 n := by rw [hsz, hG n hk9]
  have hn9 : ¬ iI (N : Int) < 0 := fun q => (iI_in (n := N + 1) (by omega) (by omega) (by omega)) (Or.inl q)
  have hcl : (iI (N : Int)).toNatClampNeg = N := by rw [iI_clamp (by omega) (by omega)]; rfl
  have hby : N * componentBytes (newarray.typeOf .float) ≤ 536870912 := by
    have : componentBytes (newarray.typeOf .float) ≤ 8 := by decide
    exact Nat.le_trans (Nat.mul_le_mul_left N this) (by omega)
  have hRA : (s.setDrawn d0).vm.findClass ("[" ++ (newarray.typeOf .float).toString) = some (γ.2.2.2 2) := (hK1.2 2 (γ.2.2.2 2, .float) rfl).2
  refine va_newaK (N := N) hx hb (hts1 (.arrayClass (newarray.typeOf .float)) w8_F) rfl hd rfl hn9 hcl hby (by omega) hsR rfl fun H1 cA e1 z1 o1 hAr hNm => ?_
  have hcA : cA = γ.2.2.2 2 := Option.some.inj (hNm.symm.trans hRA)
  subst hcA
  have hk : ∀ (k : Nat) (x : Nat × va_E), (ws8 γ n σ ν)[k]? = some x → H1[x.1]? = H[x.1]? := fun k x hx => o1 x.1 ((hPP k x hx).lt)
  have hP1 : P8 γ (n + 1) σ ν H1 := ⟨hk9, Fr8_up hfr (by omega), by
    rw [ws8_push]
    refine (hPP.kept hk).app (fun k x hx => ?_)
    have hz : k < 1 := (List.getElem?_eq_some_iff.mp hx).1
    rw [show k = 0 by omega] at hx
    cases hx
    rw [en8_F hs, ← hadr]
    show H1[H.size]? = some (vp_cell _ _)
    obtain ⟨⟨za, zb, zc, zd⟩, -⟩ := hfr n (Nat.le_refl n)
    rw [e1, vp_cell_f]
    refine congrArg some (congrArg (arrV _ N) (funext fun j => ?_))
    rw [zc]
    rfl⟩
  have hS1 : va_S (fun q => h ≤ q) s.heap H1 locs := ⟨Nat.le_trans hS.1 (by omega), fun x h1 h2 => (o1 x (Nat.lt_of_lt_of_le h1 hS.1)).trans (hS.2.1 x h1 h2), hS.2.2⟩
  have h2 := k H1 locs d0 ls hd0 hl hS1 hP1
  rw [List.map_cons, show trv γ.1 (.ref n) = .ref (γ.1 n) from rfl, ← hadr, show n + 1 - n0 = n - n0 + 1 by omega] at h2
  exact h2
theorem k_newaD (C : KC γ h own cc nL n0 rt ini p s m args meth c) {N : Nat} {z : Int} (hd : decode cc pc = .ok (.newarray .double, 2)) (hz : (N : Int) = z) (hN : N ≤ 60000) (hs9 : sh9 n 4 N) (h0 : n0 ≤ n) (hce : n + 1 - n0 ≤ R.cells) (hsl : sl + N = sl') (hsR : sl' ≤ R.slots) (k : Kv γ h nL n0 p l e R s m args below meth c Z (pc + 2) (lv) (.ref n :: st) (n + 1) (σ) (ν) (sl')) : Kv γ h nL n0 p l e R s m args below meth c Z (pc) (lv) (.int (iI z) :: st) (n) (σ) (ν) (sl) := by
  intro H locs d0 ls hd0 hl hS hP
  obtain ⟨hx, hb, hml, hown, hts, hK, hAO, hG, hh, hlk, hr, hin⟩ := id C
  have hK1 : va_K (γ.2.1, γ.2.2.1) cls9 (ty9 γ) (s.setDrawn d0) := hK.1
  have hown1 : (s.setDrawn d0).vm.findClass own = some m.cls := hown
  obtain ⟨hnC, hfr, hPP⟩ := id hP
  subst hsl
  subst hz
  obtain ⟨hk9, hs, -⟩ := hs9
  have hts1 := dr_words hts d0
  refine sz8 C h0 hS hP (fun hsz => ?_)
  have hadr : H.size = γ.1 n := by rw [hsz, hG n hk9]
  have hn9 : ¬ iI (N : Int) < 0 := fun q => (iI_in (n := N + 1) (by omega) (by omega) (by omega)) (Or.inl q)
  have hcl : (iI (N : Int)).toNatClampNeg = N := by rw [iI_clamp (by omega) (by omega)]; rfl
  have hby : N * componentBytes (newarray.typeOf .double) ≤ 536870912 := by
    have : componentBytes (newarray.typeOf .double) ≤ 8 := by decide
    exact Nat.le_trans (Nat.mul_le_mul_left N this) (by omega)
  have hRA : (s.setDrawn d0).vm.findClass ("[" ++ (newarray.typeOf .double).toString) = some (γ.2.2.2 3) := (hK1.2 3 (γ.2.2.2 3, .double) rfl).2
  refine va_newaK (N := N) hx hb (hts1 (.arrayClass (newarray.typeOf .double)) w8_D) rfl hd rfl hn9 hcl hby (by omega) hsR rfl fun H1 cA e1 z1 o1 hAr hNm => ?_
  have hcA : cA = γ.2.2.2 3 := Option.some.inj (hNm.symm.trans hRA)
  subst hcA
  have hk : ∀ (k : Nat) (x : Nat × va_E), (ws8 γ n σ ν)[k]? = some x → H1[x.1]? = H[x.1]? := fun k x hx => o1 x.1 ((hPP k x hx).lt)
  have hP1 : P8 γ (n + 1) σ ν H1 := ⟨hk9, Fr8_up hfr (by omega), by
    rw [ws8_push]
    refine (hPP.kept hk).app (fun k x hx => ?_)
    have hz : k < 1 := (List.getElem?_eq_some_iff.mp hx).1
    rw [show k = 0 by omega] at hx
    cases hx
    rw [en8_D hs, ← hadr]
    show H1[H.size]? = some (vp_cell _ _)
    obtain ⟨⟨za, zb, zc, zd⟩, -⟩ := hfr n (Nat.le_refl n)
    rw [e1, vp_cell_d]
    refine congrArg some (congrArg (arrV _ N) (funext fun j => ?_))
    rw [zd]
    rfl⟩
  have hS1 : va_S (fun q => h ≤ q) s.heap H1 locs := ⟨Nat.le_trans hS.1 (by omega), fun x h1 h2 => (o1 x (Nat.lt_of_lt_of_le h1 hS.1)).trans (hS.2.1 x h1 h2), hS.2.2⟩
  have h2 := k H1 locs d0 ls hd0 hl hS1 hP1
  rw [List.map_cons, show trv γ.1 (.ref n) = .ref (γ.1 n) from rfl, ← hadr, show n + 1 - n0 = n - n0 + 1 by omega] at h2
  exact h2
theorem k_newaB (C : KC γ h own cc nL n0 rt ini p s m args meth c) {N : Nat} {z : Int} (hd : decode cc pc = .ok (.newarray .byte, 2)) (hz : (N : Int) = z) (hN : N ≤ 60000) (hs9 : sh9 n 5 N) (h0 : n0 ≤ n) (hce : n + 1 - n0 ≤ R.cells) (hsl : sl + N = sl') (hsR : sl' ≤ R.slots) (k : Kv γ h nL n0 p l e R s m args below meth c Z (pc + 2) (lv) (.ref n :: st) (n + 1) (σ) (ν) (sl')) : Kv γ h nL n0 p l e R s m args below meth c Z (pc) (lv) (.int (iI z) :: st) (n) (σ) (ν) (sl) := by
  intro H locs d0 ls hd0 hl hS hP
  obtain ⟨hx, hb, hml, hown, hts, hK, hAO, hG, hh, hlk, hr, hin⟩ := id C
  have hK1 : va_K (γ.2.1, γ.2.2.1) cls9 (ty9 γ) (s.setDrawn d0) := hK.1
  have hown1 : (s.setDrawn d0).vm.findClass own = some m.cls := hown
  obtain ⟨hnC, hfr, hPP⟩ := id hP
  subst hsl
  subst hz
  obtain ⟨hk9, hs, -⟩ := hs9
  have hts1 := dr_words hts d0
  refine sz8 C h0 hS hP (fun hsz => ?_)
  have hadr : H.size = γ.1 n := by rw [hsz, hG n hk9]
  have hn9 : ¬ iI (N : Int) < 0 := fun q => (iI_in (n := N + 1) (by omega) (by omega) (by omega)) (Or.inl q)
  have hcl : (iI (N : Int)).toNatClampNeg = N := by rw [iI_clamp (by omega) (by omega)]; rfl
  have hby : N * componentBytes (newarray.typeOf .byte) ≤ 536870912 := by
    have : componentBytes (newarray.typeOf .byte) ≤ 8 := by decide
    exact Nat.le_trans (Nat.mul_le_mul_left N this) (by omega)
  have hRA : (s.setDrawn d0).vm.findClass ("[" ++ (newarray.typeOf .byte).toString) = some (γ.2.2.2 4) := (hK1.2 4 (γ.2.2.2 4, .byte) rfl).2
  refine va_newaK (N := N) hx hb (hts1 (.arrayClass (newarray.typeOf .byte)) w8_B) rfl hd rfl hn9 hcl hby (by omega) hsR rfl fun H1 cA e1 z1 o1 hAr hNm => ?_
  have hcA : cA = γ.2.2.2 4 := Option.some.inj (hNm.symm.trans hRA)
  subst hcA
  have hk : ∀ (k : Nat) (x : Nat × va_E), (ws8 γ n σ ν)[k]? = some x → H1[x.1]? = H[x.1]? := fun k x hx => o1 x.1 ((hPP k x hx).lt)
  have hP1 : P8 γ (n + 1) σ ν H1 := ⟨hk9, Fr8_up hfr (by omega), by
    rw [ws8_push]
    refine (hPP.kept hk).app (fun k x hx => ?_)
    have hz : k < 1 := (List.getElem?_eq_some_iff.mp hx).1
    rw [show k = 0 by omega] at hx
    cases hx
    rw [en8_B hs, ← hadr]
    show H1[H.size]? = some (vp_cell _ _)
    obtain ⟨⟨za, zb, zc, zd⟩, -⟩ := hfr n (Nat.le_refl n)
    rw [e1, vp_cell_i]
    refine congrArg some (congrArg (arrV _ N) (funext fun j => ?_))
    rw [za]
    rfl⟩
  have hS1 : va_S (fun q => h ≤ q) s.heap H1 locs := ⟨Nat.le_trans hS.1 (by omega), fun x h1 h2 => (o1 x (Nat.lt_of_lt_of_le h1 hS.1)).trans (hS.2.1 x h1 h2), hS.2.2⟩
  have h2 := k H1 locs d0 ls hd0 hl hS1 hP1
  rw [List.map_cons, show trv γ.1 (.ref n) = .ref (γ.1 n) from rfl, ← hadr, show n + 1 - n0 = n - n0 + 1 by omega] at h2
  exact h2
theorem k_anew (C : KC γ h own cc nL n0 rt ini p s m args meth c) {idx N : Nat} {z : Int} (hd : decode cc pc = .ok (.anewarray idx, 3)) (hw : Cond.classLink own idx RX7 ∈ lw_w) (hz : (N : Int) = z) (hN : N ≤ 60000) (hs9 : sh9 n 6 N) (h0 : n0 ≤ n) (hce : n + 1 - n0 ≤ R.cells) (hsl : sl + N = sl') (hsR : sl' ≤ R.slots) (k : Kv γ h nL n0 p l e R s m args below meth c Z (pc + 3) (lv) (.ref n :: st) (n + 1) (σ) (ν) (sl')) : Kv γ h nL n0 p l e R s m args below meth c Z (pc) (lv) (.int (iI z) :: st) (n) (σ) (ν) (sl) := by
  intro H locs d0 ls hd0 hl hS hP
  obtain ⟨hx, hb, hml, hown, hts, hK, hAO, hG, hh, hlk, hr, hin⟩ := id C
  have hK1 : va_K (γ.2.1, γ.2.2.1) cls9 (ty9 γ) (s.setDrawn d0) := hK.1
  have hown1 : (s.setDrawn d0).vm.findClass own = some m.cls := hown
  obtain ⟨hnC, hfr, hPP⟩ := id hP
  subst hsl
  subst hz
  obtain ⟨hk9, hs, -⟩ := hs9
  have hts1 := dr_words hts d0
  refine sz8 C h0 hS hP (fun hsz => ?_)
  have hadr : H.size = γ.1 n := by rw [hsz, hG n hk9]
  have hn9 : ¬ iI (N : Int) < 0 := fun q => (iI_in (n := N + 1) (by omega) (by omega) (by omega)) (Or.inl q)
  have hcl : (iI (N : Int)).toNatClampNeg = N := by rw [iI_clamp (by omega) (by omega)]; rfl
  obtain ⟨kA0, comp0, -, -, -, hRA⟩ : va_RA (s.setDrawn d0) (γ.2.2.2 5) (.object RX7) := (hK1.2 5 (γ.2.2.2 5, .object RX7) rfl).2
  have hAO1 : va_AO RX7 (s.setDrawn d0) := hAO.1
  refine W.anew hx hb hown1 (hts1 _ hw) (va_AO.use hAO1) rfl hd rfl hn9 (by rw [hcl]; omega) (by omega) (by rw [hcl]; exact hsR) fun cA kA comp f1 f2 f3 f4 => ?_
  have hcA : cA = γ.2.2.2 5 := Option.some.inj (f1.symm.trans hRA)
  subst hcA
  rw [hcl]
  generalize hH1 : H.push ({ cls := γ.2.2.2 5, slots := Array.replicate N .null, vm := .none } : Cell) = H1
  have z1 : H1.size = H.size + 1 := by rw [← hH1, Array.size_push]
  have e1 : H1[H.size]? = some (arrV (γ.2.2.2 5) N (fun _ => .null)) := by rw [← hH1, Array.getElem?_push_size, ← arrV_new]
  have o1 : ∀ q : Nat, q < H.size → H1[q]? = H[q]? := fun q hq => by rw [← hH1, Array.getElem?_push, if_neg (Nat.ne_of_lt hq)]
  have hk : ∀ (k : Nat) (x : Nat × va_E), (ws8 γ n σ ν)[k]? = some x → H1[x.1]? = H[x.1]? := fun k x hx => o1 x.1 ((hPP k x hx).lt)
  have hP1 : P8 γ (n + 1) σ ν H1 := ⟨hk9, Fr8_up hfr (by omega), by
    rw [ws8_push]
    refine (hPP.kept hk).app (fun k x hx => ?_)
    have hz : k < 1 := (List.getElem?_eq_some_iff.mp hx).1
    rw [show k = 0 by omega] at hx
    cases hx
    rw [en8_S hs, ← hadr]
    show H1[H.size]? = some (vp_cell _ _)
    rw [e1, vp_cell_q]
    refine congrArg some (congrArg (arrV _ N) (funext fun j => ?_))
    rw [(hfr n (Nat.le_refl n)).2]
    rfl⟩
  have hS1 : va_S (fun q => h ≤ q) s.heap H1 locs := ⟨Nat.le_trans hS.1 (by omega), fun x h1 h2 => (o1 x (Nat.lt_of_lt_of_le h1 hS.1)).trans (hS.2.1 x h1 h2), hS.2.2⟩
  have h2 := k H1 locs d0 ls hd0 hl hS1 hP1
  rw [List.map_cons, show trv γ.1 (.ref n) = .ref (γ.1 n) from rfl, ← hadr, show n + 1 - n0 = n - n0 + 1 by omega] at h2
  exact h2
theorem k_getR (C : KC γ h own cc nL n0 rt ini p s m args meth c) {k0 ci idx j k1 : Nat} (hd : decode cc pc = .ok (.getfield idx, 3)) (hs9 : sh9 k0 0 ci) (hkn : k0 < n) (hf : fd9 own idx ci j 2) (hr1 : rfs k0 j = k1) (hv : hv8 ν k0 j = true) (k : Kv γ h nL n0 p l e R s m args below meth c Z (pc + 3) (lv) (.ref k1 :: st) (n) (σ) (ν) (sl)) : Kv γ h nL n0 p l e R s m args below meth c Z (pc) (lv) (.ref k0 :: st) (n) (σ) (ν) (sl) := by
  intro H locs d0 ls hd0 hl hS hP
  obtain ⟨hx, hb, hml, hown, hts, hK, hAO, hG, hh, hlk, hr, hin⟩ := id C
  have hK1 : va_K (γ.2.1, γ.2.2.1) cls9 (ty9 γ) (s.setDrawn d0) := hK.1
  have hown1 : (s.setDrawn d0).vm.findClass own = some m.cls := hown
  obtain ⟨hnC, hfr, hPP⟩ := id hP
  subst hr1
  obtain ⟨C0, T, N, ref, hc, hjN, hw, hin9, hsm, hfk, hlen⟩ := hf
  obtain ⟨hk, hs, hn⟩ := hs9
  have hts1 := dr_words hts d0
  have hg : (ws8 γ n σ ν)[k0]? = some (γ.1 k0, .inr (ci, (List.range (fkL.getD ci []).length).map (fun j => fv8 γ.1 σ ν k0 j (fk ci j)))) := (ws8_get hkn).trans (by rw [en8_O hs])
  refine va_get (ci := ci) (C := C0) (T := T) (N := N) (v := .ref (γ.1 (rfs k0 j))) hx hb hts1 hin9 hown1 hK1 hPP k0 hg hc j hjN (hts1 _ hw) (hsm (s.setDrawn d0) args hts1) (by rw [List.getElem?_map, List.getElem?_range (by omega)]; show some (fv8 γ.1 σ ν k0 j (fk ci j)) = _; rw [hfk]; show some (if _ then _ else _) = _; rw [hv]; rfl) hd ?_
  exact k H locs d0 ls hd0 hl hS hP
theorem k_putI (C : KC γ h own cc nL n0 rt ini p s m args meth c) {k0 ci idx j : Nat} {ji x : Int} (hd : decode cc pc = .ok (.putfield idx, 3)) (hs9 : sh9 k0 0 ci) (hkn : k0 < n) (hf : fp9 own idx ci j 0 .int) (hj : ((j : Nat) : Int) = ji) (k : Kv γ h nL n0 p l e R s m args below meth c Z (pc + 3) (lv) (st) (n) (sI σ k0 ji x) (ν) (sl)) : Kv γ h nL n0 p l e R s m args below meth c Z (pc) (lv) (.int (iI x) :: .ref k0 :: st) (n) (σ) (ν) (sl) := by
  intro H locs d0 ls hd0 hl hS hP
  obtain ⟨hx, hb, hml, hown, hts, hK, hAO, hG, hh, hlk, hr, hin⟩ := id C
  have hK1 : va_K (γ.2.1, γ.2.2.1) cls9 (ty9 γ) (s.setDrawn d0) := hK.1
  have hown1 : (s.setDrawn d0).vm.findClass own = some m.cls := hown
  obtain ⟨hnC, hfr, hPP⟩ := id hP
  subst hj
  obtain ⟨⟨C0, T, N, ref, hc, hjN, hw, hin9, hsm, hfk, hlen⟩, ty0, hty, hnm, hfin, hpd⟩ := hf
  obtain ⟨hk, hs, hn⟩ := hs9
  have hts1 := dr_words hts d0
  have hg : (ws8 γ n σ ν)[k0]? = some (γ.1 k0, .inr (ci, (List.range (fkL.getD ci []).length).map (fun j => fv8 γ.1 σ ν k0 j (fk ci j)))) := (ws8_get hkn).trans (by rw [en8_O hs])
  refine va_put (A := fun q => h ≤ q) (ci := ci) (C := C0) (T := T) (N := N) (ty := .int) (v := .int (iI x)) hx hb hts1 hin9 ty0 (hty T N hc) (hnm T N hc) hown1 hK1 hPP (ws8_D hG hnC) hS k0 hg hc j hjN (hts1 _ hw) (hsm (s.setDrawn d0) args hts1) (hfin T N hc) (hpd T N hc) rfl rfl (by rw [List.length_map, List.length_range]; omega) hd (fun H locs hP hD hS => ?_)
  have hset := fsX8 (ad := γ.1) (dA := γ.2.2.2) (ν := ν) (ν' := ν) (σ := σ) (σ' := sI σ k0 (j : Nat) x) (v := .int (iI x)) hs (by rw [hfk]; show Value.int _ = _; rw [gI_aI_eq, up9_eq]) (fun i hi => by
    rcases Nat.lt_or_ge (fk ci i) 2 with q | q
    · rcases (show fk ci i = 0 ∨ fk ci i = 1 by omega) with q | q
      · rw [q]; show Value.int _ = Value.int _; first | rw [gI_aI_eq, up9_ne (by omega)] | rw [gI_aL]
      · rw [q]; show Value.long _ = Value.long _; first | rw [gL_aL_eq, up9_ne (by omega)] | rw [gL_aI]
    · obtain ⟨t, ht⟩ := Nat.exists_eq_add_of_le q
      rw [ht, Nat.add_comm]
      rfl)
  rw [ws8_set (k := k0) hset (fun k' hk' => en8_aI hk')] at hP
  have hP : P8 γ n (sI σ k0 (j : Nat) x) ν H := ⟨hnC, Fr8_aI hfr hkn, hP⟩
  exact k H locs d0 ls hd0 hl hS hP
theorem k_putZ (C : KC γ h own cc nL n0 rt ini p s m args meth c) {k0 ci idx j : Nat} {ji x : Int} (hd : decode cc pc = .ok (.putfield idx, 3)) (hs9 : sh9 k0 0 ci) (hkn : k0 < n) (hf : fp9 own idx ci j 0 .boolean) (hj : ((j : Nat) : Int) = ji) (hx1 : x = 0 ∨ x = 1) (k : Kv γ h nL n0 p l e R s m args below meth c Z (pc + 3) (lv) (st) (n) (sI σ k0 ji x) (ν) (sl)) : Kv γ h nL n0 p l e R s m args below meth c Z (pc) (lv) (.int (iI x) :: .ref k0 :: st) (n) (σ) (ν) (sl) := by
  intro H locs d0 ls hd0 hl hS hP
  obtain ⟨hx, hb, hml, hown, hts, hK, hAO, hG, hh, hlk, hr, hin⟩ := id C
  have hK1 : va_K (γ.2.1, γ.2.2.1) cls9 (ty9 γ) (s.setDrawn d0) := hK.1
  have hown1 : (s.setDrawn d0).vm.findClass own = some m.cls := hown
  obtain ⟨hnC, hfr, hPP⟩ := id hP
  subst hj
  obtain ⟨⟨C0, T, N, ref, hc, hjN, hw, hin9, hsm, hfk, hlen⟩, ty0, hty, hnm, hfin, hpd⟩ := hf
  obtain ⟨hk, hs, hn⟩ := hs9
  have hts1 := dr_words hts d0
  have hg : (ws8 γ n σ ν)[k0]? = some (γ.1 k0, .inr (ci, (List.range (fkL.getD ci []).length).map (fun j => fv8 γ.1 σ ν k0 j (fk ci j)))) := (ws8_get hkn).trans (by rw [en8_O hs])
  refine va_put (A := fun q => h ≤ q) (ci := ci) (C := C0) (T := T) (N := N) (ty := .boolean) (v := .int (iI x)) hx hb hts1 hin9 ty0 (hty T N hc) (hnm T N hc) hown1 hK1 hPP (ws8_D hG hnC) hS k0 hg hc j hjN (hts1 _ hw) (hsm (s.setDrawn d0) args hts1) (hfin T N hc) (hpd T N hc) (by rcases hx1 with h | h <;> subst h <;> decide) (by rcases hx1 with h | h <;> subst h <;> decide) (by rw [List.length_map, List.length_range]; omega) hd (fun H locs hP hD hS => ?_)
  have hset := fsX8 (ad := γ.1) (dA := γ.2.2.2) (ν := ν) (ν' := ν) (σ := σ) (σ' := sI σ k0 (j : Nat) x) (v := .int (iI x)) hs (by rw [hfk]; show Value.int _ = _; rw [gI_aI_eq, up9_eq]) (fun i hi => by
    rcases Nat.lt_or_ge (fk ci i) 2 with q | q
    · rcases (show fk ci i = 0 ∨ fk ci i = 1 by omega) with q | q
      · rw [q]; show Value.int _ = Value.int _; first | rw [gI_aI_eq, up9_ne (by omega)] | rw [gI_aL]
      · rw [q]; show Value.long _ = Value.long _; first | rw [gL_aL_eq, up9_ne (by omega)] | rw [gL_aI]
    · obtain ⟨t, ht⟩ := Nat.exists_eq_add_of_le q
      rw [ht, Nat.add_comm]
      rfl)
  rw [ws8_set (k := k0) hset (fun k' hk' => en8_aI hk')] at hP
  have hP : P8 γ n (sI σ k0 (j : Nat) x) ν H := ⟨hnC, Fr8_aI hfr hkn, hP⟩
  exact k H locs d0 ls hd0 hl hS hP
theorem k_putL (C : KC γ h own cc nL n0 rt ini p s m args meth c) {k0 ci idx j : Nat} {ji x : Int} (hd : decode cc pc = .ok (.putfield idx, 3)) (hs9 : sh9 k0 0 ci) (hkn : k0 < n) (hf : fp9 own idx ci j 1 .long) (hj : ((j : Nat) : Int) = ji) (k : Kv γ h nL n0 p l e R s m args below meth c Z (pc + 3) (lv) (st) (n) (sL σ k0 ji x) (ν) (sl)) : Kv γ h nL n0 p l e R s m args below meth c Z (pc) (lv) (.long (lI x) :: .ref k0 :: st) (n) (σ) (ν) (sl) := by
  intro H locs d0 ls hd0 hl hS hP
  obtain ⟨hx, hb, hml, hown, hts, hK, hAO, hG, hh, hlk, hr, hin⟩ := id C
  have hK1 : va_K (γ.2.1, γ.2.2.1) cls9 (ty9 γ) (s.setDrawn d0) := hK.1
  have hown1 : (s.setDrawn d0).vm.findClass own = some m.cls := hown
  obtain ⟨hnC, hfr, hPP⟩ := id hP
  subst hj
  obtain ⟨⟨C0, T, N, ref, hc, hjN, hw, hin9, hsm, hfk, hlen⟩, ty0, hty, hnm, hfin, hpd⟩ := hf
  obtain ⟨hk, hs, hn⟩ := hs9
  have hts1 := dr_words hts d0
  have hg : (ws8 γ n σ ν)[k0]? = some (γ.1 k0, .inr (ci, (List.range (fkL.getD ci []).length).map (fun j => fv8 γ.1 σ ν k0 j (fk ci j)))) := (ws8_get hkn).trans (by rw [en8_O hs])
  refine va_put (A := fun q => h ≤ q) (ci := ci) (C := C0) (T := T) (N := N) (ty := .long) (v := .long (lI x)) hx hb hts1 hin9 ty0 (hty T N hc) (hnm T N hc) hown1 hK1 hPP (ws8_D hG hnC) hS k0 hg hc j hjN (hts1 _ hw) (hsm (s.setDrawn d0) args hts1) (hfin T N hc) (hpd T N hc) rfl rfl (by rw [List.length_map, List.length_range]; omega) hd (fun H locs hP hD hS => ?_)
  have hset := fsX8 (ad := γ.1) (dA := γ.2.2.2) (ν := ν) (ν' := ν) (σ := σ) (σ' := sL σ k0 (j : Nat) x) (v := .long (lI x)) hs (by rw [hfk]; show Value.long _ = _; rw [gL_aL_eq, up9_eq]) (fun i hi => by
    rcases Nat.lt_or_ge (fk ci i) 2 with q | q
    · rcases (show fk ci i = 0 ∨ fk ci i = 1 by omega) with q | q
      · rw [q]; show Value.int _ = Value.int _; first | rw [gI_aI_eq, up9_ne (by omega)] | rw [gI_aL]
      · rw [q]; show Value.long _ = Value.long _; first | rw [gL_aL_eq, up9_ne (by omega)] | rw [gL_aI]
    · obtain ⟨t, ht⟩ := Nat.exists_eq_add_of_le q
      rw [ht, Nat.add_comm]
      rfl)
  rw [ws8_set (k := k0) hset (fun k' hk' => en8_aL hk')] at hP
  have hP : P8 γ n (sL σ k0 (j : Nat) x) ν H := ⟨hnC, Fr8_aL hfr hkn, hP⟩
  exact k H locs d0 ls hd0 hl hS hP
end
