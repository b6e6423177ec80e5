/-! ===== the world as a pure value; the judgement Vv: a walk over the pure value; contracts Cc ===== -/
def iI (z : Int) : Int32 := Int32.ofInt z
def lI (z : Int) : Int64 := Int64.ofInt z
theorem iI_add (a b : Int) : iI (a + b) = iI a + iI b := Int32.ofInt_add a b
theorem iI_sub (a b : Int) : iI (a - b) = iI a - iI b := Int32.ofInt_sub a b
theorem iI_mul (a b : Int) : iI (a * b) = iI a * iI b := Int32.ofInt_mul a b
theorem iI_neg (a : Int) : iI (-a) = -iI a := Int32.ofInt_neg a
theorem lI_add (a b : Int) : lI (a + b) = lI a + lI b := Int64.ofInt_add a b
theorem lI_sub (a b : Int) : lI (a - b) = lI a - lI b := Int64.ofInt_sub a b
theorem lI_mul (a b : Int) : lI (a * b) = lI a * lI b := Int64.ofInt_mul a b
theorem iI_toInt {z : Int} (h1 : -2147483648 ≤ z) (h2 : z < 2147483648) : (iI z).toInt = z := Int32.toInt_ofInt_of_le (by omega) (by omega)
theorem lI_toInt {z : Int} (h1 : -9223372036854775808 ≤ z) (h2 : z < 9223372036854775808) : (lI z).toInt = z := Int64.toInt_ofInt_of_le (by omega) (by omega)
theorem iI_of (x : Int32) : iI x.toInt = x := Int32.ofInt_toInt x
theorem lI_of (x : Int64) : lI x.toInt = x := Int64.ofInt_toInt x
theorem iI_lt {a b : Int} (h : (-2147483648 ≤ a ∧ a < 2147483648) ∧ (-2147483648 ≤ b ∧ b < 2147483648)) : iI a < iI b ↔ a < b := by
  rw [Int32.lt_iff_toInt_lt, iI_toInt h.1.1 h.1.2, iI_toInt h.2.1 h.2.2]
theorem iI_le {a b : Int} (h : (-2147483648 ≤ a ∧ a < 2147483648) ∧ (-2147483648 ≤ b ∧ b < 2147483648)) : iI a ≤ iI b ↔ a ≤ b := by
  rw [Int32.le_iff_toInt_le, iI_toInt h.1.1 h.1.2, iI_toInt h.2.1 h.2.2]
theorem iI_eq {a b : Int} (h : (-2147483648 ≤ a ∧ a < 2147483648) ∧ (-2147483648 ≤ b ∧ b < 2147483648)) : iI a = iI b ↔ a = b := by
  rw [← Int32.toInt_inj, iI_toInt h.1.1 h.1.2, iI_toInt h.2.1 h.2.2]
theorem lI_lt {a b : Int} (h : (-9223372036854775808 ≤ a ∧ a < 9223372036854775808) ∧ (-9223372036854775808 ≤ b ∧ b < 9223372036854775808)) : lI a < lI b ↔ a < b := by
  rw [Int64.lt_iff_toInt_lt, lI_toInt h.1.1 h.1.2, lI_toInt h.2.1 h.2.2]
theorem lI_eq {a b : Int} (h : (-9223372036854775808 ≤ a ∧ a < 9223372036854775808) ∧ (-9223372036854775808 ≤ b ∧ b < 9223372036854775808)) : lI a = lI b ↔ a = b := by
  rw [← Int64.toInt_inj, lI_toInt h.1.1 h.1.2, lI_toInt h.2.1 h.2.2]
theorem iI_clamp {z : Int} (h1 : 0 ≤ z) (h2 : z < 2147483648) : (iI z).toNatClampNeg = z.toNat := by
  rw [Int32.toNatClampNeg, iI_toInt (by omega) h2]
theorem iI_in {z : Int} {n : Nat} (h1 : 0 ≤ z) (h2 : z < n) (hn : n < 2147483648) : vp_in (iI z) n := by
  rw [vp_in_iff, iI_toInt (by omega) (by omega)]
  exact ⟨h1, h2⟩
theorem lI_toI (z : Int) : (lI z).toInt32 = iI z := Int64.toInt32_ofInt
theorem iI_toL {z : Int} (h1 : -2147483648 ≤ z) (h2 : z < 2147483648) : (iI z).toInt64 = lI z := Int32.toInt64_ofInt (by rw [Int32.toInt_minValue]; omega) (by rw [Int32.toInt_maxValue]; omega)
/-- ints, longs, floats, doubles: what every cell holds at every place -/
abbrev S9 : Type := (Nat → Int → Int) × (Nat → Int → Int) × (Nat → Int → UInt32) × (Nat → Int → UInt64)
def gI (σ : S9) (k : Nat) (j : Int) : Int := σ.1 k j
def gL (σ : S9) (k : Nat) (j : Int) : Int := σ.2.1 k j
def gF (σ : S9) (k : Nat) (j : Int) : UInt32 := σ.2.2.1 k j
def gD (σ : S9) (k : Nat) (j : Int) : UInt64 := σ.2.2.2 k j
def aI (σ : S9) (k : Nat) (f : Int → Int) : S9 := (fun k' => if k' = k then f else σ.1 k', σ.2)
def aL (σ : S9) (k : Nat) (f : Int → Int) : S9 := (σ.1, fun k' => if k' = k then f else σ.2.1 k', σ.2.2)
def aF (σ : S9) (k : Nat) (f : Int → UInt32) : S9 := (σ.1, σ.2.1, fun k' => if k' = k then f else σ.2.2.1 k', σ.2.2.2)
def aD (σ : S9) (k : Nat) (f : Int → UInt64) : S9 := (σ.1, σ.2.1, σ.2.2.1, fun k' => if k' = k then f else σ.2.2.2 k')
/-- a row but for one place -/
def up9 {α : Type} (f : Int → α) (i : Int) (x : α) : Int → α := fun j => if j = i then x else f j
abbrev sI (σ : S9) (k : Nat) (i x : Int) : S9 := aI σ k (up9 (gI σ k) i x)
abbrev sL (σ : S9) (k : Nat) (i x : Int) : S9 := aL σ k (up9 (gL σ k) i x)
abbrev sF (σ : S9) (k : Nat) (i : Int) (x : UInt32) : S9 := aF σ k (up9 (gF σ k) i x)
abbrev sD (σ : S9) (k : Nat) (i : Int) (x : UInt64) : S9 := aD σ k (up9 (gD σ k) i x)
theorem up9_eq {α : Type} (f : Int → α) (i : Int) (x : α) : up9 f i x i = x := by simp [up9]
theorem up9_ne {α : Type} {f : Int → α} {i j : Int} {x : α} (h : j ≠ i) : up9 f i x j = f j := by simp [up9, h]
theorem up9_ap {α : Type} (f : Int → α) (i : Int) (x : α) (j : Int) : up9 f i x j = if j = i then x else f j := rfl
theorem gI_aI (σ : S9) (k : Nat) (f : Int → Int) (k' : Nat) : gI (aI σ k f) k' = if k' = k then f else gI σ k' := rfl
theorem gI_aI_eq (σ : S9) (k : Nat) (f : Int → Int) : gI (aI σ k f) k = f := by rw [gI_aI, if_pos rfl]
theorem gI_aI_ne {σ : S9} {k k' : Nat} {f : Int → Int} (h : k' ≠ k) : gI (aI σ k f) k' = gI σ k' := by rw [gI_aI, if_neg h]
theorem gL_aI (σ : S9) (k : Nat) (f : Int → Int) (k' : Nat) : gL (aI σ k f) k' = gL σ k' := rfl
theorem gF_aI (σ : S9) (k : Nat) (f : Int → Int) (k' : Nat) : gF (aI σ k f) k' = gF σ k' := rfl
theorem gD_aI (σ : S9) (k : Nat) (f : Int → Int) (k' : Nat) : gD (aI σ k f) k' = gD σ k' := rfl
theorem gL_aL (σ : S9) (k : Nat) (f : Int → Int) (k' : Nat) : gL (aL σ k f) k' = if k' = k then f else gL σ k' := rfl
theorem gL_aL_eq (σ : S9) (k : Nat) (f : Int → Int) : gL (aL σ k f) k = f := by rw [gL_aL, if_pos rfl]
theorem gL_aL_ne {σ : S9} {k k' : Nat} {f : Int → Int} (h : k' ≠ k) : gL (aL σ k f) k' = gL σ k' := by rw [gL_aL, if_neg h]
theorem gI_aL (σ : S9) (k : Nat) (f : Int → Int) (k' : Nat) : gI (aL σ k f) k' = gI σ k' := rfl
theorem gF_aL (σ : S9) (k : Nat) (f : Int → Int) (k' : Nat) : gF (aL σ k f) k' = gF σ k' := rfl
theorem gD_aL (σ : S9) (k : Nat) (f : Int → Int) (k' : Nat) : gD (aL σ k f) k' = gD σ k' := rfl
theorem gF_aF (σ : S9) (k : Nat) (f : Int → UInt32) (k' : Nat) : gF (aF σ k f) k' = if k' = k then f else gF σ k' := rfl
theorem gF_aF_eq (σ : S9) (k : Nat) (f : Int → UInt32) : gF (aF σ k f) k = f := by rw [gF_aF, if_pos rfl]
theorem gF_aF_ne {σ : S9} {k k' : Nat} {f : Int → UInt32} (h : k' ≠ k) : gF (aF σ k f) k' = gF σ k' := by rw [gF_aF, if_neg h]
theorem gI_aF (σ : S9) (k : Nat) (f : Int → UInt32) (k' : Nat) : gI (aF σ k f) k' = gI σ k' := rfl
theorem gL_aF (σ : S9) (k : Nat) (f : Int → UInt32) (k' : Nat) : gL (aF σ k f) k' = gL σ k' := rfl
theorem gD_aF (σ : S9) (k : Nat) (f : Int → UInt32) (k' : Nat) : gD (aF σ k f) k' = gD σ k' := rfl
theorem gD_aD (σ : S9) (k : Nat) (f : Int → UInt64) (k' : Nat) : gD (aD σ k f) k' = if k' = k then f else gD σ k' := rfl
theorem gD_aD_eq (σ : S9) (k : Nat) (f : Int → UInt64) : gD (aD σ k f) k = f := by rw [gD_aD, if_pos rfl]
theorem gD_aD_ne {σ : S9} {k k' : Nat} {f : Int → UInt64} (h : k' ≠ k) : gD (aD σ k f) k' = gD σ k' := by rw [gD_aD, if_neg h]
theorem gI_aD (σ : S9) (k : Nat) (f : Int → UInt64) (k' : Nat) : gI (aD σ k f) k' = gI σ k' := rfl
theorem gL_aD (σ : S9) (k : Nat) (f : Int → UInt64) (k' : Nat) : gL (aD σ k f) k' = gL σ k' := rfl
theorem gF_aD (σ : S9) (k : Nat) (f : Int → UInt64) (k' : Nat) : gF (aD σ k f) k' = gF σ k' := rfl
/-- a reference is the place of a cell in the world; ad: the cell's own address -/
def trv (ad : Nat → Nat) : Value → Value
  | .ref k => .ref (ad k)
  | v => v
theorem trv_cat (ad : Nat → Nat) (v : Value) : (trv ad v).category = v.category := by cases v <;> rfl
def fvv (ad : Nat → Nat) (σ : S9) (k j : Nat) : Nat → Value
  | 0 => .int (iI (gI σ k j))
  | 1 => .long (lI (gL σ k j))
  | _ => .ref (ad (rfs k j))
def ent (ad : Nat → Nat) (dA : Nat → ClassId) (σ : S9) (k : Nat) : va_E := match shp k with
  | (0, ci) => .inr (ci, (List.range (fkL.getD ci []).length).map (fun j => fvv ad σ k j (fk ci j)))
  | (1, n) => .inl (dA 0, n, .inl (fun j => iI (gI σ k (j : Int))))
  | (2, n) => .inl (dA 1, n, .inr (.inl (fun j => lI (gL σ k (j : Int)))))
  | (3, n) => .inl (dA 2, n, .inr (.inr (.inl (fun j => gF σ k (j : Int)))))
  | (4, n) => .inl (dA 3, n, .inr (.inr (.inr (.inl (fun j => gD σ k (j : Int))))))
  | (5, n) => .inl (dA 4, n, .inl (fun j => iI (gI σ k (j : Int))))
  | (6, n) => .inl (dA 5, n, .inr (.inr (.inr (.inr (fun j => some (ad (rfs k j)))))))
  | (_, n) => .inl (dA 6, n, .inr (.inr (.inr (.inr (fun j => some (ad (rfs k j)))))))
/-- what is fixed behind the constructors: addresses, classes' numbers and slots, array classes -/
abbrev G9 : Type := (Nat → Nat) × (Nat → ClassId) × (Nat → Nat → Nat) × (Nat → ClassId)
abbrev ws9 (γ : G9) (σ : S9) : va_W := (List.range NC).map (fun k => (γ.1 k, ent γ.1 γ.2.2.2 σ k))
def gA (γ : G9) : Nat → Prop := fun q => ∃ k, k < NC ∧ γ.1 k = q
def gOK (γ : G9) : Prop := ∀ i j, i < NC → j < NC → γ.1 i = γ.1 j → i = j
abbrev ty9 (γ : G9) : List (ClassId × FieldType) := [(γ.2.2.2 0, .int), (γ.2.2.2 1, .long), (γ.2.2.2 2, .float), (γ.2.2.2 3, .double), (γ.2.2.2 4, .byte), (γ.2.2.2 5, .object "RewritingTermination$Slot"), (γ.2.2.2 6, .array .int)]
def P9 (γ : G9) (σ : S9) (H : Heap) : Prop := va_P (γ.2.1, γ.2.2.1) cls9 (ws9 γ σ) H
def K9 (γ : G9) (U : State) : Prop := va_K (γ.2.1, γ.2.2.1) cls9 (ty9 γ) U ∧ va_Nw (.declares ⟨RX6, "mayFit", "(I)Z"⟩) U
theorem K9.moved {γ : G9} {u U : State} (hvm : u.vm.Alike U.vm) (h : K9 γ u) : K9 γ U := ⟨va_K.moved hvm h.1, va_tabs rfl (rfl : (u.setVm U.vm).vm = U.vm) (by rw [Cond.declares_setVm hvm]; exact h.2)⟩
theorem ws9_get {γ : G9} {σ : S9} {k : Nat} (hk : k < NC) : (ws9 γ σ)[k]? = some (γ.1 k, ent γ.1 γ.2.2.2 σ k) := by
  rw [List.getElem?_map, List.getElem?_range hk]; rfl
theorem ws9_D {γ : G9} {σ : S9} (h : gOK γ) : va_D (gA γ) (ws9 γ σ) := by
  refine ⟨fun i j p q hi hj hpq => ?_, fun k q hk => ?_⟩
  · have h1 : i < NC := by have := (List.getElem?_eq_some_iff.mp hi).1; simpa using this
    have h2 : j < NC := by have := (List.getElem?_eq_some_iff.mp hj).1; simpa using this
    rw [ws9_get h1] at hi
    rw [ws9_get h2] at hj
    cases hi
    cases hj
    exact h i j h1 h2 hpq
  · have h1 : k < NC := by have := (List.getElem?_eq_some_iff.mp hk).1; simpa using this
    rw [ws9_get h1] at hk
    cases hk
    exact ⟨k, h1, rfl⟩
theorem ws9_set {γ : G9} {σ σ' : S9} {k : Nat} {e : va_E} (he : e = ent γ.1 γ.2.2.2 σ' k) (h : ∀ k' : Nat, k' ≠ k → ent γ.1 γ.2.2.2 σ' k' = ent γ.1 γ.2.2.2 σ k') : (ws9 γ σ).set k (γ.1 k, e) = ws9 γ σ' := by
  subst he
  apply List.ext_getElem?
  intro i
  by_cases hi : i < NC
  · rw [ws9_get hi, List.getElem?_set]
    by_cases hik : k = i
    · subst hik
      simp [hi]
    · rw [if_neg hik, ws9_get hi, h i (fun q => hik q.symm)]
  · rw [List.getElem?_eq_none (by simpa using Nat.not_lt.mp hi), List.getElem?_eq_none (by simpa using Nat.not_lt.mp hi)]
theorem ent_I {ad : Nat → Nat} {dA : Nat → ClassId} {σ : S9} {k n : Nat} (h : shp k = (1, n)) : ent ad dA σ k = .inl (dA 0, n, .inl (fun j => iI (gI σ k (j : Int)))) := by unfold ent; rw [h]; rfl
theorem ent_L {ad : Nat → Nat} {dA : Nat → ClassId} {σ : S9} {k n : Nat} (h : shp k = (2, n)) : ent ad dA σ k = .inl (dA 1, n, .inr (.inl (fun j => lI (gL σ k (j : Int))))) := by unfold ent; rw [h]; rfl
theorem ent_F {ad : Nat → Nat} {dA : Nat → ClassId} {σ : S9} {k n : Nat} (h : shp k = (3, n)) : ent ad dA σ k = .inl (dA 2, n, .inr (.inr (.inl (fun j => gF σ k (j : Int))))) := by unfold ent; rw [h]; rfl
theorem ent_D {ad : Nat → Nat} {dA : Nat → ClassId} {σ : S9} {k n : Nat} (h : shp k = (4, n)) : ent ad dA σ k = .inl (dA 3, n, .inr (.inr (.inr (.inl (fun j => gD σ k (j : Int)))))) := by unfold ent; rw [h]; rfl
theorem ent_B {ad : Nat → Nat} {dA : Nat → ClassId} {σ : S9} {k n : Nat} (h : shp k = (5, n)) : ent ad dA σ k = .inl (dA 4, n, .inl (fun j => iI (gI σ k (j : Int)))) := by unfold ent; rw [h]; rfl
theorem ent_S {ad : Nat → Nat} {dA : Nat → ClassId} {σ : S9} {k n : Nat} (h : shp k = (6, n)) : ent ad dA σ k = .inl (dA 5, n, .inr (.inr (.inr (.inr (fun j => some (ad (rfs k j))))))) := by unfold ent; rw [h]; rfl
theorem ent_R {ad : Nat → Nat} {dA : Nat → ClassId} {σ : S9} {k n : Nat} (h : shp k = (7, n)) : ent ad dA σ k = .inl (dA 6, n, .inr (.inr (.inr (.inr (fun j => some (ad (rfs k j))))))) := by unfold ent; rw [h]; rfl
theorem ent_O {ad : Nat → Nat} {dA : Nat → ClassId} {σ : S9} {k ci : Nat} (h : shp k = (0, ci)) : ent ad dA σ k = .inr (ci, (List.range (fkL.getD ci []).length).map (fun j => fvv ad σ k j (fk ci j))) := by unfold ent; rw [h]; rfl
/-- only cell k differs -/
theorem ent_aI {ad : Nat → Nat} {dA : Nat → ClassId} {σ : S9} {k k' : Nat} {f : Int → Int} (h : k' ≠ k) : ent ad dA (aI σ k f) k' = ent ad dA σ k' := by
  unfold ent
  have e1 : gI (aI σ k f) k' = gI σ k' := gI_aI_ne h
  have e2 : ∀ j t, fvv ad (aI σ k f) k' j t = fvv ad σ k' j t := by
    intro j t
    match t with
    | 0 => show Value.int _ = Value.int _; rw [e1]
    | 1 => rfl
    | _ + 2 => rfl
  split <;> simp only [e1, e2, gL_aI, gF_aI, gD_aI]
theorem ent_aL {ad : Nat → Nat} {dA : Nat → ClassId} {σ : S9} {k k' : Nat} {f : Int → Int} (h : k' ≠ k) : ent ad dA (aL σ k f) k' = ent ad dA σ k' := by
  unfold ent
  have e1 : gL (aL σ k f) k' = gL σ k' := gL_aL_ne h
  have e2 : ∀ j t, fvv ad (aL σ k f) k' j t = fvv ad σ k' j t := by
    intro j t
    match t with
    | 0 => rfl
    | 1 => show Value.long _ = Value.long _; rw [e1]
    | _ + 2 => rfl
  split <;> simp only [e1, e2, gI_aL, gF_aL, gD_aL]
theorem ent_aF {ad : Nat → Nat} {dA : Nat → ClassId} {σ : S9} {k k' : Nat} {f : Int → UInt32} (h : k' ≠ k) : ent ad dA (aF σ k f) k' = ent ad dA σ k' := by
  unfold ent
  have e1 : gF (aF σ k f) k' = gF σ k' := gF_aF_ne h
  have e2 : ∀ j t, fvv ad (aF σ k f) k' j t = fvv ad σ k' j t := by
    intro j t
    match t with
    | 0 => rfl
    | 1 => rfl
    | _ + 2 => rfl
  split <;> simp only [e1, e2, gI_aF, gL_aF, gD_aF]
theorem ent_aD {ad : Nat → Nat} {dA : Nat → ClassId} {σ : S9} {k k' : Nat} {f : Int → UInt64} (h : k' ≠ k) : ent ad dA (aD σ k f) k' = ent ad dA σ k' := by
  unfold ent
  have e1 : gD (aD σ k f) k' = gD σ k' := gD_aD_ne h
  have e2 : ∀ j t, fvv ad (aD σ k f) k' j t = fvv ad σ k' j t := by
    intro j t
    match t with
    | 0 => rfl
    | 1 => rfl
    | _ + 2 => rfl
  split <;> simp only [e1, e2, gI_aD, gL_aD, gF_aD]
/-! ===== locals ===== -/
/-- lv: what the locals hold; .null where nothing is known (a second half, nothing yet) -/
def lvOK (ad : Nat → Nat) (ls : Array Slot) (n : Nat) (lv : List Value) : Prop := ls.size = n ∧ lv_wf ls ∧ ∀ (i : Nat) (v : Value), lv[i]? = some v → v ≠ .null → ls[i]? = some (.val (trv ad v))
def prs (ad : Nat → Nat) (lv : List Value) : List (Nat × Value) := (List.range lv.length).filterMap (fun i => match lv[i]? with
  | some Value.null => none
  | some v => some (i, trv ad v)
  | none => none)
theorem mem_prs {ad : Nat → Nat} {lv : List Value} {q : Nat × Value} : q ∈ prs ad lv ↔ ∃ v : Value, lv[q.1]? = some v ∧ v ≠ .null ∧ q.2 = trv ad v := by
  unfold prs
  rw [List.mem_filterMap]
  constructor
  · rintro ⟨i, -, hi⟩
    cases hv : lv[i]? with
    | none => rw [hv] at hi; cases hi
    | some v =>
      rw [hv] at hi
      cases v <;> cases hi <;> exact ⟨_, hv, (fun h => by cases h), rfl⟩
  · rintro ⟨v, hv, hn, hq⟩
    refine ⟨q.1, List.mem_range.mpr (List.getElem?_eq_some_iff.mp hv).1, ?_⟩
    rw [hv]
    obtain ⟨q1, q2⟩ := q
    cases hq
    cases v <;> first | rfl | exact absurd rfl hn
theorem lvOK_has {ad : Nat → Nat} {ls : Array Slot} {n : Nat} {lv : List Value} (h : lvOK ad ls n lv) : lv_has ls n (prs ad lv) := by
  refine ⟨h.1, h.2.1, fun q hq => ?_⟩
  obtain ⟨v, h1, h2, h3⟩ := mem_prs.mp hq
  rw [h3]
  exact h.2.2 _ _ h1 h2
/-- the local before place i is no long, no double -/
def c1A (lv : List Value) : Nat → Bool
  | 0 => true
  | j + 1 => (lv.getD j .null).category == 1
theorem lvOK_st1 {ad : Nat → Nat} {ls' : Array Slot} {n i : Nat} {lv lv' : List Value} {v : Value} (hc : c1A lv i = true) (hlv : lv.set i v = lv')
    (h : lv_has ls' n ((i, trv ad v) :: (prs ad lv).filter (fun q => !(q.1 == i) && !(q.1 + 1 == i && q.2.category == 2)))) : lvOK ad ls' n lv' := by
  refine ⟨h.1, h.2.1, fun j w hw hn => ?_⟩
  subst hlv
  rw [List.getElem?_set] at hw
  by_cases hij : i = j
  · subst hij
    rw [if_pos rfl] at hw
    split at hw
    · cases hw
      exact h.2.2 (i, _) List.mem_cons_self
    · cases hw
  · rw [if_neg hij] at hw
    refine h.2.2 (j, trv ad w) (List.mem_cons_of_mem _ (List.mem_filter.mpr ⟨mem_prs.mpr ⟨w, hw, hn, rfl⟩, ?_⟩))
    by_cases h1 : j + 1 = i
    · subst h1
      have hcat : w.category = 1 := by
        have : (lv.getD j .null).category = 1 := by simpa [c1A] using hc
        rw [List.getD_eq_getElem?_getD, hw] at this
        exact this
      simp [trv_cat, hcat]
    · simp [h1]; omega
theorem lvOK_st2 {ad : Nat → Nat} {ls' : Array Slot} {n i : Nat} {lv lv' : List Value} {v : Value} (hc : c1A lv i = true) (hlv : (lv.set i v).set (i + 1) .null = lv')
    (h : lv_has ls' n ((i, trv ad v) :: (prs ad lv).filter (fun q => !(q.1 == i) && (!(q.1 == i + 1) && !(q.1 + 1 == i && q.2.category == 2))))) : lvOK ad ls' n lv' := by
  refine ⟨h.1, h.2.1, fun j w hw hn => ?_⟩
  subst hlv
  rw [List.getElem?_set] at hw
  by_cases h2 : i + 1 = j
  · subst h2
    rw [if_pos rfl] at hw
    split at hw
    · cases hw
      exact absurd rfl hn
    · cases hw
  · rw [if_neg h2, List.getElem?_set] at hw
    by_cases hij : i = j
    · subst hij
      rw [if_pos rfl] at hw
      split at hw
      · cases hw
        exact h.2.2 (i, _) List.mem_cons_self
      · cases hw
    · rw [if_neg hij] at hw
      refine h.2.2 (j, trv ad w) (List.mem_cons_of_mem _ (List.mem_filter.mpr ⟨mem_prs.mpr ⟨w, hw, hn, rfl⟩, ?_⟩))
      by_cases h1 : j + 1 = i
      · subst h1
        have hcat : w.category = 1 := by
          have : (lv.getD j .null).category = 1 := by simpa [c1A] using hc
          rw [List.getD_eq_getElem?_getD, hw] at this
          exact this
        simp [trv_cat, hcat]
        omega
      · simp [h1]; omega
/-! ===== the judgement ===== -/
/-- a method: its name, code, locals, answer's type -/
abbrev MI : Type := MethodName × ByteArray × Nat × Option FieldType
/-- the tables' words that every method may have -/
abbrev lw_sx : List Cond := [Cond.selects RX2 yX6_advance yX6_advance, Cond.selects RX3 yX6_advance yX6_advance]
def lw_w : List Cond := (lw_sx ++ lw_tbl).filter goodWord
abbrev pw9 (mi : MI) : List Cond := Cond.code mi.1 mi.2.1 mi.2.2.1 mi.2.2.2 :: lw_w
abbrev rm9 (d : Nat) : Room := { frames := d, cells := 0, slots := 0, locals := 60 * d + 1400 * min 1 (d / 4) }
def Qc9 (γ : G9) (Q : List Value → S9 → Prop) : Array Value → State → Outcome → State → Prop := fun _ st oc t =>
  (∃ (r : List Value) (σ' : S9), oc = .returned (r.head?.map (trv γ.1)) ∧ r.length ≤ 1 ∧ Q r σ' ∧ P9 γ σ' t.heap ∧ K9 γ t) ∧ va_F (gA γ) st t
def Ctx (γ : G9) (mi : MI) (p : Program) (s : State) (m : MethodId) (args : Array Value) (meth : Method) (c : Code) : Prop :=
  p.tables.exec = Jvm.exec ∧ c.code = mi.2.1 ∧ meth.sig.returnType = mi.2.2.2 ∧ c.maxLocals = mi.2.2.1 ∧ s.vm.findClass mi.1.cls = some m.cls ∧ (∀ w ∈ lw_w, w.before args s = true) ∧ meth.locks = false ∧ K9 γ s ∧ gOK γ
def Vv (d : Nat) (mi : MI) (pc : Nat) (lv st : List Value) (σ : S9) (Q : List Value → S9 → Prop) : Prop :=
  ∀ (γ : G9) (p : Program) (l : Launch) (e : Env) (s : State) (m : MethodId) (args : Array Value) (below : List Frame) (meth : Method) (c : Code) (H : Heap) (locs : List Loc) (d0 : Drawn) (ls : Array Slot),
    Ctx γ mi p s m args meth c → s.drawn.sameBut d0 lw_cs → lvOK γ.1 ls mi.2.2.1 lv → va_S (gA γ) s.heap H locs → P9 γ σ H →
    W p l e (rm9 d) (s.setDrawn d0) m args below meth c H locs 0 0 (MQD lw_cs below (Qc9 γ Q) args s 0 0 (gA γ)) (F0 m pc ls (st.map (trv γ.1)))
/-- a contract over the pure world -/
def Cc (d : Nat) (mi : MI) (av : List Value) (σ : S9) (Q : List Value → S9 → Prop) : Prop :=
  ∀ (γ : G9) (l : Launch), gOK γ → MetD lw_cs l mi.1 (pw9 mi) (rm9 d) (va_Pc (av.map (trv γ.1)) (fun U => P9 γ σ U.heap ∧ K9 γ U)) (Qc9 γ Q) 0 0 (gA γ)
abbrev QI (P : Int → S9 → Prop) : List Value → S9 → Prop := fun r σ => ∃ z : Int, r = [.int (iI z)] ∧ P z σ
abbrev QL (P : Int → S9 → Prop) : List Value → S9 → Prop := fun r σ => ∃ z : Int, r = [.long (lI z)] ∧ P z σ
abbrev QF (P : UInt32 → S9 → Prop) : List Value → S9 → Prop := fun r σ => ∃ z : UInt32, r = [.float z] ∧ P z σ
abbrev QD (P : UInt64 → S9 → Prop) : List Value → S9 → Prop := fun r σ => ∃ z : UInt64, r = [.double z] ∧ P z σ
abbrev QV (P : S9 → Prop) : List Value → S9 → Prop := fun r σ => r = [] ∧ P σ
/-- the locals with which a method begins -/
def lay9 : List Value → List Value
  | [] => []
  | v :: vs => if v.category = 2 then v :: .null :: lay9 vs else v :: lay9 vs
theorem lay9_args (ad : Nat → Nat) : ∀ (vs : List Value) (i j : Nat) (v : Value), (lay9 vs)[j]? = some v → v ≠ .null → (i + j, trv ad v) ∈ lv_args i (vs.map (trv ad))
  | [], i, j, v, h, _ => by simp [lay9] at h
  | w :: vs, i, j, v, h, hn => by
    unfold lay9 at h
    show (i + j, trv ad v) ∈ (i, trv ad w) :: lv_args (if (trv ad w).category = 2 then i + 2 else i + 1) (vs.map (trv ad))
    rw [trv_cat]
    by_cases hc : w.category = 2
    · rw [if_pos hc] at h ⊢
      match j, h with
      | 0, h => cases h; exact List.mem_cons_self
      | 1, h => cases h; exact absurd rfl hn
      | j + 2, h =>
        have := lay9_args ad vs (i + 2) j v h hn
        rw [show i + (j + 2) = i + 2 + j by omega]
        exact List.mem_cons_of_mem _ this
    · rw [if_neg hc] at h ⊢
      match j, h with
      | 0, h => cases h; exact List.mem_cons_self
      | j + 1, h =>
        have := lay9_args ad vs (i + 1) j v h hn
        rw [show i + (j + 1) = i + 1 + j by omega]
        exact List.mem_cons_of_mem _ this
/-- as MetD.ofW, by the method's name: its class plainly named, or no entry of that name in the table of natives -/
theorem MetD_ofWF {cs : List Choice} {l : Launch} {y : MethodName} {ws ws' : List Cond} {rm : Room} {Pc : Array Value → State → Prop} {Qc : Array Value → State → Outcome → State → Prop} {mc ms : Nat} {free : Addr → Prop} {cc : ByteArray} {maxL : Nat} {ret : Option FieldType}
    (hy : plainFor y = true) (hw : ws = Cond.code y cc maxL ret :: ws')
    (body : ∀ p e s m args below meth c s₁, BodyLoose p l y (headSpec ws rm) cc maxL ret e s m args below meth c s₁ → c.maxLocals = maxL → Pc args s → s.drawn.sameBut s.drawn cs →
      W p l e (headSpec ws rm).room (s.setDrawn s.drawn) m args below meth c s.heap [] 0 0 (MQD cs below Qc args s mc ms free) (entryFrame m args maxL)) : MetD cs l y ws rm Pc Qc mc ms free := by
  refine MetFree.of_bodySF (code := cc) (maxLocals := maxL) (ret := ret) hy ?_ ?_
  · intro args s m h hn
    obtain ⟨meth, c, h1, h2, h3, h4, h5, h6, -, -⟩ := Cond.code_spec hn (atoms_spec (ws := ws) h _ (by rw [hw]; exact List.mem_cons_self))
    exact ⟨meth, c, h1, h2, h3, h4, h5, h6⟩
  · intro p e s m args below meth c s₁ B hml hP _
    have hh0 : s₁.heap = s.heap := by rw [B.state]; rfl
    have X0 : Stand p l e (headSpec ws rm).room (s.setDrawn s.drawn) m args below meth c s₁ [] 0 0 := Stand.of_body B
    obtain ⟨t, a1, d, hd, o, b1, b2, b3, b4⟩ := body p e s m args below meth c s₁ B hml hP (Drawn.sameBut.refl _ _) s₁ hh0 X0
    exact ⟨t, o, a1, b1, b2, d, hd, b3, b4⟩
/-- a contract out of a walk -/
theorem Cc_of {d : Nat} {mi : MI} {av lv : List Value} {σ : S9} {Q : List Value → S9 → Prop} (hy : plainFor mi.1 = true) (hn : ∀ ad : Nat → Nat, (lg_sl (av.map (trv ad))).length ≤ mi.2.2.1)
    (hlv : lay9 av ++ List.replicate (mi.2.2.1 - (lay9 av).length) .null = lv) (k : Vv d mi 0 lv [] σ Q) : Cc d mi av σ Q := by
  intro γ l hG
  refine MetD_ofWF (cc := mi.2.1) (maxL := mi.2.2.1) (ret := mi.2.2.2) hy rfl ?_
  intro p e s m args below meth c s₁ B hml hv hd0
  obtain ⟨rfl, hP, hK⟩ := hv
  have hts := atoms_spec (ws := pw9 mi) B.pre
  have hl := lv_entry (av.map (trv γ.1)) (n := mi.2.2.1) (hn γ.1)
  rw [lg_entry_eq]
  generalize (lg_sl (av.map (trv γ.1)) ++ List.replicate (mi.2.2.1 - (lg_sl (av.map (trv γ.1))).length) Slot.unset).toArray = ls at hl ⊢
  refine k γ p l e s m _ below meth c s.heap [] s.drawn ls ⟨B.exec, B.bytes, B.returns, hml, findClass_of_methodNamed B.named, fun w h => hts w (List.mem_cons_of_mem _ h), B.notSynchronized, hK, hG⟩ hd0 ⟨hl.1, hl.2.1, fun i v hi hnn => ?_⟩ va_S.rf hP
  refine hl.2.2 (i, trv γ.1 v) ?_
  subst hlv
  by_cases hlt : i < (lay9 av).length
  · rw [List.getElem?_append_left hlt] at hi
    have := lay9_args γ.1 av 0 i v hi hnn
    rwa [Nat.zero_add] at this
  · rw [List.getElem?_append_right (Nat.not_lt.mp hlt), List.getElem?_replicate] at hi
    split at hi
    · cases hi; exact absurd rfl hnn
    · cases hi
