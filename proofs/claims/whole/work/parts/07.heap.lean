/-- cell k0's shape -/
def sh9 (k0 kind n : Nat) : Prop := k0 < NC ∧ shp k0 = (kind, n) ∧ n < 2147483648
theorem lw_good : ∀ w ∈ lw_w, (w.onTables && w.keeps) = true ∨ ∃ ty, w = .arrayClass ty := fun w hw => good_of_word (List.mem_filter.mp hw).2
theorem gi9 {ws : List Cond} (h : ∀ w ∈ ws, w ∈ lw_w) : GoodIn lw_w ws := fun w hw => ⟨h w hw, lw_good w (h w hw)⟩
/-- constant pool entry idx of class own is field j of class ci (in cls9), of kind kd -/
def fd9 (own : String) (idx ci j kd : Nat) : Prop := ∃ (C0 : String) (T : u_T) (N : Nat) (ref : String), cls9[ci]? = some (C0, T, N) ∧ j < N ∧ Cond.fieldLink own idx ref (T j).2.1 (T j).2.2.1 ∈ lw_w ∧ (∀ w ∈ u_ws C0 T N, w ∈ lw_w) ∧
  (∀ (U : State) (args : Array Value), (∀ w ∈ lw_w, w.before args U = true) → ∀ x, U.fieldFound? (T j).1 (T j).2.1 (T j).2.2.1 = some x → U.fieldFound? ref (T j).2.1 (T j).2.2.1 = some x) ∧ fk ci j = kd ∧ (fkL.getD ci []).length = N
def fp9 (own : String) (idx ci j kd : Nat) (ty : FieldType) : Prop := fd9 own idx ci j kd ∧ ∃ ty0 : Nat → FieldType, (∀ (T : u_T) (N : Nat) {C0 : String}, cls9[ci]? = some (C0, T, N) → ∀ k, k < N → parseFieldDescriptor (T k).2.2.1 = some (ty0 k)) ∧ (∀ (T : u_T) (N : Nat) {C0 : String}, cls9[ci]? = some (C0, T, N) → ∀ a, a < N → ∀ b, b < N → a ≠ b → (T a).2.1 ≠ (T b).2.1) ∧ (∀ (T : u_T) (N : Nat) {C0 : String}, cls9[ci]? = some (C0, T, N) → (T j).2.2.2 = false) ∧ (∀ (T : u_T) (N : Nat) {C0 : String}, cls9[ci]? = some (C0, T, N) → parseFieldDescriptor (T j).2.2.1 = some ty)
theorem upd9_ {α β : Type} (c : β → α) (f : Int → β) {z : Int} (x : β) (h : 0 ≤ z) (h2 : z < 2147483648) : (fun q : Nat => if q = (iI z).toNatClampNeg then c x else c (f (q : Int))) = fun j : Nat => c (up9 f z x (j : Int)) := by
  funext q
  rw [iI_clamp h h2]
  unfold up9
  by_cases e : q = z.toNat
  · rw [if_pos e, if_pos (by omega)]
  · rw [if_neg e, if_neg (by omega)]
theorem sti9 {ad : Nat → Nat} {dA : Nat → ClassId} {σ : S9} {k0 n : Nat} {z x : Int} (h : 0 ≤ z) (h2 : z < 2147483648) (hs : shp k0 = (1, n)) : (Sum.inl (dA 0, n, .inl (upd (fun j => iI (gI σ k0 (j : Int))) (iI z).toNatClampNeg (iI x))) : va_E) = ent ad dA (sI σ k0 z x) k0 := by
  rw [ent_I hs, gI_aI_eq]
  exact congrArg (fun g => (Sum.inl (dA 0, n, .inl g) : va_E)) (upd9_ iI (gI σ k0) x h h2)
theorem stb9 {ad : Nat → Nat} {dA : Nat → ClassId} {σ : S9} {k0 n : Nat} {z x : Int} (h : 0 ≤ z) (h2 : z < 2147483648) (hs : shp k0 = (5, n)) (hx8 : -128 ≤ x ∧ x < 128) : (Sum.inl (dA 4, n, .inl (upd (fun j => iI (gI σ k0 (j : Int))) (iI z).toNatClampNeg (vp_nar .byte (iI x)))) : va_E) = ent ad dA (sI σ k0 z x) k0 := by
  rw [ent_B hs, gI_aI_eq, vp_nar_byte, i2b9 hx8]
  exact congrArg (fun g => (Sum.inl (dA 4, n, .inl g) : va_E)) (upd9_ iI (gI σ k0) x h h2)
theorem stl9 {ad : Nat → Nat} {dA : Nat → ClassId} {σ : S9} {k0 n : Nat} {z x : Int} (h : 0 ≤ z) (h2 : z < 2147483648) (hs : shp k0 = (2, n)) : (Sum.inl (dA 1, n, .inr (.inl (vp_updL (fun j => lI (gL σ k0 (j : Int))) (iI z).toNatClampNeg (lI x)))) : va_E) = ent ad dA (sL σ k0 z x) k0 := by
  rw [ent_L hs, gL_aL_eq]
  exact congrArg (fun g => (Sum.inl (dA 1, n, .inr (.inl g)) : va_E)) (upd9_ lI (gL σ k0) x h h2)
theorem stf9 {ad : Nat → Nat} {dA : Nat → ClassId} {σ : S9} {k0 n : Nat} {z : Int} {x : UInt32} (h : 0 ≤ z) (h2 : z < 2147483648) (hs : shp k0 = (3, n)) : (Sum.inl (dA 2, n, .inr (.inr (.inl (vf_upd (fun j => gF σ k0 (j : Int)) (iI z).toNatClampNeg x)))) : va_E) = ent ad dA (sF σ k0 z x) k0 := by
  rw [ent_F hs, gF_aF_eq]
  exact congrArg (fun g => (Sum.inl (dA 2, n, .inr (.inr (.inl g))) : va_E)) (upd9_ id (gF σ k0) x h h2)
theorem std9 {ad : Nat → Nat} {dA : Nat → ClassId} {σ : S9} {k0 n : Nat} {z : Int} {x : UInt64} (h : 0 ≤ z) (h2 : z < 2147483648) (hs : shp k0 = (4, n)) : (Sum.inl (dA 3, n, .inr (.inr (.inr (.inl (vf_upd (fun j => gD σ k0 (j : Int)) (iI z).toNatClampNeg x))))) : va_E) = ent ad dA (sD σ k0 z x) k0 := by
  rw [ent_D hs, gD_aD_eq]
  exact congrArg (fun g => (Sum.inl (dA 3, n, .inr (.inr (.inr (.inl g)))) : va_E)) (upd9_ id (gD σ k0) x h h2)
theorem fsI9 {ad : Nat → Nat} {dA : Nat → ClassId} {σ : S9} {k0 ci j : Nat} {x : Int} (hs : shp k0 = (0, ci)) (hfk : fk ci j = 0) : (Sum.inr (ci, ((List.range (fkL.getD ci []).length).map (fun j => fvv ad σ k0 j (fk ci j))).set j (.int (iI x))) : va_E) = ent ad dA (sI σ k0 (j : Nat) x) k0 := by
  rw [ent_O hs]
  congr 2
  apply List.ext_getElem?
  intro i
  rw [List.getElem?_set, List.length_map, List.length_range]
  by_cases hi : i < (fkL.getD ci []).length
  · by_cases hij : j = i
    · subst hij
      rw [if_pos rfl, if_pos hi, List.getElem?_map, List.getElem?_range hi]
      show some _ = some (fvv _ _ _ _ _)
      rw [hfk]
      show some _ = some (Value.int (iI (gI _ _ _)))
      rw [gI_aI_eq, up9_eq]
    · rw [if_neg hij, List.getElem?_map, List.getElem?_map, List.getElem?_range hi]
      have key : ∀ t, fvv ad σ k0 i t = fvv ad (sI σ k0 (j : Nat) x) k0 i t := by
        intro t
        match t with
        | 0 => show Value.int (iI (gI _ _ _)) = Value.int (iI (gI _ _ _)); rw [gI_aI_eq, up9_ne (by omega)]
        | 1 => rfl
        | _ + 2 => rfl
      exact congrArg some (key _)
  · have h1 : (List.range (fkL.getD ci []).length)[i]? = none := List.getElem?_eq_none (by rw [List.length_range]; omega)
    rw [List.getElem?_map, List.getElem?_map, h1]
    split
    · split
      · omega
      · rfl
    · rfl
theorem fsL9 {ad : Nat → Nat} {dA : Nat → ClassId} {σ : S9} {k0 ci j : Nat} {x : Int} (hs : shp k0 = (0, ci)) (hfk : fk ci j = 1) : (Sum.inr (ci, ((List.range (fkL.getD ci []).length).map (fun j => fvv ad σ k0 j (fk ci j))).set j (.long (lI x))) : va_E) = ent ad dA (sL σ k0 (j : Nat) x) k0 := by
  rw [ent_O hs]
  congr 2
  apply List.ext_getElem?
  intro i
  rw [List.getElem?_set, List.length_map, List.length_range]
  by_cases hi : i < (fkL.getD ci []).length
  · by_cases hij : j = i
    · subst hij
      rw [if_pos rfl, if_pos hi, List.getElem?_map, List.getElem?_range hi]
      show some _ = some (fvv _ _ _ _ _)
      rw [hfk]
      show some _ = some (Value.long (lI (gL _ _ _)))
      rw [gL_aL_eq, up9_eq]
    · rw [if_neg hij, List.getElem?_map, List.getElem?_map, List.getElem?_range hi]
      have key : ∀ t, fvv ad σ k0 i t = fvv ad (sL σ k0 (j : Nat) x) k0 i t := by
        intro t
        match t with
        | 0 => rfl
        | 1 => show Value.long (lI (gL _ _ _)) = Value.long (lI (gL _ _ _)); rw [gL_aL_eq, up9_ne (by omega)]
        | _ + 2 => rfl
      exact congrArg some (key _)
  · have h1 : (List.range (fkL.getD ci []).length)[i]? = none := List.getElem?_eq_none (by rw [List.length_range]; omega)
    rw [List.getElem?_map, List.getElem?_map, h1]
    split
    · split
      · omega
      · rfl
    · rfl
section
variable {d : Nat} {mi : MI} {pc : Nat} {lv lv' st : List Value} {σ : S9} {Q : List Value → S9 → Prop}
theorem v_iaload {k0 n : Nat} {z : Int} (hd : decode mi.2.1 pc = .ok (.iaload, 1)) (hs9 : sh9 k0 1 n) (hz : 0 ≤ z ∧ z < n) (k : Vv d mi (pc + 1) lv (.int (iI (gI σ k0 z)) :: st) σ Q) : Vv d mi pc lv (.int (iI z) :: .ref k0 :: st) σ Q := by
  intro γ p l e s m args below meth c H locs d0 ls C hd0 hl hS hP
  obtain ⟨hx, hb, hr, hml, hown, hts, hlk, hK, hG⟩ := id C
  have hK1 : va_K (γ.2.1, γ.2.2.1) cls9 (ty9 γ) (s.setDrawn d0) := hK.1
  have hP1 : va_P (γ.2.1, γ.2.2.1) cls9 (ws9 γ σ) H := hP
  have hown1 : (s.setDrawn d0).vm.findClass mi.1.cls = some m.cls := hown
  obtain ⟨hk, hs, hn⟩ := hs9
  have hg : (ws9 γ σ)[k0]? = some (γ.1 k0, .inl (γ.2.2.2 0, n, .inl (fun j => iI (gI σ k0 (j : Int))))) := (ws9_get hk).trans (by rw [ent_I hs])
  refine va_iald hx hb hK1 hP1 k0 0 hg rfl (iI_in hz.1 hz.2 hn) hd ?_
  rw [iI_clamp hz.1 (by omega), Int.toNat_of_nonneg hz.1]
  exact k γ p l e s m args below meth c H locs d0 ls C hd0 hl hS hP
theorem v_laload {k0 n : Nat} {z : Int} (hd : decode mi.2.1 pc = .ok (.laload, 1)) (hs9 : sh9 k0 2 n) (hz : 0 ≤ z ∧ z < n) (k : Vv d mi (pc + 1) lv (.long (lI (gL σ k0 z)) :: st) σ Q) : Vv d mi pc lv (.int (iI z) :: .ref k0 :: st) σ Q := by
  intro γ p l e s m args below meth c H locs d0 ls C hd0 hl hS hP
  obtain ⟨hx, hb, hr, hml, hown, hts, hlk, hK, hG⟩ := id C
  have hK1 : va_K (γ.2.1, γ.2.2.1) cls9 (ty9 γ) (s.setDrawn d0) := hK.1
  have hP1 : va_P (γ.2.1, γ.2.2.1) cls9 (ws9 γ σ) H := hP
  have hown1 : (s.setDrawn d0).vm.findClass mi.1.cls = some m.cls := hown
  obtain ⟨hk, hs, hn⟩ := hs9
  have hg : (ws9 γ σ)[k0]? = some (γ.1 k0, .inl (γ.2.2.2 1, n, .inr (.inl (fun j => lI (gL σ k0 (j : Int)))))) := (ws9_get hk).trans (by rw [ent_L hs])
  refine va_lald hx hb hK1 hP1 k0 1 hg rfl (iI_in hz.1 hz.2 hn) hd ?_
  rw [iI_clamp hz.1 (by omega), Int.toNat_of_nonneg hz.1]
  exact k γ p l e s m args below meth c H locs d0 ls C hd0 hl hS hP
theorem v_faload {k0 n : Nat} {z : Int} (hd : decode mi.2.1 pc = .ok (.faload, 1)) (hs9 : sh9 k0 3 n) (hz : 0 ≤ z ∧ z < n) (k : Vv d mi (pc + 1) lv (.float (gF σ k0 z) :: st) σ Q) : Vv d mi pc lv (.int (iI z) :: .ref k0 :: st) σ Q := by
  intro γ p l e s m args below meth c H locs d0 ls C hd0 hl hS hP
  obtain ⟨hx, hb, hr, hml, hown, hts, hlk, hK, hG⟩ := id C
  have hK1 : va_K (γ.2.1, γ.2.2.1) cls9 (ty9 γ) (s.setDrawn d0) := hK.1
  have hP1 : va_P (γ.2.1, γ.2.2.1) cls9 (ws9 γ σ) H := hP
  have hown1 : (s.setDrawn d0).vm.findClass mi.1.cls = some m.cls := hown
  obtain ⟨hk, hs, hn⟩ := hs9
  have hg : (ws9 γ σ)[k0]? = some (γ.1 k0, .inl (γ.2.2.2 2, n, .inr (.inr (.inl (fun j => gF σ k0 (j : Int)))))) := (ws9_get hk).trans (by rw [ent_F hs])
  refine va_fald hx hb hK1 hP1 k0 2 hg rfl (iI_in hz.1 hz.2 hn) hd ?_
  rw [iI_clamp hz.1 (by omega), Int.toNat_of_nonneg hz.1]
  exact k γ p l e s m args below meth c H locs d0 ls C hd0 hl hS hP
theorem v_daload {k0 n : Nat} {z : Int} (hd : decode mi.2.1 pc = .ok (.daload, 1)) (hs9 : sh9 k0 4 n) (hz : 0 ≤ z ∧ z < n) (k : Vv d mi (pc + 1) lv (.double (gD σ k0 z) :: st) σ Q) : Vv d mi pc lv (.int (iI z) :: .ref k0 :: st) σ Q := by
  intro γ p l e s m args below meth c H locs d0 ls C hd0 hl hS hP
  obtain ⟨hx, hb, hr, hml, hown, hts, hlk, hK, hG⟩ := id C
  have hK1 : va_K (γ.2.1, γ.2.2.1) cls9 (ty9 γ) (s.setDrawn d0) := hK.1
  have hP1 : va_P (γ.2.1, γ.2.2.1) cls9 (ws9 γ σ) H := hP
  have hown1 : (s.setDrawn d0).vm.findClass mi.1.cls = some m.cls := hown
  obtain ⟨hk, hs, hn⟩ := hs9
  have hg : (ws9 γ σ)[k0]? = some (γ.1 k0, .inl (γ.2.2.2 3, n, .inr (.inr (.inr (.inl (fun j => gD σ k0 (j : Int))))))) := (ws9_get hk).trans (by rw [ent_D hs])
  refine va_dald hx hb hK1 hP1 k0 3 hg rfl (iI_in hz.1 hz.2 hn) hd ?_
  rw [iI_clamp hz.1 (by omega), Int.toNat_of_nonneg hz.1]
  exact k γ p l e s m args below meth c H locs d0 ls C hd0 hl hS hP
theorem v_baload {k0 n : Nat} {z : Int} (hd : decode mi.2.1 pc = .ok (.baload, 1)) (hs9 : sh9 k0 5 n) (hz : 0 ≤ z ∧ z < n) (k : Vv d mi (pc + 1) lv (.int (iI (gI σ k0 z)) :: st) σ Q) : Vv d mi pc lv (.int (iI z) :: .ref k0 :: st) σ Q := by
  intro γ p l e s m args below meth c H locs d0 ls C hd0 hl hS hP
  obtain ⟨hx, hb, hr, hml, hown, hts, hlk, hK, hG⟩ := id C
  have hK1 : va_K (γ.2.1, γ.2.2.1) cls9 (ty9 γ) (s.setDrawn d0) := hK.1
  have hP1 : va_P (γ.2.1, γ.2.2.1) cls9 (ws9 γ σ) H := hP
  have hown1 : (s.setDrawn d0).vm.findClass mi.1.cls = some m.cls := hown
  obtain ⟨hk, hs, hn⟩ := hs9
  have hg : (ws9 γ σ)[k0]? = some (γ.1 k0, .inl (γ.2.2.2 4, n, .inl (fun j => iI (gI σ k0 (j : Int))))) := (ws9_get hk).trans (by rw [ent_B hs])
  refine va_bald hx hb hK1 hP1 k0 4 hg rfl (iI_in hz.1 hz.2 hn) hd ?_
  rw [iI_clamp hz.1 (by omega), Int.toNat_of_nonneg hz.1]
  exact k γ p l e s m args below meth c H locs d0 ls C hd0 hl hS hP
theorem v_aaloadS {k0 n k1 : Nat} {z : Int} (hd : decode mi.2.1 pc = .ok (.aaload, 1)) (hs9 : sh9 k0 6 n) (hz : 0 ≤ z ∧ z < n) (hr1 : rfs k0 z.toNat = k1) (k : Vv d mi (pc + 1) lv (.ref k1 :: st) σ Q) : Vv d mi pc lv (.int (iI z) :: .ref k0 :: st) σ Q := by
  intro γ p l e s m args below meth c H locs d0 ls C hd0 hl hS hP
  obtain ⟨hx, hb, hr, hml, hown, hts, hlk, hK, hG⟩ := id C
  have hK1 : va_K (γ.2.1, γ.2.2.1) cls9 (ty9 γ) (s.setDrawn d0) := hK.1
  have hP1 : va_P (γ.2.1, γ.2.2.1) cls9 (ws9 γ σ) H := hP
  have hown1 : (s.setDrawn d0).vm.findClass mi.1.cls = some m.cls := hown
  subst hr1
  obtain ⟨hk, hs, hn⟩ := hs9
  have hg : (ws9 γ σ)[k0]? = some (γ.1 k0, .inl (γ.2.2.2 5, n, .inr (.inr (.inr (.inr (fun j => some (γ.1 (rfs k0 j)))))))) := (ws9_get hk).trans (by rw [ent_S hs])
  have hin := iI_in hz.1 hz.2 hn
  have hlt : (iI z).toNatClampNeg < n := Nat.not_le.mp fun q => hin (Or.inr q)
  refine W.aald (v := .ref (γ.1 (rfs k0 z.toNat))) (ty := .object "RewritingTermination$Slot") hx hb (hP1 k0 _ hg) ((hK1.2 5 _ rfl).1 n (fun j => va_rf (some (γ.1 (rfs k0 j))))) rfl (fun q => by cases q) (by show ¬ (iI z < 0 ∨ (arrV _ _ _).slots.size ≤ _); rw [arrV_size]; exact hin) (by show (arrV _ _ _).slots[_]? = _; rw [arrV_read _ _ hlt, iI_clamp hz.1 (by omega)]; rfl) rfl rfl hd ?_
  exact k γ p l e s m args below meth c H locs d0 ls C hd0 hl hS hP
theorem v_aaloadR {k0 n k1 : Nat} {z : Int} (hd : decode mi.2.1 pc = .ok (.aaload, 1)) (hs9 : sh9 k0 7 n) (hz : 0 ≤ z ∧ z < n) (hr1 : rfs k0 z.toNat = k1) (k : Vv d mi (pc + 1) lv (.ref k1 :: st) σ Q) : Vv d mi pc lv (.int (iI z) :: .ref k0 :: st) σ Q := by
  intro γ p l e s m args below meth c H locs d0 ls C hd0 hl hS hP
  obtain ⟨hx, hb, hr, hml, hown, hts, hlk, hK, hG⟩ := id C
  have hK1 : va_K (γ.2.1, γ.2.2.1) cls9 (ty9 γ) (s.setDrawn d0) := hK.1
  have hP1 : va_P (γ.2.1, γ.2.2.1) cls9 (ws9 γ σ) H := hP
  have hown1 : (s.setDrawn d0).vm.findClass mi.1.cls = some m.cls := hown
  subst hr1
  obtain ⟨hk, hs, hn⟩ := hs9
  have hg : (ws9 γ σ)[k0]? = some (γ.1 k0, .inl (γ.2.2.2 6, n, .inr (.inr (.inr (.inr (fun j => some (γ.1 (rfs k0 j)))))))) := (ws9_get hk).trans (by rw [ent_R hs])
  have hin := iI_in hz.1 hz.2 hn
  have hlt : (iI z).toNatClampNeg < n := Nat.not_le.mp fun q => hin (Or.inr q)
  refine W.aald (v := .ref (γ.1 (rfs k0 z.toNat))) (ty := .array .int) hx hb (hP1 k0 _ hg) ((hK1.2 6 _ rfl).1 n (fun j => va_rf (some (γ.1 (rfs k0 j))))) rfl (fun q => by cases q) (by show ¬ (iI z < 0 ∨ (arrV _ _ _).slots.size ≤ _); rw [arrV_size]; exact hin) (by show (arrV _ _ _).slots[_]? = _; rw [arrV_read _ _ hlt, iI_clamp hz.1 (by omega)]; rfl) rfl rfl hd ?_
  exact k γ p l e s m args below meth c H locs d0 ls C hd0 hl hS hP
theorem v_alen {k0 n : Nat} (hd : decode mi.2.1 pc = .ok (.arraylength, 1)) (hs9 : sh9 k0 1 n) (k : Vv d mi (pc + 1) lv (.int (iI (n : Nat)) :: st) σ Q) : Vv d mi pc lv (.ref k0 :: st) σ Q := by
  intro γ p l e s m args below meth c H locs d0 ls C hd0 hl hS hP
  obtain ⟨hx, hb, hr, hml, hown, hts, hlk, hK, hG⟩ := id C
  have hK1 : va_K (γ.2.1, γ.2.2.1) cls9 (ty9 γ) (s.setDrawn d0) := hK.1
  have hP1 : va_P (γ.2.1, γ.2.2.1) cls9 (ws9 γ σ) H := hP
  have hown1 : (s.setDrawn d0).vm.findClass mi.1.cls = some m.cls := hown
  obtain ⟨hk, hs, hn⟩ := hs9
  have hg : (ws9 γ σ)[k0]? = some (γ.1 k0, .inl (γ.2.2.2 0, n, .inl (fun j => iI (gI σ k0 (j : Int))))) := (ws9_get hk).trans (by rw [ent_I hs])
  refine va_alen (v := iI (n : Nat)) hx hb hK1 hP1 k0 0 hg (ty := .int) rfl Int32.ofInt_eq_ofNat.symm hd ?_
  exact k γ p l e s m args below meth c H locs d0 ls C hd0 hl hS hP
theorem v_iastore {k0 n : Nat} {z : Int} {x : Int} (hd : decode mi.2.1 pc = .ok (.iastore, 1)) (hs9 : sh9 k0 1 n) (hz : 0 ≤ z ∧ z < n) (k : Vv d mi (pc + 1) lv st (sI σ k0 z x) Q) : Vv d mi pc lv (.int (iI x) :: .int (iI z) :: .ref k0 :: st) σ Q := by
  intro γ p l e s m args below meth c H locs d0 ls C hd0 hl hS hP
  obtain ⟨hx, hb, hr, hml, hown, hts, hlk, hK, hG⟩ := id C
  have hK1 : va_K (γ.2.1, γ.2.2.1) cls9 (ty9 γ) (s.setDrawn d0) := hK.1
  have hP1 : va_P (γ.2.1, γ.2.2.1) cls9 (ws9 γ σ) H := hP
  have hown1 : (s.setDrawn d0).vm.findClass mi.1.cls = some m.cls := hown
  obtain ⟨hk, hs, hn⟩ := hs9
  have hg : (ws9 γ σ)[k0]? = some (γ.1 k0, .inl (γ.2.2.2 0, n, .inl (fun j => iI (gI σ k0 (j : Int))))) := (ws9_get hk).trans (by rw [ent_I hs])
  refine va_iast (A := gA γ) hx hb hK1 hP1 (ws9_D hG) hS k0 0 hg rfl (iI_in hz.1 hz.2 hn) hd (fun H locs hP hD hS => ?_)
  rw [ws9_set (σ' := sI σ k0 z x) (k := k0) (sti9 hz.1 (by omega) hs) (fun k' hk' => ent_aI hk')] at hP
  exact k γ p l e s m args below meth c H locs d0 ls C hd0 hl hS hP
theorem v_lastore {k0 n : Nat} {z : Int} {x : Int} (hd : decode mi.2.1 pc = .ok (.lastore, 1)) (hs9 : sh9 k0 2 n) (hz : 0 ≤ z ∧ z < n) (k : Vv d mi (pc + 1) lv st (sL σ k0 z x) Q) : Vv d mi pc lv (.long (lI x) :: .int (iI z) :: .ref k0 :: st) σ Q := by
  intro γ p l e s m args below meth c H locs d0 ls C hd0 hl hS hP
  obtain ⟨hx, hb, hr, hml, hown, hts, hlk, hK, hG⟩ := id C
  have hK1 : va_K (γ.2.1, γ.2.2.1) cls9 (ty9 γ) (s.setDrawn d0) := hK.1
  have hP1 : va_P (γ.2.1, γ.2.2.1) cls9 (ws9 γ σ) H := hP
  have hown1 : (s.setDrawn d0).vm.findClass mi.1.cls = some m.cls := hown
  obtain ⟨hk, hs, hn⟩ := hs9
  have hg : (ws9 γ σ)[k0]? = some (γ.1 k0, .inl (γ.2.2.2 1, n, .inr (.inl (fun j => lI (gL σ k0 (j : Int)))))) := (ws9_get hk).trans (by rw [ent_L hs])
  refine va_last (A := gA γ) hx hb hK1 hP1 (ws9_D hG) hS k0 1 hg rfl (iI_in hz.1 hz.2 hn) hd (fun H locs hP hD hS => ?_)
  rw [ws9_set (σ' := sL σ k0 z x) (k := k0) (stl9 hz.1 (by omega) hs) (fun k' hk' => ent_aL hk')] at hP
  exact k γ p l e s m args below meth c H locs d0 ls C hd0 hl hS hP
theorem v_fastore {k0 n : Nat} {z : Int} {x : UInt32} (hd : decode mi.2.1 pc = .ok (.fastore, 1)) (hs9 : sh9 k0 3 n) (hz : 0 ≤ z ∧ z < n) (k : Vv d mi (pc + 1) lv st (sF σ k0 z x) Q) : Vv d mi pc lv (.float x :: .int (iI z) :: .ref k0 :: st) σ Q := by
  intro γ p l e s m args below meth c H locs d0 ls C hd0 hl hS hP
  obtain ⟨hx, hb, hr, hml, hown, hts, hlk, hK, hG⟩ := id C
  have hK1 : va_K (γ.2.1, γ.2.2.1) cls9 (ty9 γ) (s.setDrawn d0) := hK.1
  have hP1 : va_P (γ.2.1, γ.2.2.1) cls9 (ws9 γ σ) H := hP
  have hown1 : (s.setDrawn d0).vm.findClass mi.1.cls = some m.cls := hown
  obtain ⟨hk, hs, hn⟩ := hs9
  have hg : (ws9 γ σ)[k0]? = some (γ.1 k0, .inl (γ.2.2.2 2, n, .inr (.inr (.inl (fun j => gF σ k0 (j : Int)))))) := (ws9_get hk).trans (by rw [ent_F hs])
  refine va_fast (A := gA γ) hx hb hK1 hP1 (ws9_D hG) hS k0 2 hg rfl (iI_in hz.1 hz.2 hn) hd (fun H locs hP hD hS => ?_)
  rw [ws9_set (σ' := sF σ k0 z x) (k := k0) (stf9 hz.1 (by omega) hs) (fun k' hk' => ent_aF hk')] at hP
  exact k γ p l e s m args below meth c H locs d0 ls C hd0 hl hS hP
theorem v_dastore {k0 n : Nat} {z : Int} {x : UInt64} (hd : decode mi.2.1 pc = .ok (.dastore, 1)) (hs9 : sh9 k0 4 n) (hz : 0 ≤ z ∧ z < n) (k : Vv d mi (pc + 1) lv st (sD σ k0 z x) Q) : Vv d mi pc lv (.double x :: .int (iI z) :: .ref k0 :: st) σ Q := by
  intro γ p l e s m args below meth c H locs d0 ls C hd0 hl hS hP
  obtain ⟨hx, hb, hr, hml, hown, hts, hlk, hK, hG⟩ := id C
  have hK1 : va_K (γ.2.1, γ.2.2.1) cls9 (ty9 γ) (s.setDrawn d0) := hK.1
  have hP1 : va_P (γ.2.1, γ.2.2.1) cls9 (ws9 γ σ) H := hP
  have hown1 : (s.setDrawn d0).vm.findClass mi.1.cls = some m.cls := hown
  obtain ⟨hk, hs, hn⟩ := hs9
  have hg : (ws9 γ σ)[k0]? = some (γ.1 k0, .inl (γ.2.2.2 3, n, .inr (.inr (.inr (.inl (fun j => gD σ k0 (j : Int))))))) := (ws9_get hk).trans (by rw [ent_D hs])
  refine va_dast (A := gA γ) hx hb hK1 hP1 (ws9_D hG) hS k0 3 hg rfl (iI_in hz.1 hz.2 hn) hd (fun H locs hP hD hS => ?_)
  rw [ws9_set (σ' := sD σ k0 z x) (k := k0) (std9 hz.1 (by omega) hs) (fun k' hk' => ent_aD hk')] at hP
  exact k γ p l e s m args below meth c H locs d0 ls C hd0 hl hS hP
theorem v_bastore {k0 n : Nat} {z : Int} {x : Int} (hd : decode mi.2.1 pc = .ok (.bastore, 1)) (hs9 : sh9 k0 5 n) (hz : 0 ≤ z ∧ z < n) (hx8 : -128 ≤ x ∧ x < 128) (k : Vv d mi (pc + 1) lv st (sI σ k0 z x) Q) : Vv d mi pc lv (.int (iI x) :: .int (iI z) :: .ref k0 :: st) σ Q := by
  intro γ p l e s m args below meth c H locs d0 ls C hd0 hl hS hP
  obtain ⟨hx, hb, hr, hml, hown, hts, hlk, hK, hG⟩ := id C
  have hK1 : va_K (γ.2.1, γ.2.2.1) cls9 (ty9 γ) (s.setDrawn d0) := hK.1
  have hP1 : va_P (γ.2.1, γ.2.2.1) cls9 (ws9 γ σ) H := hP
  have hown1 : (s.setDrawn d0).vm.findClass mi.1.cls = some m.cls := hown
  obtain ⟨hk, hs, hn⟩ := hs9
  have hg : (ws9 γ σ)[k0]? = some (γ.1 k0, .inl (γ.2.2.2 4, n, .inl (fun j => iI (gI σ k0 (j : Int))))) := (ws9_get hk).trans (by rw [ent_B hs])
  refine va_bast (A := gA γ) hx hb hK1 hP1 (ws9_D hG) hS k0 4 hg rfl (iI_in hz.1 hz.2 hn) hd (fun H locs hP hD hS => ?_)
  rw [ws9_set (σ' := sI σ k0 z x) (k := k0) (stb9 hz.1 (by omega) hs hx8) (fun k' hk' => ent_aI hk')] at hP
  exact k γ p l e s m args below meth c H locs d0 ls C hd0 hl hS hP
theorem v_getI {k0 ci idx j : Nat} {ji : Int} (hd : decode mi.2.1 pc = .ok (.getfield idx, 3)) (hs9 : sh9 k0 0 ci) (hf : fd9 mi.1.cls idx ci j 0) (hj : ((j : Nat) : Int) = ji) (k : Vv d mi (pc + 3) lv (.int (iI (gI σ k0 ji)) :: st) σ Q) : Vv d mi pc lv (.ref k0 :: st) σ Q := by
  intro γ p l e s m args below meth c H locs d0 ls C hd0 hl hS hP
  obtain ⟨hx, hb, hr, hml, hown, hts, hlk, hK, hG⟩ := id C
  have hK1 : va_K (γ.2.1, γ.2.2.1) cls9 (ty9 γ) (s.setDrawn d0) := hK.1
  have hP1 : va_P (γ.2.1, γ.2.2.1) cls9 (ws9 γ σ) H := hP
  have hown1 : (s.setDrawn d0).vm.findClass mi.1.cls = some m.cls := hown
  subst hj
  obtain ⟨hk, hs, hn⟩ := hs9
  obtain ⟨C0, T, N, ref, hc, hjN, hw, hin, hsm, hfk, hlen⟩ := hf
  have hg : (ws9 γ σ)[k0]? = some (γ.1 k0, .inr (ci, (List.range (fkL.getD ci []).length).map (fun j => fvv γ.1 σ k0 j (fk ci j)))) := (ws9_get hk).trans (by rw [ent_O hs])
  refine va_get (ci := ci) (C := C0) (T := T) (N := N) (v := fvv γ.1 σ k0 j 0) hx hb (dr_words hts _) hin hown1 hK1 hP1 k0 hg hc j hjN (dr_words hts _ _ hw) (hsm (s.setDrawn d0) args (dr_words hts _)) (by rw [List.getElem?_map, List.getElem?_range (by omega)]; show some (fvv γ.1 σ k0 j (fk ci j)) = _; rw [hfk]) hd ?_
  exact k γ p l e s m args below meth c H locs d0 ls C hd0 hl hS hP
theorem v_getL {k0 ci idx j : Nat} {ji : Int} (hd : decode mi.2.1 pc = .ok (.getfield idx, 3)) (hs9 : sh9 k0 0 ci) (hf : fd9 mi.1.cls idx ci j 1) (hj : ((j : Nat) : Int) = ji) (k : Vv d mi (pc + 3) lv (.long (lI (gL σ k0 ji)) :: st) σ Q) : Vv d mi pc lv (.ref k0 :: st) σ Q := by
  intro γ p l e s m args below meth c H locs d0 ls C hd0 hl hS hP
  obtain ⟨hx, hb, hr, hml, hown, hts, hlk, hK, hG⟩ := id C
  have hK1 : va_K (γ.2.1, γ.2.2.1) cls9 (ty9 γ) (s.setDrawn d0) := hK.1
  have hP1 : va_P (γ.2.1, γ.2.2.1) cls9 (ws9 γ σ) H := hP
  have hown1 : (s.setDrawn d0).vm.findClass mi.1.cls = some m.cls := hown
  subst hj
  obtain ⟨hk, hs, hn⟩ := hs9
  obtain ⟨C0, T, N, ref, hc, hjN, hw, hin, hsm, hfk, hlen⟩ := hf
  have hg : (ws9 γ σ)[k0]? = some (γ.1 k0, .inr (ci, (List.range (fkL.getD ci []).length).map (fun j => fvv γ.1 σ k0 j (fk ci j)))) := (ws9_get hk).trans (by rw [ent_O hs])
  refine va_get (ci := ci) (C := C0) (T := T) (N := N) (v := fvv γ.1 σ k0 j 1) hx hb (dr_words hts _) hin hown1 hK1 hP1 k0 hg hc j hjN (dr_words hts _ _ hw) (hsm (s.setDrawn d0) args (dr_words hts _)) (by rw [List.getElem?_map, List.getElem?_range (by omega)]; show some (fvv γ.1 σ k0 j (fk ci j)) = _; rw [hfk]) hd ?_
  exact k γ p l e s m args below meth c H locs d0 ls C hd0 hl hS hP
theorem v_getR {k0 ci idx j k1 : Nat} (hd : decode mi.2.1 pc = .ok (.getfield idx, 3)) (hs9 : sh9 k0 0 ci) (hf : fd9 mi.1.cls idx ci j 2) (hr1 : rfs k0 j = k1) (k : Vv d mi (pc + 3) lv (.ref k1 :: st) σ Q) : Vv d mi pc lv (.ref k0 :: st) σ Q := by
  intro γ p l e s m args below meth c H locs d0 ls C hd0 hl hS hP
  obtain ⟨hx, hb, hr, hml, hown, hts, hlk, hK, hG⟩ := id C
  have hK1 : va_K (γ.2.1, γ.2.2.1) cls9 (ty9 γ) (s.setDrawn d0) := hK.1
  have hP1 : va_P (γ.2.1, γ.2.2.1) cls9 (ws9 γ σ) H := hP
  have hown1 : (s.setDrawn d0).vm.findClass mi.1.cls = some m.cls := hown
  subst hr1
  obtain ⟨hk, hs, hn⟩ := hs9
  obtain ⟨C0, T, N, ref, hc, hjN, hw, hin, hsm, hfk, hlen⟩ := hf
  have hg : (ws9 γ σ)[k0]? = some (γ.1 k0, .inr (ci, (List.range (fkL.getD ci []).length).map (fun j => fvv γ.1 σ k0 j (fk ci j)))) := (ws9_get hk).trans (by rw [ent_O hs])
  refine va_get (ci := ci) (C := C0) (T := T) (N := N) (v := fvv γ.1 σ k0 j 2) hx hb (dr_words hts _) hin hown1 hK1 hP1 k0 hg hc j hjN (dr_words hts _ _ hw) (hsm (s.setDrawn d0) args (dr_words hts _)) (by rw [List.getElem?_map, List.getElem?_range (by omega)]; show some (fvv γ.1 σ k0 j (fk ci j)) = _; rw [hfk]) hd ?_
  exact k γ p l e s m args below meth c H locs d0 ls C hd0 hl hS hP
theorem v_putI {k0 ci idx j : Nat} {ji x : Int} (hd : decode mi.2.1 pc = .ok (.putfield idx, 3)) (hs9 : sh9 k0 0 ci) (hf : fp9 mi.1.cls idx ci j 0 .int) (hj : ((j : Nat) : Int) = ji) (k : Vv d mi (pc + 3) lv st (sI σ k0 ji x) Q) : Vv d mi pc lv (.int (iI x) :: .ref k0 :: st) σ Q := by
  intro γ p l e s m args below meth c H locs d0 ls C hd0 hl hS hP
  obtain ⟨hx, hb, hr, hml, hown, hts, hlk, hK, hG⟩ := id C
  have hK1 : va_K (γ.2.1, γ.2.2.1) cls9 (ty9 γ) (s.setDrawn d0) := hK.1
  have hP1 : va_P (γ.2.1, γ.2.2.1) cls9 (ws9 γ σ) H := hP
  have hown1 : (s.setDrawn d0).vm.findClass mi.1.cls = some m.cls := hown
  subst hj
  obtain ⟨hk, hs, hn⟩ := hs9
  obtain ⟨⟨C0, T, N, ref, hc, hjN, hw, hin, hsm, hfk, hlen⟩, ty0, hty, hnm, hfin, hpd⟩ := hf
  have hg : (ws9 γ σ)[k0]? = some (γ.1 k0, .inr (ci, (List.range (fkL.getD ci []).length).map (fun j => fvv γ.1 σ k0 j (fk ci j)))) := (ws9_get hk).trans (by rw [ent_O hs])
  refine va_put (A := gA γ) (ci := ci) (C := C0) (T := T) (N := N) (ty := .int) (v := .int (iI x)) hx hb (dr_words hts _) hin ty0 (hty T N hc) (hnm T N hc) hown1 hK1 hP1 (ws9_D hG) hS k0 hg hc j hjN (dr_words hts _ _ hw) (hsm (s.setDrawn d0) args (dr_words hts _)) (hfin T N hc) (hpd T N hc) rfl rfl (by rw [List.length_map, List.length_range]; omega) hd (fun H locs hP hD hS => ?_)
  rw [ws9_set (σ' := sI σ k0 (j : Nat) x) (k := k0) (fsI9 hs hfk) (fun k' hk' => ent_aI hk')] at hP
  exact k γ p l e s m args below meth c H locs d0 ls C hd0 hl hS hP
theorem v_putZ {k0 ci idx j : Nat} {ji x : Int} (hd : decode mi.2.1 pc = .ok (.putfield idx, 3)) (hs9 : sh9 k0 0 ci) (hf : fp9 mi.1.cls idx ci j 0 .boolean) (hj : ((j : Nat) : Int) = ji) (hx1 : x = 0 ∨ x = 1) (k : Vv d mi (pc + 3) lv st (sI σ k0 ji x) Q) : Vv d mi pc lv (.int (iI x) :: .ref k0 :: st) σ Q := by
  intro γ p l e s m args below meth c H locs d0 ls C hd0 hl hS hP
  obtain ⟨hx, hb, hr, hml, hown, hts, hlk, hK, hG⟩ := id C
  have hK1 : va_K (γ.2.1, γ.2.2.1) cls9 (ty9 γ) (s.setDrawn d0) := hK.1
  have hP1 : va_P (γ.2.1, γ.2.2.1) cls9 (ws9 γ σ) H := hP
  have hown1 : (s.setDrawn d0).vm.findClass mi.1.cls = some m.cls := hown
  subst hj
  obtain ⟨hk, hs, hn⟩ := hs9
  obtain ⟨⟨C0, T, N, ref, hc, hjN, hw, hin, hsm, hfk, hlen⟩, ty0, hty, hnm, hfin, hpd⟩ := hf
  have hg : (ws9 γ σ)[k0]? = some (γ.1 k0, .inr (ci, (List.range (fkL.getD ci []).length).map (fun j => fvv γ.1 σ k0 j (fk ci j)))) := (ws9_get hk).trans (by rw [ent_O hs])
  refine va_put (A := gA γ) (ci := ci) (C := C0) (T := T) (N := N) (ty := .boolean) (v := .int (iI x)) hx hb (dr_words hts _) hin ty0 (hty T N hc) (hnm T N hc) hown1 hK1 hP1 (ws9_D hG) hS k0 hg hc j hjN (dr_words hts _ _ hw) (hsm (s.setDrawn d0) args (dr_words hts _)) (hfin T N hc) (hpd T N hc) (by rcases hx1 with h | h <;> subst h <;> decide) (by rcases hx1 with h | h <;> subst h <;> decide) (by rw [List.length_map, List.length_range]; omega) hd (fun H locs hP hD hS => ?_)
  rw [ws9_set (σ' := sI σ k0 (j : Nat) x) (k := k0) (fsI9 hs hfk) (fun k' hk' => ent_aI hk')] at hP
  exact k γ p l e s m args below meth c H locs d0 ls C hd0 hl hS hP
theorem v_putL {k0 ci idx j : Nat} {ji x : Int} (hd : decode mi.2.1 pc = .ok (.putfield idx, 3)) (hs9 : sh9 k0 0 ci) (hf : fp9 mi.1.cls idx ci j 1 .long) (hj : ((j : Nat) : Int) = ji) (k : Vv d mi (pc + 3) lv st (sL σ k0 ji x) Q) : Vv d mi pc lv (.long (lI x) :: .ref k0 :: st) σ Q := by
  intro γ p l e s m args below meth c H locs d0 ls C hd0 hl hS hP
  obtain ⟨hx, hb, hr, hml, hown, hts, hlk, hK, hG⟩ := id C
  have hK1 : va_K (γ.2.1, γ.2.2.1) cls9 (ty9 γ) (s.setDrawn d0) := hK.1
  have hP1 : va_P (γ.2.1, γ.2.2.1) cls9 (ws9 γ σ) H := hP
  have hown1 : (s.setDrawn d0).vm.findClass mi.1.cls = some m.cls := hown
  subst hj
  obtain ⟨hk, hs, hn⟩ := hs9
  obtain ⟨⟨C0, T, N, ref, hc, hjN, hw, hin, hsm, hfk, hlen⟩, ty0, hty, hnm, hfin, hpd⟩ := hf
  have hg : (ws9 γ σ)[k0]? = some (γ.1 k0, .inr (ci, (List.range (fkL.getD ci []).length).map (fun j => fvv γ.1 σ k0 j (fk ci j)))) := (ws9_get hk).trans (by rw [ent_O hs])
  refine va_put (A := gA γ) (ci := ci) (C := C0) (T := T) (N := N) (ty := .long) (v := .long (lI x)) hx hb (dr_words hts _) hin ty0 (hty T N hc) (hnm T N hc) hown1 hK1 hP1 (ws9_D hG) hS k0 hg hc j hjN (dr_words hts _ _ hw) (hsm (s.setDrawn d0) args (dr_words hts _)) (hfin T N hc) (hpd T N hc) rfl rfl (by rw [List.length_map, List.length_range]; omega) hd (fun H locs hP hD hS => ?_)
  rw [ws9_set (σ' := sL σ k0 (j : Nat) x) (k := k0) (fsL9 hs hfk) (fun k' hk' => ent_aL hk')] at hP
  exact k γ p l e s m args below meth c H locs d0 ls C hd0 hl hS hP
theorem v_ireturn {z : Int} {R : Int → S9 → Prop} (hd : decode mi.2.1 pc = .ok (.ireturn, 1)) (ht : mi.2.2.2 = some .int) (k : R z σ) : Vv d mi pc lv [.int (iI z)] σ (QI R) := by
  intro γ p l e s m args below meth c H locs d0 ls C hd0 hl hS hP
  obtain ⟨hx, hb, hr, hml, hown, hts, hlk, hK, hG⟩ := id C
  have hK1 : va_K (γ.2.1, γ.2.2.1) cls9 (ty9 γ) (s.setDrawn d0) := hK.1
  have hP1 : va_P (γ.2.1, γ.2.2.1) cls9 (ws9 γ σ) H := hP
  have hown1 : (s.setDrawn d0).vm.findClass mi.1.cls = some m.cls := hown
  refine W.endD hd0 ?_
  exact W.iret hx hb (hr.trans ht) (fun t ht hW => ⟨⟨[.int (iI z)], σ, rfl, Nat.le_refl 1, ⟨z, rfl, k⟩, by rw [ht]; exact hP, K9.moved hW.alike hK⟩, hS.F ht⟩) hS.2.2 hd hlk
theorem v_zreturn {z : Int} {R : Int → S9 → Prop} (hd : decode mi.2.1 pc = .ok (.ireturn, 1)) (ht : mi.2.2.2 = some .boolean) (hz1 : z = 0 ∨ z = 1) (k : R z σ) : Vv d mi pc lv [.int (iI z)] σ (QI R) := by
  intro γ p l e s m args below meth c H locs d0 ls C hd0 hl hS hP
  obtain ⟨hx, hb, hr, hml, hown, hts, hlk, hK, hG⟩ := id C
  have hK1 : va_K (γ.2.1, γ.2.2.1) cls9 (ty9 γ) (s.setDrawn d0) := hK.1
  have hP1 : va_P (γ.2.1, γ.2.2.1) cls9 (ws9 γ σ) H := hP
  have hown1 : (s.setDrawn d0).vm.findClass mi.1.cls = some m.cls := hown
  refine W.endD hd0 ?_
  exact W.zret hx hb (hr.trans ht) (by rcases hz1 with h | h <;> subst h <;> decide) (fun t ht hW => ⟨⟨[.int (iI z)], σ, rfl, Nat.le_refl 1, ⟨z, rfl, k⟩, by rw [ht]; exact hP, K9.moved hW.alike hK⟩, hS.F ht⟩) hS.2.2 hd hlk
theorem v_lreturn {z : Int} {R : Int → S9 → Prop} (hd : decode mi.2.1 pc = .ok (.lreturn, 1)) (ht : mi.2.2.2 = some .long) (k : R z σ) : Vv d mi pc lv [.long (lI z)] σ (QL R) := by
  intro γ p l e s m args below meth c H locs d0 ls C hd0 hl hS hP
  obtain ⟨hx, hb, hr, hml, hown, hts, hlk, hK, hG⟩ := id C
  have hK1 : va_K (γ.2.1, γ.2.2.1) cls9 (ty9 γ) (s.setDrawn d0) := hK.1
  have hP1 : va_P (γ.2.1, γ.2.2.1) cls9 (ws9 γ σ) H := hP
  have hown1 : (s.setDrawn d0).vm.findClass mi.1.cls = some m.cls := hown
  refine W.endD hd0 ?_
  exact W.lret hx hb (hr.trans ht) (fun t ht hW => ⟨⟨[.long (lI z)], σ, rfl, Nat.le_refl 1, ⟨z, rfl, k⟩, by rw [ht]; exact hP, K9.moved hW.alike hK⟩, hS.F ht⟩) hS.2.2 hd hlk
theorem v_freturn {z : UInt32} {R : UInt32 → S9 → Prop} (hd : decode mi.2.1 pc = .ok (.freturn, 1)) (ht : mi.2.2.2 = some .float) (k : R z σ) : Vv d mi pc lv [.float z] σ (QF R) := by
  intro γ p l e s m args below meth c H locs d0 ls C hd0 hl hS hP
  obtain ⟨hx, hb, hr, hml, hown, hts, hlk, hK, hG⟩ := id C
  have hK1 : va_K (γ.2.1, γ.2.2.1) cls9 (ty9 γ) (s.setDrawn d0) := hK.1
  have hP1 : va_P (γ.2.1, γ.2.2.1) cls9 (ws9 γ σ) H := hP
  have hown1 : (s.setDrawn d0).vm.findClass mi.1.cls = some m.cls := hown
  refine W.endD hd0 ?_
  exact W.fret hx hb (hr.trans ht) (fun t ht hW => ⟨⟨[.float z], σ, rfl, Nat.le_refl 1, ⟨z, rfl, k⟩, by rw [ht]; exact hP, K9.moved hW.alike hK⟩, hS.F ht⟩) hS.2.2 hd hlk
theorem v_dreturn {z : UInt64} {R : UInt64 → S9 → Prop} (hd : decode mi.2.1 pc = .ok (.dreturn, 1)) (ht : mi.2.2.2 = some .double) (k : R z σ) : Vv d mi pc lv [.double z] σ (QD R) := by
  intro γ p l e s m args below meth c H locs d0 ls C hd0 hl hS hP
  obtain ⟨hx, hb, hr, hml, hown, hts, hlk, hK, hG⟩ := id C
  have hK1 : va_K (γ.2.1, γ.2.2.1) cls9 (ty9 γ) (s.setDrawn d0) := hK.1
  have hP1 : va_P (γ.2.1, γ.2.2.1) cls9 (ws9 γ σ) H := hP
  have hown1 : (s.setDrawn d0).vm.findClass mi.1.cls = some m.cls := hown
  refine W.endD hd0 ?_
  exact W.dret hx hb (hr.trans ht) (fun t ht hW => ⟨⟨[.double z], σ, rfl, Nat.le_refl 1, ⟨z, rfl, k⟩, by rw [ht]; exact hP, K9.moved hW.alike hK⟩, hS.F ht⟩) hS.2.2 hd hlk
theorem v_return {R : S9 → Prop} (hd : decode mi.2.1 pc = .ok (.return_, 1)) (ht : mi.2.2.2 = none) (k : R σ) : Vv d mi pc lv [] σ (QV R) := by
  intro γ p l e s m args below meth c H locs d0 ls C hd0 hl hS hP
  obtain ⟨hx, hb, hr, hml, hown, hts, hlk, hK, hG⟩ := id C
  have hK1 : va_K (γ.2.1, γ.2.2.1) cls9 (ty9 γ) (s.setDrawn d0) := hK.1
  have hP1 : va_P (γ.2.1, γ.2.2.1) cls9 (ws9 γ σ) H := hP
  have hown1 : (s.setDrawn d0).vm.findClass mi.1.cls = some m.cls := hown
  refine W.endD hd0 ?_
  exact W.vret hx hb (hr.trans ht) (fun t ht hW => ⟨⟨[], σ, rfl, Nat.zero_le 1, ⟨rfl, k⟩, by rw [ht]; exact hP, K9.moved hW.alike hK⟩, hS.F ht⟩) hS.2.2 hd hlk
end
