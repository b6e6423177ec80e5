def cpy9 {α : Type} (f g : Int → α) (sp dp n : Int) : Int → α := fun j => if dp ≤ j ∧ j < dp + n then f (sp + (j - dp)) else g j
theorem cpy9_ {α β : Type} (c : β → α) (f g : Int → β) {sp dp n : Int} (h : 0 ≤ sp ∧ 0 ≤ dp ∧ 0 ≤ n ∧ sp + n < 2147483648 ∧ dp + n < 2147483648) : va_cpy (fun j : Nat => c (f (j : Int))) (fun j : Nat => c (g (j : Int))) (iI sp).toNatClampNeg (iI dp).toNatClampNeg (iI n).toNatClampNeg = fun j : Nat => c (cpy9 f g sp dp n (j : Int)) := by
  funext q
  rw [iI_clamp (by omega) (by omega), iI_clamp (by omega) (by omega), iI_clamp (by omega) (by omega)]
  unfold cpy9 va_cpy
  by_cases e : dp.toNat ≤ q ∧ q < dp.toNat + n.toNat
  · rw [if_pos e, if_pos (by omega)]
    have h9 : ((sp.toNat + (q - dp.toNat) : Nat) : Int) = sp + ((q : Int) - dp) := by omega
    show c (f ((sp.toNat + (q - dp.toNat) : Nat) : Int)) = c (f (sp + ((q : Int) - dp)))
    rw [h9]
  · rw [if_neg e, if_neg (by omega)]
def acOK (own : String) (idx : Nat) : Prop := Cond.methodLink own idx arraycopyName ∈ lw_w ∧ Cond.native arraycopyName ∈ lw_w ∧ Cond.static arraycopyName ∈ lw_w ∧ Cond.initialized "java/lang/System" ∈ lw_w
section
variable {d : Nat} {mi : MI} {pc idx : Nat} {lv lv' st : List Value} {σ : S9} {Q : List Value → S9 → Prop}
theorem v_copyI {k0 k1 n0 n1 : Nat} {sp dp n : Int} (hd : decode mi.2.1 pc = .ok (.invokestatic idx, 3)) (hac : acOK mi.1.cls idx) (hs0 : sh9 k0 1 n0) (hs1 : sh9 k1 1 n1) (h : 0 ≤ sp ∧ 0 ≤ dp ∧ 0 ≤ n ∧ sp + n ≤ n0 ∧ dp + n ≤ n1) (hW : (st.map Value.category).sum ≤ 8) (k : Vv (d + 1) mi (pc + 3) lv st (aI σ k1 (cpy9 (gI σ k0) (gI σ k1) sp dp n)) Q) : Vv (d + 1) mi pc lv (.int (iI n) :: .int (iI dp) :: .ref k1 :: .int (iI sp) :: .ref k0 :: st) σ Q := by
  intro γ p l e s m args below meth c H locs d0 ls C hd0 hl hS hP
  obtain ⟨hx, hb, hr, hml, hown, hts, hlk, hK, hG⟩ := id C
  have hK1 : va_K (γ.2.1, γ.2.2.1) cls9 (ty9 γ) (s.setDrawn d0) := hK.1
  have hP1 : va_P (γ.2.1, γ.2.2.1) cls9 (ws9 γ σ) H := hP
  have hown1 : (s.setDrawn d0).vm.findClass mi.1.cls = some m.cls := hown
  obtain ⟨hk0, hs0, hn0⟩ := hs0
  obtain ⟨hk1, hs1, hn1⟩ := hs1
  obtain ⟨g1, g2, g3, g4⟩ := hac
  have hw1 : ((st.map (trv γ.1)).map fun v => v.category).sum ≤ 8 := by rw [List.map_map]; simpa [Function.comp_def, trv_cat] using hW
  have hg0 : (ws9 γ σ)[k0]? = some (γ.1 k0, .inl (γ.2.2.2 0, n0, .inl (fun j : Nat => iI (gI σ k0 (j : Int))))) := (ws9_get hk0).trans (by rw [ent_I hs0])
  have hg1 : (ws9 γ σ)[k1]? = some (γ.1 k1, .inl (γ.2.2.2 0, n1, .inl (fun j : Nat => iI (gI σ k1 (j : Int))))) := (ws9_get hk1).trans (by rw [ent_I hs1])
  have c0 : ∀ z : Int, 0 ≤ z → z < 2147483648 → ¬ iI z < 0 := fun z h1 h2 q => by
    rw [Int32.lt_iff_toInt_lt, iI_toInt (by omega) h2] at q
    have : (0 : Int32).toInt = 0 := rfl
    omega
  refine va_copyi (A := gA γ) hx hb (hml.trans hl.1.symm) hown1 (dr_words hts _ _ g1) (dr_words hts _ _ g2) (dr_words hts _ _ g3) (dr_words hts _ _ g4) hK1 hP1 (ws9_D hG) hS k0 k1 0 0 hg0 hg1 (ty := .int) rfl rfl rfl (c0 sp (by omega) (by omega)) (c0 dp (by omega) (by omega)) (c0 n (by omega) (by omega)) (by rw [iI_clamp (by omega) (by omega), iI_clamp (by omega) (by omega)]; omega) (by rw [iI_clamp (by omega) (by omega), iI_clamp (by omega) (by omega)]; omega) (fun _ _ => rfl) (Nat.succ_le_succ (Nat.zero_le d)) (by show _ + 18 ≤ 60 * (d + 1) + 1400 * min 1 ((d + 1) / 4); omega) hd (fun H locs hP hD hS => ?_)
  rw [ws9_set (σ' := aI σ k1 (cpy9 (gI σ k0) (gI σ k1) sp dp n)) (k := k1) (by rw [ent_I hs1, gI_aI_eq]; exact congrArg (fun g => (Sum.inl (γ.2.2.2 0, n1, .inl (g)) : va_E)) (cpy9_ iI (gI σ k0) (gI σ k1) (by omega))) (fun k' hk' => ent_aI hk')] at hP
  exact k γ p l e s m args below meth c H locs d0 ls C hd0 hl hS hP
theorem v_copyL {k0 k1 n0 n1 : Nat} {sp dp n : Int} (hd : decode mi.2.1 pc = .ok (.invokestatic idx, 3)) (hac : acOK mi.1.cls idx) (hs0 : sh9 k0 2 n0) (hs1 : sh9 k1 2 n1) (h : 0 ≤ sp ∧ 0 ≤ dp ∧ 0 ≤ n ∧ sp + n ≤ n0 ∧ dp + n ≤ n1) (hW : (st.map Value.category).sum ≤ 8) (k : Vv (d + 1) mi (pc + 3) lv st (aL σ k1 (cpy9 (gL σ k0) (gL σ k1) sp dp n)) Q) : Vv (d + 1) mi pc lv (.int (iI n) :: .int (iI dp) :: .ref k1 :: .int (iI sp) :: .ref k0 :: st) σ Q := by
  intro γ p l e s m args below meth c H locs d0 ls C hd0 hl hS hP
  obtain ⟨hx, hb, hr, hml, hown, hts, hlk, hK, hG⟩ := id C
  have hK1 : va_K (γ.2.1, γ.2.2.1) cls9 (ty9 γ) (s.setDrawn d0) := hK.1
  have hP1 : va_P (γ.2.1, γ.2.2.1) cls9 (ws9 γ σ) H := hP
  have hown1 : (s.setDrawn d0).vm.findClass mi.1.cls = some m.cls := hown
  obtain ⟨hk0, hs0, hn0⟩ := hs0
  obtain ⟨hk1, hs1, hn1⟩ := hs1
  obtain ⟨g1, g2, g3, g4⟩ := hac
  have hw1 : ((st.map (trv γ.1)).map fun v => v.category).sum ≤ 8 := by rw [List.map_map]; simpa [Function.comp_def, trv_cat] using hW
  have hg0 : (ws9 γ σ)[k0]? = some (γ.1 k0, .inl (γ.2.2.2 1, n0, .inr (.inl (fun j : Nat => lI (gL σ k0 (j : Int)))))) := (ws9_get hk0).trans (by rw [ent_L hs0])
  have hg1 : (ws9 γ σ)[k1]? = some (γ.1 k1, .inl (γ.2.2.2 1, n1, .inr (.inl (fun j : Nat => lI (gL σ k1 (j : Int)))))) := (ws9_get hk1).trans (by rw [ent_L hs1])
  have c0 : ∀ z : Int, 0 ≤ z → z < 2147483648 → ¬ iI z < 0 := fun z h1 h2 q => by
    rw [Int32.lt_iff_toInt_lt, iI_toInt (by omega) h2] at q
    have : (0 : Int32).toInt = 0 := rfl
    omega
  refine va_copyl (A := gA γ) hx hb (hml.trans hl.1.symm) hown1 (dr_words hts _ _ g1) (dr_words hts _ _ g2) (dr_words hts _ _ g3) (dr_words hts _ _ g4) hK1 hP1 (ws9_D hG) hS k0 k1 1 1 hg0 hg1 (ty := .long) rfl rfl rfl (c0 sp (by omega) (by omega)) (c0 dp (by omega) (by omega)) (c0 n (by omega) (by omega)) (by rw [iI_clamp (by omega) (by omega), iI_clamp (by omega) (by omega)]; omega) (by rw [iI_clamp (by omega) (by omega), iI_clamp (by omega) (by omega)]; omega) (fun _ _ => rfl) (Nat.succ_le_succ (Nat.zero_le d)) (by show _ + 18 ≤ 60 * (d + 1) + 1400 * min 1 ((d + 1) / 4); omega) hd (fun H locs hP hD hS => ?_)
  rw [ws9_set (σ' := aL σ k1 (cpy9 (gL σ k0) (gL σ k1) sp dp n)) (k := k1) (by rw [ent_L hs1, gL_aL_eq]; exact congrArg (fun g => (Sum.inl (γ.2.2.2 1, n1, .inr (.inl (g))) : va_E)) (cpy9_ lI (gL σ k0) (gL σ k1) (by omega))) (fun k' hk' => ent_aL hk')] at hP
  exact k γ p l e s m args below meth c H locs d0 ls C hd0 hl hS hP
theorem v_copyF {k0 k1 n0 n1 : Nat} {sp dp n : Int} (hd : decode mi.2.1 pc = .ok (.invokestatic idx, 3)) (hac : acOK mi.1.cls idx) (hs0 : sh9 k0 3 n0) (hs1 : sh9 k1 3 n1) (h : 0 ≤ sp ∧ 0 ≤ dp ∧ 0 ≤ n ∧ sp + n ≤ n0 ∧ dp + n ≤ n1) (hW : (st.map Value.category).sum ≤ 8) (k : Vv (d + 1) mi (pc + 3) lv st (aF σ k1 (cpy9 (gF σ k0) (gF σ k1) sp dp n)) Q) : Vv (d + 1) mi pc lv (.int (iI n) :: .int (iI dp) :: .ref k1 :: .int (iI sp) :: .ref k0 :: st) σ Q := by
  intro γ p l e s m args below meth c H locs d0 ls C hd0 hl hS hP
  obtain ⟨hx, hb, hr, hml, hown, hts, hlk, hK, hG⟩ := id C
  have hK1 : va_K (γ.2.1, γ.2.2.1) cls9 (ty9 γ) (s.setDrawn d0) := hK.1
  have hP1 : va_P (γ.2.1, γ.2.2.1) cls9 (ws9 γ σ) H := hP
  have hown1 : (s.setDrawn d0).vm.findClass mi.1.cls = some m.cls := hown
  obtain ⟨hk0, hs0, hn0⟩ := hs0
  obtain ⟨hk1, hs1, hn1⟩ := hs1
  obtain ⟨g1, g2, g3, g4⟩ := hac
  have hw1 : ((st.map (trv γ.1)).map fun v => v.category).sum ≤ 8 := by rw [List.map_map]; simpa [Function.comp_def, trv_cat] using hW
  have hg0 : (ws9 γ σ)[k0]? = some (γ.1 k0, .inl (γ.2.2.2 2, n0, .inr (.inr (.inl (fun j : Nat => gF σ k0 (j : Int)))))) := (ws9_get hk0).trans (by rw [ent_F hs0])
  have hg1 : (ws9 γ σ)[k1]? = some (γ.1 k1, .inl (γ.2.2.2 2, n1, .inr (.inr (.inl (fun j : Nat => gF σ k1 (j : Int)))))) := (ws9_get hk1).trans (by rw [ent_F hs1])
  have c0 : ∀ z : Int, 0 ≤ z → z < 2147483648 → ¬ iI z < 0 := fun z h1 h2 q => by
    rw [Int32.lt_iff_toInt_lt, iI_toInt (by omega) h2] at q
    have : (0 : Int32).toInt = 0 := rfl
    omega
  refine va_copyf (A := gA γ) hx hb (hml.trans hl.1.symm) hown1 (dr_words hts _ _ g1) (dr_words hts _ _ g2) (dr_words hts _ _ g3) (dr_words hts _ _ g4) hK1 hP1 (ws9_D hG) hS k0 k1 2 2 hg0 hg1 (ty := .float) rfl rfl rfl (c0 sp (by omega) (by omega)) (c0 dp (by omega) (by omega)) (c0 n (by omega) (by omega)) (by rw [iI_clamp (by omega) (by omega), iI_clamp (by omega) (by omega)]; omega) (by rw [iI_clamp (by omega) (by omega), iI_clamp (by omega) (by omega)]; omega) (fun _ _ => rfl) (Nat.succ_le_succ (Nat.zero_le d)) (by show _ + 18 ≤ 60 * (d + 1) + 1400 * min 1 ((d + 1) / 4); omega) hd (fun H locs hP hD hS => ?_)
  rw [ws9_set (σ' := aF σ k1 (cpy9 (gF σ k0) (gF σ k1) sp dp n)) (k := k1) (by rw [ent_F hs1, gF_aF_eq]; exact congrArg (fun g => (Sum.inl (γ.2.2.2 2, n1, .inr (.inr (.inl (g)))) : va_E)) (cpy9_ id (gF σ k0) (gF σ k1) (by omega))) (fun k' hk' => ent_aF hk')] at hP
  exact k γ p l e s m args below meth c H locs d0 ls C hd0 hl hS hP
theorem v_copyD {k0 k1 n0 n1 : Nat} {sp dp n : Int} (hd : decode mi.2.1 pc = .ok (.invokestatic idx, 3)) (hac : acOK mi.1.cls idx) (hs0 : sh9 k0 4 n0) (hs1 : sh9 k1 4 n1) (h : 0 ≤ sp ∧ 0 ≤ dp ∧ 0 ≤ n ∧ sp + n ≤ n0 ∧ dp + n ≤ n1) (hW : (st.map Value.category).sum ≤ 8) (k : Vv (d + 1) mi (pc + 3) lv st (aD σ k1 (cpy9 (gD σ k0) (gD σ k1) sp dp n)) Q) : Vv (d + 1) mi pc lv (.int (iI n) :: .int (iI dp) :: .ref k1 :: .int (iI sp) :: .ref k0 :: st) σ Q := by
  intro γ p l e s m args below meth c H locs d0 ls C hd0 hl hS hP
  obtain ⟨hx, hb, hr, hml, hown, hts, hlk, hK, hG⟩ := id C
  have hK1 : va_K (γ.2.1, γ.2.2.1) cls9 (ty9 γ) (s.setDrawn d0) := hK.1
  have hP1 : va_P (γ.2.1, γ.2.2.1) cls9 (ws9 γ σ) H := hP
  have hown1 : (s.setDrawn d0).vm.findClass mi.1.cls = some m.cls := hown
  obtain ⟨hk0, hs0, hn0⟩ := hs0
  obtain ⟨hk1, hs1, hn1⟩ := hs1
  obtain ⟨g1, g2, g3, g4⟩ := hac
  have hw1 : ((st.map (trv γ.1)).map fun v => v.category).sum ≤ 8 := by rw [List.map_map]; simpa [Function.comp_def, trv_cat] using hW
  have hg0 : (ws9 γ σ)[k0]? = some (γ.1 k0, .inl (γ.2.2.2 3, n0, .inr (.inr (.inr (.inl (fun j : Nat => gD σ k0 (j : Int))))))) := (ws9_get hk0).trans (by rw [ent_D hs0])
  have hg1 : (ws9 γ σ)[k1]? = some (γ.1 k1, .inl (γ.2.2.2 3, n1, .inr (.inr (.inr (.inl (fun j : Nat => gD σ k1 (j : Int))))))) := (ws9_get hk1).trans (by rw [ent_D hs1])
  have c0 : ∀ z : Int, 0 ≤ z → z < 2147483648 → ¬ iI z < 0 := fun z h1 h2 q => by
    rw [Int32.lt_iff_toInt_lt, iI_toInt (by omega) h2] at q
    have : (0 : Int32).toInt = 0 := rfl
    omega
  refine va_copyd (A := gA γ) hx hb (hml.trans hl.1.symm) hown1 (dr_words hts _ _ g1) (dr_words hts _ _ g2) (dr_words hts _ _ g3) (dr_words hts _ _ g4) hK1 hP1 (ws9_D hG) hS k0 k1 3 3 hg0 hg1 (ty := .double) rfl rfl rfl (c0 sp (by omega) (by omega)) (c0 dp (by omega) (by omega)) (c0 n (by omega) (by omega)) (by rw [iI_clamp (by omega) (by omega), iI_clamp (by omega) (by omega)]; omega) (by rw [iI_clamp (by omega) (by omega), iI_clamp (by omega) (by omega)]; omega) (fun _ _ => rfl) (Nat.succ_le_succ (Nat.zero_le d)) (by show _ + 18 ≤ 60 * (d + 1) + 1400 * min 1 ((d + 1) / 4); omega) hd (fun H locs hP hD hS => ?_)
  rw [ws9_set (σ' := aD σ k1 (cpy9 (gD σ k0) (gD σ k1) sp dp n)) (k := k1) (by rw [ent_D hs1, gD_aD_eq]; exact congrArg (fun g => (Sum.inl (γ.2.2.2 3, n1, .inr (.inr (.inr (.inl (g))))) : va_E)) (cpy9_ id (gD σ k0) (gD σ k1) (by omega))) (fun k' hk' => ent_aD hk')] at hP
  exact k γ p l e s m args below meth c H locs d0 ls C hd0 hl hS hP
theorem v_d2bits {b : UInt64} (hd : decode mi.2.1 pc = .ok (.invokestatic idx, 3)) (h1 : Cond.methodLink mi.1.cls idx ⟨"java/lang/Double", "doubleToRawLongBits", "(D)J"⟩ ∈ lw_w) (h2 : Cond.native ⟨"java/lang/Double", "doubleToRawLongBits", "(D)J"⟩ ∈ lw_w) (h3 : Cond.static ⟨"java/lang/Double", "doubleToRawLongBits", "(D)J"⟩ ∈ lw_w) (h4 : Cond.initialized "java/lang/Double" ∈ lw_w) (hW : (st.map Value.category).sum ≤ 8) (k : Vv (d + 1) mi (pc + 3) lv (.long (lI b.toInt64.toInt) :: st) σ Q) : Vv (d + 1) mi pc lv (.double b :: st) σ Q := by
  intro γ p l e s m args below meth c H locs d0 ls C hd0 hl hS hP
  obtain ⟨hx, hb, hr, hml, hown, hts, hlk, hK, hG⟩ := id C
  have hK1 : va_K (γ.2.1, γ.2.2.1) cls9 (ty9 γ) (s.setDrawn d0) := hK.1
  have hP1 : va_P (γ.2.1, γ.2.2.1) cls9 (ws9 γ σ) H := hP
  have hown1 : (s.setDrawn d0).vm.findClass mi.1.cls = some m.cls := hown
  have hw1 : ((st.map (trv γ.1)).map fun v => v.category).sum ≤ 8 := by rw [List.map_map]; simpa [Function.comp_def, trv_cat] using hW
  refine vn_d2l hx hb (hml.trans hl.1.symm) hown1 (dr_words hts _ _ h1) (dr_words hts _ _ h2) (dr_words hts _ _ h3) (dr_words hts _ _ h4) (Nat.succ_le_succ (Nat.zero_le d)) (by show _ + 15 ≤ 60 * (d + 1) + 1400 * min 1 ((d + 1) / 4); omega) hd ?_
  rw [← lI_of b.toInt64]
  exact k γ p l e s m args below meth c H locs d0 ls C hd0 hl hS hP
theorem v_bits2d {z : Int} (hd : decode mi.2.1 pc = .ok (.invokestatic idx, 3)) (h1 : Cond.methodLink mi.1.cls idx ⟨"java/lang/Double", "longBitsToDouble", "(J)D"⟩ ∈ lw_w) (h2 : Cond.native ⟨"java/lang/Double", "longBitsToDouble", "(J)D"⟩ ∈ lw_w) (h3 : Cond.static ⟨"java/lang/Double", "longBitsToDouble", "(J)D"⟩ ∈ lw_w) (h4 : Cond.initialized "java/lang/Double" ∈ lw_w) (hv : vn_snl2d (lI z) = false) (hW : (st.map Value.category).sum ≤ 8) (k : Vv (d + 1) mi (pc + 3) lv (.double (lI z).toUInt64 :: st) σ Q) : Vv (d + 1) mi pc lv (.long (lI z) :: st) σ Q := by
  intro γ p l e s m args below meth c H locs d0 ls C hd0 hl hS hP
  obtain ⟨hx, hb, hr, hml, hown, hts, hlk, hK, hG⟩ := id C
  have hK1 : va_K (γ.2.1, γ.2.2.1) cls9 (ty9 γ) (s.setDrawn d0) := hK.1
  have hP1 : va_P (γ.2.1, γ.2.2.1) cls9 (ws9 γ σ) H := hP
  have hown1 : (s.setDrawn d0).vm.findClass mi.1.cls = some m.cls := hown
  have hw1 : ((st.map (trv γ.1)).map fun v => v.category).sum ≤ 8 := by rw [List.map_map]; simpa [Function.comp_def, trv_cat] using hW
  refine vn_l2d hx hb (hml.trans hl.1.symm) hown1 (dr_words hts _ _ h1) (dr_words hts _ _ h2) (dr_words hts _ _ h3) (dr_words hts _ _ h4) hv (Nat.succ_le_succ (Nat.zero_le d)) (by show _ + 15 ≤ 60 * (d + 1) + 1400 * min 1 ((d + 1) / 4); omega) hd ?_
  exact k γ p l e s m args below meth c H locs d0 ls C hd0 hl hS hP
def mmmax9 (own : String) (idx : Nat) : Prop := Cond.methodLink own idx Lib.Math.max.name ∈ lw_w ∧ Cond.static Lib.Math.max.name ∈ lw_w ∧ Cond.initialized "java/lang/Math" ∈ lw_w ∧ Cond.code Lib.Math.max.name Lib.Math.max.code 2 (some .int) ∈ lw_w
theorem v_mmax {a b : Int} (hd : decode mi.2.1 pc = .ok (.invokestatic idx, 3)) (hm : mmmax9 mi.1.cls idx) (h : (-2147483648 ≤ a ∧ a < 2147483648) ∧ (-2147483648 ≤ b ∧ b < 2147483648)) (hW : (st.map Value.category).sum ≤ 8) (k : Vv (d + 1) mi (pc + 3) lv (.int (iI (max a b)) :: st) σ Q) : Vv (d + 1) mi pc lv (.int (iI b) :: .int (iI a) :: st) σ Q := by
  intro γ p l e s m args below meth c H locs d0 ls C hd0 hl hS hP
  obtain ⟨hx, hb, hr, hml, hown, hts, hlk, hK, hG⟩ := id C
  have hK1 : va_K (γ.2.1, γ.2.2.1) cls9 (ty9 γ) (s.setDrawn d0) := hK.1
  have hP1 : va_P (γ.2.1, γ.2.2.1) cls9 (ws9 γ σ) H := hP
  have hown1 : (s.setDrawn d0).vm.findClass mi.1.cls = some m.cls := hown
  obtain ⟨g1, g2, g3, g4⟩ := hm
  have hw1 : ((st.map (trv γ.1)).map fun v => v.category).sum ≤ 8 := by rw [List.map_map]; simpa [Function.comp_def, trv_cat] using hW
  refine va_mmax hx hb (hml.trans hl.1.symm) hown1 (dr_words hts _ _ g1) (dr_words hts _ _ g2) (dr_words hts _ _ g3) (dr_words hts _ _ g4) (Nat.succ_le_succ (Nat.zero_le d)) (by show _ + 13 ≤ 60 * (d + 1) + 1400 * min 1 ((d + 1) / 4); omega) (Nat.le_refl 0) (Nat.le_refl 0) hd ?_
  have em : (if iI a < iI b then iI b else iI a) = iI (max a b) := by
    by_cases q : a < b
    · rw [if_pos ((iI_lt h).mpr q), Int.max_eq_right (by omega)]
    · rw [if_neg (fun z => q ((iI_lt h).mp z)), Int.max_eq_left (by omega)]
  rw [em]
  exact k γ p l e s m args below meth c H locs d0 ls C hd0 hl hS hP
def mmmin9 (own : String) (idx : Nat) : Prop := Cond.methodLink own idx Lib.Math.min.name ∈ lw_w ∧ Cond.static Lib.Math.min.name ∈ lw_w ∧ Cond.initialized "java/lang/Math" ∈ lw_w ∧ Cond.code Lib.Math.min.name Lib.Math.min.code 2 (some .int) ∈ lw_w
theorem v_mmin {a b : Int} (hd : decode mi.2.1 pc = .ok (.invokestatic idx, 3)) (hm : mmmin9 mi.1.cls idx) (h : (-2147483648 ≤ a ∧ a < 2147483648) ∧ (-2147483648 ≤ b ∧ b < 2147483648)) (hW : (st.map Value.category).sum ≤ 8) (k : Vv (d + 1) mi (pc + 3) lv (.int (iI (min a b)) :: st) σ Q) : Vv (d + 1) mi pc lv (.int (iI b) :: .int (iI a) :: st) σ Q := by
  intro γ p l e s m args below meth c H locs d0 ls C hd0 hl hS hP
  obtain ⟨hx, hb, hr, hml, hown, hts, hlk, hK, hG⟩ := id C
  have hK1 : va_K (γ.2.1, γ.2.2.1) cls9 (ty9 γ) (s.setDrawn d0) := hK.1
  have hP1 : va_P (γ.2.1, γ.2.2.1) cls9 (ws9 γ σ) H := hP
  have hown1 : (s.setDrawn d0).vm.findClass mi.1.cls = some m.cls := hown
  obtain ⟨g1, g2, g3, g4⟩ := hm
  have hw1 : ((st.map (trv γ.1)).map fun v => v.category).sum ≤ 8 := by rw [List.map_map]; simpa [Function.comp_def, trv_cat] using hW
  refine va_mmin hx hb (hml.trans hl.1.symm) hown1 (dr_words hts _ _ g1) (dr_words hts _ _ g2) (dr_words hts _ _ g3) (dr_words hts _ _ g4) (Nat.succ_le_succ (Nat.zero_le d)) (by show _ + 13 ≤ 60 * (d + 1) + 1400 * min 1 ((d + 1) / 4); omega) (Nat.le_refl 0) (Nat.le_refl 0) hd ?_
  have em : (if iI b < iI a then iI b else iI a) = iI (min a b) := by
    by_cases q : b < a
    · rw [if_pos ((iI_lt ⟨h.2, h.1⟩).mpr q), Int.min_eq_right (by omega)]
    · rw [if_neg (fun z => q ((iI_lt ⟨h.2, h.1⟩).mp z)), Int.min_eq_left (by omega)]
  rw [em]
  exact k γ p l e s m args below meth c H locs d0 ls C hd0 hl hS hP
end
theorem acX9_298 : acOK RX9 298 := ⟨(w9 569 (by decide +kernel) rfl), (w9 404 (by decide +kernel) rfl), (w9 403 (by decide +kernel) rfl), (w9 47 (by decide +kernel) rfl)⟩
theorem mmX0_93 : mmmax9 RX0 93 := ⟨(w9 673 (by decide +kernel) rfl), (w9 501 (by decide +kernel) rfl), (w9 48 (by decide +kernel) rfl), (w9 502 (by decide +kernel) rfl)⟩
theorem mmX0_123 : mmmin9 RX0 123 := ⟨(w9 702 (by decide +kernel) rfl), (w9 471 (by decide +kernel) rfl), (w9 48 (by decide +kernel) rfl), (w9 472 (by decide +kernel) rfl)⟩
theorem mmX2_69 : mmmin9 RX2 69 := ⟨(w9 525 (by decide +kernel) rfl), (w9 471 (by decide +kernel) rfl), (w9 48 (by decide +kernel) rfl), (w9 472 (by decide +kernel) rfl)⟩
theorem mmX3_49 : mmmax9 RX3 49 := ⟨(w9 500 (by decide +kernel) rfl), (w9 501 (by decide +kernel) rfl), (w9 48 (by decide +kernel) rfl), (w9 502 (by decide +kernel) rfl)⟩
theorem acX5_52 : acOK RX5 52 := ⟨(w9 402 (by decide +kernel) rfl), (w9 404 (by decide +kernel) rfl), (w9 403 (by decide +kernel) rfl), (w9 47 (by decide +kernel) rfl)⟩
theorem mmX5_77 : mmmin9 RX5 77 := ⟨(w9 470 (by decide +kernel) rfl), (w9 471 (by decide +kernel) rfl), (w9 48 (by decide +kernel) rfl), (w9 472 (by decide +kernel) rfl)⟩
theorem acX7_30 : acOK RX7 30 := ⟨(w9 811 (by decide +kernel) rfl), (w9 404 (by decide +kernel) rfl), (w9 403 (by decide +kernel) rfl), (w9 47 (by decide +kernel) rfl)⟩
theorem wlJ9_79 : Cond.methodLink RJ9 79 ⟨"java/lang/Double", "doubleToRawLongBits", "(D)J"⟩ ∈ lw_w := (w9 1250 (by decide +kernel) rfl)
theorem wlJ9_166 : Cond.methodLink RJ9 166 ⟨"java/lang/Double", "longBitsToDouble", "(J)D"⟩ ∈ lw_w := (w9 1255 (by decide +kernel) rfl)
theorem wn_doubleToRawLongBits : Cond.native ⟨"java/lang/Double", "doubleToRawLongBits", "(D)J"⟩ ∈ lw_w := (w9 1252 (by decide +kernel) rfl)
theorem ws_doubleToRawLongBits : Cond.static ⟨"java/lang/Double", "doubleToRawLongBits", "(D)J"⟩ ∈ lw_w := (w9 1251 (by decide +kernel) rfl)
theorem wn_longBitsToDouble : Cond.native ⟨"java/lang/Double", "longBitsToDouble", "(J)D"⟩ ∈ lw_w := (w9 1257 (by decide +kernel) rfl)
theorem ws_longBitsToDouble : Cond.static ⟨"java/lang/Double", "longBitsToDouble", "(J)D"⟩ ∈ lw_w := (w9 1256 (by decide +kernel) rfl)
theorem wi_Double : Cond.initialized "java/lang/Double" ∈ lw_w := (w9 51 (by decide +kernel) rfl)
