/-! ===== the law's own judgement ===== -/
def LC (γ : G9) (p : Program) (s : State) (m : MethodId) (meth : Method) (c : Code) (bs L : Nat) (xs : Nat → Int32) (ce sl : Nat) : Prop :=
  p.tables.exec = Jvm.exec ∧ c.code = code ∧ meth.sig.returnType = ret ∧ c.maxLocals = 4 ∧ s.vm.findClass R_law = some m.cls ∧ (∀ w ∈ lw_w, w.before #[Value.ref bs] s = true) ∧ meth.locks = false ∧ K9 γ s ∧ gOK γ ∧ (∀ k, k < NC → s.heap.size ≤ γ.1 k) ∧ γ.1 130 = bs ∧ va_X bs L xs s s.heap ∧ bs < s.heap.size ∧ L ≤ 3072 ∧ ce ≤ 600000 ∧ sl ≤ 7302250
def Lv (γ : G9) (p : Program) (l : Launch) (e : Env) (s : State) (m : MethodId) (below : List Frame) (meth : Method) (c : Code) (bs ce sl pc : Nat) (lv st : List Value) (σ : S9) : Prop :=
  ∀ (H : Heap) (locs : List Loc) (d0 : Drawn) (ls : Array Slot), s.drawn.sameBut d0 lw_cs → lvOK γ.1 ls 4 lv → va_S (fun q => s.heap.size ≤ q) s.heap H locs → P9 γ σ H → W p l e room_1 (s.setDrawn d0) m #[Value.ref bs] below meth c H locs ce sl (lw_Z below #[Value.ref bs] s) (F0 m pc ls (st.map (trv γ.1)))
section
variable {γ : G9} {p : Program} {l : Launch} {e : Env} {s : State} {m : MethodId} {below : List Frame} {meth : Method} {c : Code} {bs L : Nat} {xs : Nat → Int32} {ce sl pc : Nat} {lv lv' st stk As : List Value} {σ : S9}
theorem l_iload_n (C : LC γ p s m meth c bs L xs ce sl) {i : Fin 4} {z : Int} (hd : decode cL_law pc = .ok (.iload_n i, 1)) (hg : lv[(i : Nat)]? = some (.int (iI z))) (k : Lv γ p l e s m below meth c bs ce sl (pc + 1) lv (.int (iI z) :: st) σ) : Lv γ p l e s m below meth c bs ce sl pc lv (st) σ := by
  intro H locs d0 ls hd0 hl hS hP
  obtain ⟨hx, hb, hr, hml, hown, hts, hlk, hK, hG, -⟩ := id C
  refine lv_iload_n hx hb hd rfl (hl.2.2 _ _ hg (fun h => by cases h)) ?_
  exact k H locs d0 ls hd0 hl hS hP
theorem l_aload_n (C : LC γ p s m meth c bs L xs ce sl) {i : Fin 4} {z : Nat} (hd : decode cL_law pc = .ok (.aload_n i, 1)) (hg : lv[(i : Nat)]? = some (.ref z)) (k : Lv γ p l e s m below meth c bs ce sl (pc + 1) lv (.ref z :: st) σ) : Lv γ p l e s m below meth c bs ce sl pc lv (st) σ := by
  intro H locs d0 ls hd0 hl hS hP
  obtain ⟨hx, hb, hr, hml, hown, hts, hlk, hK, hG, -⟩ := id C
  refine lv_aload_n hx hb hd rfl (hl.2.2 _ _ hg (fun h => by cases h)) ?_
  exact k H locs d0 ls hd0 hl hS hP
theorem l_iconst (C : LC γ p s m meth c bs L xs ce sl) {n : Int} (hd : decode cL_law pc = .ok (.iconst n, 1)) (k : Lv γ p l e s m below meth c bs ce sl (pc + 1) lv (.int (iI n) :: st) σ) : Lv γ p l e s m below meth c bs ce sl pc lv (st) σ := by
  intro H locs d0 ls hd0 hl hS hP
  obtain ⟨hx, hb, hr, hml, hown, hts, hlk, hK, hG, -⟩ := id C
  refine lv_iconst hx hb hd rfl ?_
  exact k H locs d0 ls hd0 hl hS hP
theorem l_bipush (C : LC γ p s m meth c bs L xs ce sl) {n : Int} (hd : decode cL_law pc = .ok (.bipush n, 2)) (hn : -128 ≤ n ∧ n < 128) (k : Lv γ p l e s m below meth c bs ce sl (pc + 2) lv (.int (iI n) :: st) σ) : Lv γ p l e s m below meth c bs ce sl pc lv (st) σ := by
  intro H locs d0 ls hd0 hl hS hP
  obtain ⟨hx, hb, hr, hml, hown, hts, hlk, hK, hG, -⟩ := id C
  refine lv_bipush hx hb hd (Int8.toInt32_ofInt (by rw [Int8.toInt_minValue]; omega) (by rw [Int8.toInt_maxValue]; omega)) ?_
  exact k H locs d0 ls hd0 hl hS hP
theorem l_iadd (C : LC γ p s m meth c bs L xs ce sl) {a b : Int} (hd : decode cL_law pc = .ok (.iadd, 1)) (k : Lv γ p l e s m below meth c bs ce sl (pc + 1) lv (.int (iI (a + b)) :: st) σ) : Lv γ p l e s m below meth c bs ce sl pc lv (.int (iI b) :: .int (iI a) :: st) σ := by
  intro H locs d0 ls hd0 hl hS hP
  obtain ⟨hx, hb, hr, hml, hown, hts, hlk, hK, hG, -⟩ := id C
  refine lv_iadd hx hb hd ?_
  rw [← iI_add]
  exact k H locs d0 ls hd0 hl hS hP
theorem l_isub (C : LC γ p s m meth c bs L xs ce sl) {a b : Int} (hd : decode cL_law pc = .ok (.isub, 1)) (k : Lv γ p l e s m below meth c bs ce sl (pc + 1) lv (.int (iI (a - b)) :: st) σ) : Lv γ p l e s m below meth c bs ce sl pc lv (.int (iI b) :: .int (iI a) :: st) σ := by
  intro H locs d0 ls hd0 hl hS hP
  obtain ⟨hx, hb, hr, hml, hown, hts, hlk, hK, hG, -⟩ := id C
  refine lv_isub hx hb hd ?_
  rw [← iI_sub]
  exact k H locs d0 ls hd0 hl hS hP
theorem l_iand (C : LC γ p s m meth c bs L xs ce sl) {a b z : Int} (hd : decode cL_law pc = .ok (.iand, 1)) (hz : iI a &&& iI b = iI z) (k : Lv γ p l e s m below meth c bs ce sl (pc + 1) lv (.int (iI z) :: st) σ) : Lv γ p l e s m below meth c bs ce sl pc lv (.int (iI b) :: .int (iI a) :: st) σ := by
  intro H locs d0 ls hd0 hl hS hP
  obtain ⟨hx, hb, hr, hml, hown, hts, hlk, hK, hG, -⟩ := id C
  refine lv_iand hx hb hd ?_
  rw [hz]
  exact k H locs d0 ls hd0 hl hS hP
theorem l_i2l (C : LC γ p s m meth c bs L xs ce sl) {a : Int} (hd : decode cL_law pc = .ok (.i2l, 1)) (ha : -2147483648 ≤ a ∧ a < 2147483648) (k : Lv γ p l e s m below meth c bs ce sl (pc + 1) lv (.long (lI a) :: st) σ) : Lv γ p l e s m below meth c bs ce sl pc lv (.int (iI a) :: st) σ := by
  intro H locs d0 ls hd0 hl hS hP
  obtain ⟨hx, hb, hr, hml, hown, hts, hlk, hK, hG, -⟩ := id C
  refine lv_i2l hx hb hd (iI_toL ha.1 ha.2) ?_
  exact k H locs d0 ls hd0 hl hS hP
theorem l_lshl (C : LC γ p s m meth c bs L xs ce sl) {a b z : Int} (hd : decode cL_law pc = .ok (.lshl, 1)) (hz : lI a <<< ((iI b).toInt64 &&& 63) = lI z) (k : Lv γ p l e s m below meth c bs ce sl (pc + 1) lv (.long (lI z) :: st) σ) : Lv γ p l e s m below meth c bs ce sl pc lv (.int (iI b) :: .long (lI a) :: st) σ := by
  intro H locs d0 ls hd0 hl hS hP
  obtain ⟨hx, hb, hr, hml, hown, hts, hlk, hK, hG, -⟩ := id C
  refine lv_lshl hx hb hd hz ?_
  exact k H locs d0 ls hd0 hl hS hP
theorem l_land (C : LC γ p s m meth c bs L xs ce sl) {a b z : Int} (hd : decode cL_law pc = .ok (.land, 1)) (hz : lI a &&& lI b = lI z) (k : Lv γ p l e s m below meth c bs ce sl (pc + 1) lv (.long (lI z) :: st) σ) : Lv γ p l e s m below meth c bs ce sl pc lv (.long (lI b) :: .long (lI a) :: st) σ := by
  intro H locs d0 ls hd0 hl hS hP
  obtain ⟨hx, hb, hr, hml, hown, hts, hlk, hK, hG, -⟩ := id C
  refine lv_land hx hb hd ?_
  rw [hz]
  exact k H locs d0 ls hd0 hl hS hP
theorem l_lor (C : LC γ p s m meth c bs L xs ce sl) {a b z : Int} (hd : decode cL_law pc = .ok (.lor, 1)) (hz : lI a ||| lI b = lI z) (k : Lv γ p l e s m below meth c bs ce sl (pc + 1) lv (.long (lI z) :: st) σ) : Lv γ p l e s m below meth c bs ce sl pc lv (.long (lI b) :: .long (lI a) :: st) σ := by
  intro H locs d0 ls hd0 hl hS hP
  obtain ⟨hx, hb, hr, hml, hown, hts, hlk, hK, hG, -⟩ := id C
  refine lv_lor hx hb hd ?_
  rw [hz]
  exact k H locs d0 ls hd0 hl hS hP
theorem l_ldc2 (C : LC γ p s m meth c bs L xs ce sl) {idx : Nat} {z : Int} (hd : decode cL_law pc = .ok (.ldc2_w idx, 3)) (hw : Cond.constantLong R_law idx (lI z) ∈ lw_w) (k : Lv γ p l e s m below meth c bs ce sl (pc + 3) lv (.long (lI z) :: st) σ) : Lv γ p l e s m below meth c bs ce sl pc lv (st) σ := by
  intro H locs d0 ls hd0 hl hS hP
  obtain ⟨hx, hb, hr, hml, hown, hts, hlk, hK, hG, -⟩ := id C
  refine lv_ldc2 hx hb hown (dr_words hts _ _ hw) hd ?_
  exact k H locs d0 ls hd0 hl hS hP
theorem l_istore_n (C : LC γ p s m meth c bs L xs ce sl) {i : Fin 4} {z : Int} (hd : decode cL_law pc = .ok (.istore_n i, 1)) (hn : (i : Nat) < 4) (hc : c1A lv (i : Nat) = true) (hlv : lv.set (i : Nat) (.int (iI z)) = lv') (k : Lv γ p l e s m below meth c bs ce sl (pc + 1) lv' st σ) : Lv γ p l e s m below meth c bs ce sl pc lv (.int (iI z) :: st) σ := by
  intro H locs d0 ls hd0 hl hS hP
  obtain ⟨hx, hb, hr, hml, hown, hts, hlk, hK, hG, -⟩ := id C
  refine lv_istore_n hx hb hd rfl (lvOK_has hl) hn rfl (fun ls hl2 => ?_)
  have hl := lvOK_st1 (ad := γ.1) (v := .int (iI z)) hc hlv hl2
  exact k H locs d0 ls hd0 hl hS hP
theorem l_iinc (C : LC γ p s m meth c bs L xs ce sl) {i : Nat} {n z : Int} (hd : decode cL_law pc = .ok (.iinc i n, 3)) (hg : lv[i]? = some (.int (iI z))) (hn : i < 4) (hc : c1A lv i = true) (hlv : lv.set i (.int (iI (z + n))) = lv') (k : Lv γ p l e s m below meth c bs ce sl (pc + 3) lv' st σ) : Lv γ p l e s m below meth c bs ce sl pc lv st σ := by
  intro H locs d0 ls hd0 hl hS hP
  obtain ⟨hx, hb, hr, hml, hown, hts, hlk, hK, hG, -⟩ := id C
  obtain ⟨q, hq⟩ := List.getElem?_of_mem (mem_prs (ad := γ.1) (lv := lv) (q := (i, .int (iI z))).mpr ⟨.int (iI z), hg, (fun h => by cases h), rfl⟩)
  refine lv_iinc (v := iI (z + n)) hx hb hd (lvOK_has hl) hq (iI_add z n).symm hn rfl (fun ls hl2 => ?_)
  have hl := lvOK_st1 (ad := γ.1) (v := .int (iI (z + n))) hc hlv hl2
  exact k H locs d0 ls hd0 hl hS hP
theorem l_goto (C : LC γ p s m meth c bs L xs ce sl) {off : Int} {tgt : Nat} (hd : decode cL_law pc = .ok (.goto off, 3)) (ht : (pc : Int) + off = (tgt : Int)) (k : Lv γ p l e s m below meth c bs ce sl tgt lv st σ) : Lv γ p l e s m below meth c bs ce sl pc lv st σ := by
  intro H locs d0 ls hd0 hl hS hP
  obtain ⟨hx, hb, hr, hml, hown, hts, hlk, hK, hG, -⟩ := id C
  exact lv_goto hx hb hd ht (k H locs d0 ls hd0 hl hS hP)
theorem l_icmp_gt (C : LC γ p s m meth c bs L xs ce sl) {a b : Int} {off : Int} {tgt : Nat} (hd : decode cL_law pc = .ok (.if_icmp .gt off, 3)) (ht : (pc : Int) + off = (tgt : Int)) (h : (-2147483648 ≤ a ∧ a < 2147483648) ∧ (-2147483648 ≤ b ∧ b < 2147483648)) (kt : b < a → Lv γ p l e s m below meth c bs ce sl tgt lv st σ) (kf : a ≤ b → Lv γ p l e s m below meth c bs ce sl (pc + 3) lv st σ) : Lv γ p l e s m below meth c bs ce sl pc lv (.int (iI b) :: .int (iI a) :: st) σ := by
  intro H locs d0 ls hd0 hl hS hP
  obtain ⟨hx, hb, hr, hml, hown, hts, hlk, hK, hG, -⟩ := id C
  refine lv_icmp_gt hx hb hd ht (fun q => ?_) (fun q => ?_)
  · exact kt ((iI_lt ⟨h.2, h.1⟩).mp q) H locs d0 ls hd0 hl hS hP
  · exact kf (Int.not_lt.mp (fun e => q ((iI_lt ⟨h.2, h.1⟩).mpr e))) H locs d0 ls hd0 hl hS hP

theorem l_slen (C : LC γ p s m meth c bs L xs ce sl) (hd : decode cL_law pc = .ok (.arraylength, 1)) (k : Lv γ p l e s m below meth c bs ce sl (pc + 1) lv (.int (iI L) :: st) σ) : Lv γ p l e s m below meth c bs ce sl pc lv (.ref 130 :: st) σ := by
  intro H locs d0 ls hd0 hl hS hP
  obtain ⟨hx, hb, hr, hml, hown, hts, hlk, hK, hG, hA, h130, hX, hbl, hL, -⟩ := id C
  have h1 := k H locs d0 ls hd0 hl hS hP
  rw [List.map_cons, show trv γ.1 (.ref 130) = .ref bs by show Value.ref (γ.1 130) = _; rw [h130]]
  exact va_slen hx hb (va_X.moved (u := s) (U := s.setDrawn d0) (Vm.Alike.refl _) hX) hbl (Nat.not_le.mpr hbl) hS hd h1
def scr9 (xs : Nat → Int32) (z : Int) : Int := (xs z.toNat).toInt
theorem scr9_bd (xs : Nat → Int32) (z : Int) : -2147483648 ≤ scr9 xs z ∧ scr9 xs z < 2147483648 := by
  have h1 := Int32.le_toInt (xs z.toNat)
  have h2 := Int32.toInt_lt (xs z.toNat)
  unfold scr9
  omega
theorem l_sld {z : Int} (C : LC γ p s m meth c bs L xs ce sl) (hd : decode cL_law pc = .ok (.iaload, 1)) (hz : 0 ≤ z ∧ z < L) (k : Lv γ p l e s m below meth c bs ce sl (pc + 1) lv (.int (iI (scr9 xs z)) :: st) σ) : Lv γ p l e s m below meth c bs ce sl pc lv (.int (iI z) :: .ref 130 :: st) σ := by
  intro H locs d0 ls hd0 hl hS hP
  obtain ⟨hx, hb, hr, hml, hown, hts, hlk, hK, hG, hA, h130, hX, hbl, hL, -⟩ := id C
  have h1 := k H locs d0 ls hd0 hl hS hP
  rw [List.map_cons, List.map_cons, show trv γ.1 (.ref 130) = .ref bs by show Value.ref (γ.1 130) = _; rw [h130]]
  refine va_sld hx hb (va_X.moved (u := s) (U := s.setDrawn d0) (Vm.Alike.refl _) hX) hbl (Nat.not_le.mpr hbl) hS (iI_in hz.1 hz.2 (by omega)) hd ?_
  rw [iI_clamp hz.1 (by omega)]
  rw [List.map_cons, show trv γ.1 (.int (iI (scr9 xs z))) = .int (iI (scr9 xs z)) from rfl, show iI (scr9 xs z) = xs z.toNat from iI_of _] at h1
  exact h1
theorem l_tabO {z dflt lo hi : Int} {offs : Array Int} {len tgt : Nat} (C : LC γ p s m meth c bs L xs ce sl) (hd : decode cL_law pc = .ok (.tableswitch dflt lo hi offs, len)) (hr : -2147483648 ≤ z ∧ z < 2147483648) (h : z < lo ∨ hi < z) (ht : (pc : Int) + dflt = (tgt : Int)) (k : Lv γ p l e s m below meth c bs ce sl tgt lv st σ) : Lv γ p l e s m below meth c bs ce sl pc lv (.int (iI z) :: st) σ := by
  intro H locs d0 ls hd0 hl hS hP
  obtain ⟨hx, hb, -⟩ := id C
  exact lv_tableOut hx hb hd (by rw [iI_toInt hr.1 hr.2]; exact h) ht (k H locs d0 ls hd0 hl hS hP)
theorem l_tabI {z dflt lo hi off : Int} {offs : Array Int} {len tgt : Nat} (C : LC γ p s m meth c bs L xs ce sl) (hd : decode cL_law pc = .ok (.tableswitch dflt lo hi offs, len)) (hr : -2147483648 ≤ z ∧ z < 2147483648) (h1 : ¬ z < lo) (h2 : ¬ hi < z) (ho : offs[(z - lo).toNat]? = some off) (ht : (pc : Int) + off = (tgt : Int)) (k : Lv γ p l e s m below meth c bs ce sl tgt lv st σ) : Lv γ p l e s m below meth c bs ce sl pc lv (.int (iI z) :: st) σ := by
  intro H locs d0 ls hd0 hl hS hP
  obtain ⟨hx, hb, -⟩ := id C
  exact lv_tableIn hx hb hd (by rw [iI_toInt hr.1 hr.2]; exact h1) (by rw [iI_toInt hr.1 hr.2]; exact h2) (by rw [iI_toInt hr.1 hr.2]; exact ho) ht (k H locs d0 ls hd0 hl hS hP)
theorem l_same {a off : Int} {tgt : Nat} (C : LC γ p s m meth c bs L xs ce sl) (hd : decode cL_law pc = .ok (.if_icmp .eq off, 3)) (ht : (pc : Int) + off = (tgt : Int)) (k : Lv γ p l e s m below meth c bs ce sl tgt lv st σ) : Lv γ p l e s m below meth c bs ce sl pc lv (.int (iI a) :: .int (iI a) :: st) σ := by
  intro H locs d0 ls hd0 hl hS hP
  obtain ⟨hx, hb, -⟩ := id C
  exact lv_icmp_eq hx hb hd ht (fun q => k H locs d0 ls hd0 hl hS hP) (fun q => absurd rfl q)
theorem lcz9 (a : Int) : lg_cmp (lI a) (lI a) = 0 := by
  have h1 := Int64.le_toInt (lI a)
  have h2 := Int64.toInt_lt (lI a)
  have h := (lc9_eq (a := (lI a).toInt) (b := (lI a).toInt) ⟨⟨by omega, by omega⟩, ⟨by omega, by omega⟩⟩).mpr rfl
  rw [lI_of] at h
  exact h
theorem l_lsame {a off : Int} {tgt : Nat} (C : LC γ p s m meth c bs L xs ce sl) (hd : decode cL_law pc = .ok (.lcmp, 1)) (hd2 : decode cL_law (pc + 1) = .ok (.ifCond .eq off, 3)) (ht : ((pc + 1 : Nat) : Int) + off = (tgt : Int)) (k : Lv γ p l e s m below meth c bs ce sl tgt lv st σ) : Lv γ p l e s m below meth c bs ce sl pc lv (.long (lI a) :: .long (lI a) :: st) σ := by
  intro H locs d0 ls hd0 hl hS hP
  obtain ⟨hx, hb, -⟩ := id C
  refine W.lcmp hx hb hd ?_
  exact lv_if_eq hx hb hd2 ht (fun q => k H locs d0 ls hd0 hl hS hP) (fun q => absurd (lcz9 a) q)
theorem l_end (C : LC γ p s m meth c bs L xs ce sl) (hd : decode cL_law pc = .ok (.ireturn, 1)) : Lv γ p l e s m below meth c bs ce sl pc lv [.int (iI 1)] σ := by
  intro H locs d0 ls hd0 hl hS hP
  obtain ⟨hx, hb, hr, hml, hown, hts, hlk, hK, hG, hA, h130, hX, hbl, hL, h1, h2⟩ := id C
  refine W.widen h1 h2 (va_forget (fun q hq => hS.2.2 q hq) ?_)
  exact lw_ret hd0 hx hb hr hlk hd
theorem run9L {Q' : List Value → S9 → Prop} {H : Heap} {locs : List Loc} {d0 : Drawn} {ls : Array Slot} {st0 rest : List Value} {a : Array Value} {Z : State → Prop} (hA : ∀ k, k < NC → s.heap.size ≤ γ.1 k) (hd0 : s.drawn.sameBut d0 lw_cs)
    (hr : va_RunD lw_cs p l e room_1 (s.setDrawn d0) m #[Value.ref bs] below meth c H locs ce sl 0 0 (F0 m pc ls st0) rest (Qc9 γ Q' a) (gA γ)) (hS : va_S (fun q => s.heap.size ≤ q) s.heap H locs)
    (kk : ∀ (r : List Value) (σ' : S9) (H1 : Heap) (locs1 : List Loc) (d1 : Drawn), Q' r σ' → P9 γ σ' H1 → va_S (fun q => s.heap.size ≤ q) s.heap H1 locs1 → s.drawn.sameBut d1 lw_cs → W p l e room_1 (s.setDrawn d1) m #[Value.ref bs] below meth c H1 locs1 ce sl Z (F0 m (pc + 3) ls (r.map (trv γ.1) ++ rest))) : W p l e room_1 (s.setDrawn d0) m #[Value.ref bs] below meth c H locs ce sl Z (F0 m pc ls st0) := by
  intro T hT X
  obtain ⟨v, st₀, t, T', L, d', hd', h0, X', hL, e1, e2, ⟨⟨r, σ', hv, hlen, hq, hP', hK'⟩, hz, hk⟩, st⟩ := hr T hT X
  rw [h0] at hz hk
  have hsub : ∀ q, gA γ q → s.heap.size ≤ q := fun q ⟨k, h1, h2⟩ => h2 ▸ hA k h1
  have hS1 : va_S (fun q => s.heap.size ≤ q) s.heap T'.heap (locs ++ L) := ⟨Nat.le_trans hS.1 (by rw [e1]; exact hz), fun q h1 h2 => by
      rw [e1, hk q (Nat.lt_of_lt_of_le h1 hS.1) (fun z => h2 (hsub q z))]
      exact hS.2.1 q h1 h2, fun q hq => by
      rcases List.mem_append.mp hq with h | h
      · exact hS.2.2 q h
      · exact hsub _ (hL q h)⟩
  obtain ⟨t2, a1, b1⟩ := kk r σ' T'.heap (locs ++ L) d' hq (by rw [e1]; exact hP') hS1 (hd0.trans hd') T' rfl X'
  have hvr : v.toList = r.map (trv γ.1) := by
    have hv' := Option.some.inj (congrArg (fun o => match o with | .returned x => some x | _ => none) hv)
    rw [hv']
    match r, hlen with
    | [], _ => rfl
    | [x], _ => rfl
  exact ⟨t2, st t2 (by rw [hvr]; exact a1), b1⟩
theorem callL9 {mj : MI} {idx n ci k0 : Nat} {Q' : List Value → S9 → Prop} (C : LC γ p s m meth c bs L xs ce sl) (hd : decode cL_law pc = .ok (.invokevirtual idx, 3)) (hk : lkV R_law idx ci mj n) (hs9 : sh9 k0 0 ci) (hn : As.length = n) (hst : stk = As.reverse ++ .ref k0 :: st) (hW : (st.map Value.category).sum ≤ 8) (h : Cc 8 mj (.ref k0 :: As) σ Q') (kk : ∀ r σ', Q' r σ' → Lv γ p l e s m below meth c bs ce sl (pc + 3) lv (r ++ st) σ') : Lv γ p l e s m below meth c bs ce sl pc lv stk σ := by
  intro H locs d0 ls hd0 hl hS hP
  obtain ⟨hx, hb, hr, hml, hown, hts, hlk, hK, hG, hA, h130, hX, hbl, hL, hce, hsl⟩ := id C
  obtain ⟨g1, g2, g3, g3b, g4, g5, g6, g7, T, N, hc⟩ := hk
  obtain ⟨hk0, hs, -⟩ := hs9
  subst hst
  have hw1 : ((st.map (trv γ.1)).map fun v => v.category).sum ≤ 8 := by rw [List.map_map]; simpa [Function.comp_def, trv_cat] using hW
  have hK1 : va_K (γ.2.1, γ.2.2.1) cls9 (ty9 γ) (s.setDrawn d0) := hK.1
  have hP1 : va_P (γ.2.1, γ.2.2.1) cls9 (ws9 γ σ) H := hP
  have hg : (ws9 γ σ)[k0]? = some (γ.1 k0, .inr (ci, (List.range (fkL.getD ci []).length).map (fun j => fvv γ.1 σ k0 j (fk ci j)))) := (ws9_get hk0).trans (by rw [ent_O hs])
  refine run9L (Q' := Q') (rest := st.map (trv γ.1)) hA hd0 (va_runV_D (As := As.map (trv γ.1)) ⟨hx, hb, hml, hown, dr_words hts _⟩ (h γ l hG) (cwV n (dr_words hts _) (good9 (a := [.methodLink R_law idx mj.1, .instanceMethod mj.1, .selects mj.1.cls mj.1 mj.1, .initialized mj.1.cls]) (by simpa using ⟨g1, g2, g3, g3b⟩) g4) rfl rfl rfl ⟨rfl, g5.1, g5.2, g6⟩ ⟨Nat.le_refl _, by show 8 + (mj.2.2.1 + 11) + (60 * 8 + 1400 * min 1 (8 / 4)) ≤ 2538; omega⟩)
    ⟨blind9, va_recv hK1 hP1 hc hg, fun U hU hW => ⟨rfl, by rw [hU]; exact hP, K9.moved hW.alike hK⟩⟩ rfl (by rw [List.length_map]; exact hn) hl.1 (by simp [List.map_append, List.map_reverse, trv]) (lv_room hw1) hd ⟨by show ce + 0 ≤ 600000; omega, by show sl + 0 ≤ 7302250; omega⟩) hS ?_
  intro r σ' H1 locs1 d1 hq hP1 hS1 hd1
  have h2 := kk r σ' hq H1 locs1 d1 ls hd1 hl hS1 hP1
  rwa [List.map_append] at h2
theorem l_calli0 {mj : MI} {idx ci k0 : Nat} (C : LC γ p s m meth c bs L xs ce sl) (hd : decode cL_law pc = .ok (.invokevirtual idx, 3)) (hk : lkV R_law idx ci mj 0) (hs9 : sh9 k0 0 ci) (hW : (st.map Value.category).sum ≤ 8) (h : Cc 8 mj [.ref k0] σ (QI (fun z σ' => Lv γ p l e s m below meth c bs ce sl (pc + 3) lv (.int (iI z) :: st) σ'))) : Lv γ p l e s m below meth c bs ce sl pc lv (.ref k0 :: st) σ := callL9 C hd hk hs9 (As := []) rfl rfl hW h (fun r σ' hq => by obtain ⟨z, hr, hp⟩ := hq; subst hr; exact hp)
theorem l_calli1 {mj : MI} {idx ci k0 : Nat} {a0 : Value} (C : LC γ p s m meth c bs L xs ce sl) (hd : decode cL_law pc = .ok (.invokevirtual idx, 3)) (hk : lkV R_law idx ci mj 1) (hs9 : sh9 k0 0 ci) (hW : (st.map Value.category).sum ≤ 8) (h : Cc 8 mj [.ref k0, a0] σ (QI (fun z σ' => Lv γ p l e s m below meth c bs ce sl (pc + 3) lv (.int (iI z) :: st) σ'))) : Lv γ p l e s m below meth c bs ce sl pc lv (a0 :: .ref k0 :: st) σ := callL9 C hd hk hs9 (As := [a0]) rfl rfl hW h (fun r σ' hq => by obtain ⟨z, hr, hp⟩ := hq; subst hr; exact hp)
theorem l_calli2 {mj : MI} {idx ci k0 : Nat} {a0 a1 : Value} (C : LC γ p s m meth c bs L xs ce sl) (hd : decode cL_law pc = .ok (.invokevirtual idx, 3)) (hk : lkV R_law idx ci mj 2) (hs9 : sh9 k0 0 ci) (hW : (st.map Value.category).sum ≤ 8) (h : Cc 8 mj [.ref k0, a0, a1] σ (QI (fun z σ' => Lv γ p l e s m below meth c bs ce sl (pc + 3) lv (.int (iI z) :: st) σ'))) : Lv γ p l e s m below meth c bs ce sl pc lv (a1 :: a0 :: .ref k0 :: st) σ := callL9 C hd hk hs9 (As := [a0, a1]) rfl rfl hW h (fun r σ' hq => by obtain ⟨z, hr, hp⟩ := hq; subst hr; exact hp)
theorem l_calli3 {mj : MI} {idx ci k0 : Nat} {a0 a1 a2 : Value} (C : LC γ p s m meth c bs L xs ce sl) (hd : decode cL_law pc = .ok (.invokevirtual idx, 3)) (hk : lkV R_law idx ci mj 3) (hs9 : sh9 k0 0 ci) (hW : (st.map Value.category).sum ≤ 8) (h : Cc 8 mj [.ref k0, a0, a1, a2] σ (QI (fun z σ' => Lv γ p l e s m below meth c bs ce sl (pc + 3) lv (.int (iI z) :: st) σ'))) : Lv γ p l e s m below meth c bs ce sl pc lv (a2 :: a1 :: a0 :: .ref k0 :: st) σ := callL9 C hd hk hs9 (As := [a0, a1, a2]) rfl rfl hW h (fun r σ' hq => by obtain ⟨z, hr, hp⟩ := hq; subst hr; exact hp)
theorem l_calli4 {mj : MI} {idx ci k0 : Nat} {a0 a1 a2 a3 : Value} (C : LC γ p s m meth c bs L xs ce sl) (hd : decode cL_law pc = .ok (.invokevirtual idx, 3)) (hk : lkV R_law idx ci mj 4) (hs9 : sh9 k0 0 ci) (hW : (st.map Value.category).sum ≤ 8) (h : Cc 8 mj [.ref k0, a0, a1, a2, a3] σ (QI (fun z σ' => Lv γ p l e s m below meth c bs ce sl (pc + 3) lv (.int (iI z) :: st) σ'))) : Lv γ p l e s m below meth c bs ce sl pc lv (a3 :: a2 :: a1 :: a0 :: .ref k0 :: st) σ := callL9 C hd hk hs9 (As := [a0, a1, a2, a3]) rfl rfl hW h (fun r σ' hq => by obtain ⟨z, hr, hp⟩ := hq; subst hr; exact hp)
theorem l_calli5 {mj : MI} {idx ci k0 : Nat} {a0 a1 a2 a3 a4 : Value} (C : LC γ p s m meth c bs L xs ce sl) (hd : decode cL_law pc = .ok (.invokevirtual idx, 3)) (hk : lkV R_law idx ci mj 5) (hs9 : sh9 k0 0 ci) (hW : (st.map Value.category).sum ≤ 8) (h : Cc 8 mj [.ref k0, a0, a1, a2, a3, a4] σ (QI (fun z σ' => Lv γ p l e s m below meth c bs ce sl (pc + 3) lv (.int (iI z) :: st) σ'))) : Lv γ p l e s m below meth c bs ce sl pc lv (a4 :: a3 :: a2 :: a1 :: a0 :: .ref k0 :: st) σ := callL9 C hd hk hs9 (As := [a0, a1, a2, a3, a4]) rfl rfl hW h (fun r σ' hq => by obtain ⟨z, hr, hp⟩ := hq; subst hr; exact hp)
theorem l_calll0 {mj : MI} {idx ci k0 : Nat} (C : LC γ p s m meth c bs L xs ce sl) (hd : decode cL_law pc = .ok (.invokevirtual idx, 3)) (hk : lkV R_law idx ci mj 0) (hs9 : sh9 k0 0 ci) (hW : (st.map Value.category).sum ≤ 8) (h : Cc 8 mj [.ref k0] σ (QL (fun z σ' => Lv γ p l e s m below meth c bs ce sl (pc + 3) lv (.long (lI z) :: st) σ'))) : Lv γ p l e s m below meth c bs ce sl pc lv (.ref k0 :: st) σ := callL9 C hd hk hs9 (As := []) rfl rfl hW h (fun r σ' hq => by obtain ⟨z, hr, hp⟩ := hq; subst hr; exact hp)
theorem l_calll1 {mj : MI} {idx ci k0 : Nat} {a0 : Value} (C : LC γ p s m meth c bs L xs ce sl) (hd : decode cL_law pc = .ok (.invokevirtual idx, 3)) (hk : lkV R_law idx ci mj 1) (hs9 : sh9 k0 0 ci) (hW : (st.map Value.category).sum ≤ 8) (h : Cc 8 mj [.ref k0, a0] σ (QL (fun z σ' => Lv γ p l e s m below meth c bs ce sl (pc + 3) lv (.long (lI z) :: st) σ'))) : Lv γ p l e s m below meth c bs ce sl pc lv (a0 :: .ref k0 :: st) σ := callL9 C hd hk hs9 (As := [a0]) rfl rfl hW h (fun r σ' hq => by obtain ⟨z, hr, hp⟩ := hq; subst hr; exact hp)
theorem l_calll2 {mj : MI} {idx ci k0 : Nat} {a0 a1 : Value} (C : LC γ p s m meth c bs L xs ce sl) (hd : decode cL_law pc = .ok (.invokevirtual idx, 3)) (hk : lkV R_law idx ci mj 2) (hs9 : sh9 k0 0 ci) (hW : (st.map Value.category).sum ≤ 8) (h : Cc 8 mj [.ref k0, a0, a1] σ (QL (fun z σ' => Lv γ p l e s m below meth c bs ce sl (pc + 3) lv (.long (lI z) :: st) σ'))) : Lv γ p l e s m below meth c bs ce sl pc lv (a1 :: a0 :: .ref k0 :: st) σ := callL9 C hd hk hs9 (As := [a0, a1]) rfl rfl hW h (fun r σ' hq => by obtain ⟨z, hr, hp⟩ := hq; subst hr; exact hp)
end
