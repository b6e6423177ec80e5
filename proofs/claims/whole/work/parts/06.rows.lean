theorem i2b9 {a : Int} (h : -128 ≤ a ∧ a < 128) : (iI a).toInt8.toInt32 = iI a := by
  apply Int32.toInt_inj.mp
  rw [Int8.toInt_toInt32, Int32.toInt_toInt8, iI_toInt (by omega) (by omega)]
  show (if a % 256 < (256 + 1) / 2 then a % 256 else a % 256 - 256) = a
  split <;> omega
theorem lc9_lt {a b : Int} (h : (-9223372036854775808 ≤ a ∧ a < 9223372036854775808) ∧ (-9223372036854775808 ≤ b ∧ b < 9223372036854775808)) : lg_cmp (lI a) (lI b) < 0 ↔ a < b := by
  have e1 := lI_lt ⟨h.2, h.1⟩
  have e2 := lI_eq h
  unfold lg_cmp
  by_cases h1 : b < a
  · rw [if_pos (e1.mpr h1)]; exact ⟨fun q => absurd q (by decide), fun q => by omega⟩
  · rw [if_neg (fun q => h1 (e1.mp q))]
    by_cases h2 : a = b
    · rw [if_pos (e2.mpr h2)]; exact ⟨fun q => absurd q (by decide), fun q => by omega⟩
    · rw [if_neg (fun q => h2 (e2.mp q))]; exact ⟨fun _ => by omega, fun _ => by decide⟩
theorem lc9_gt {a b : Int} (h : (-9223372036854775808 ≤ a ∧ a < 9223372036854775808) ∧ (-9223372036854775808 ≤ b ∧ b < 9223372036854775808)) : 0 < lg_cmp (lI a) (lI b) ↔ b < a := by
  have e1 := lI_lt ⟨h.2, h.1⟩
  have e2 := lI_eq h
  unfold lg_cmp
  by_cases h1 : b < a
  · rw [if_pos (e1.mpr h1)]; exact ⟨fun _ => by omega, fun _ => by decide⟩
  · rw [if_neg (fun q => h1 (e1.mp q))]
    by_cases h2 : a = b
    · rw [if_pos (e2.mpr h2)]; exact ⟨fun q => absurd q (by decide), fun q => by omega⟩
    · rw [if_neg (fun q => h2 (e2.mp q))]; exact ⟨fun q => absurd q (by decide), fun q => by omega⟩
theorem lc9_eq {a b : Int} (h : (-9223372036854775808 ≤ a ∧ a < 9223372036854775808) ∧ (-9223372036854775808 ≤ b ∧ b < 9223372036854775808)) : lg_cmp (lI a) (lI b) = 0 ↔ a = b := by
  have e1 := lI_lt ⟨h.2, h.1⟩
  have e2 := lI_eq h
  unfold lg_cmp
  by_cases h1 : b < a
  · rw [if_pos (e1.mpr h1)]; exact ⟨fun q => absurd q (by decide), fun q => by omega⟩
  · rw [if_neg (fun q => h1 (e1.mp q))]
    by_cases h2 : a = b
    · rw [if_pos (e2.mpr h2)]; exact ⟨fun _ => by omega, fun _ => by decide⟩
    · rw [if_neg (fun q => h2 (e2.mp q))]; exact ⟨fun q => absurd q (by decide), fun q => by omega⟩
theorem lc9_nge {x : Int32} (h : x < 0) (q : 0 ≤ x) : False := by rw [Int32.lt_iff_toInt_lt] at h; rw [Int32.le_iff_toInt_le] at q; omega
theorem lc9_nle {x : Int32} (h : 0 < x) (q : x ≤ 0) : False := by rw [Int32.lt_iff_toInt_lt] at h; rw [Int32.le_iff_toInt_le] at q; omega
theorem lc9_ge {x : Int32} (q : ¬ 0 ≤ x) : x < 0 := by rw [Int32.lt_iff_toInt_lt]; rw [Int32.le_iff_toInt_le] at q; omega
theorem lc9_le {x : Int32} (q : ¬ x ≤ 0) : 0 < x := by rw [Int32.lt_iff_toInt_lt]; rw [Int32.le_iff_toInt_le] at q; omega
section
variable {d : Nat} {mi : MI} {pc : Nat} {lv lv' st : List Value} {σ : S9} {Q : List Value → S9 → Prop}
theorem v_iconst {n : Int} (hd : decode mi.2.1 pc = .ok (.iconst n, 1)) (k : Vv d mi (pc + 1) lv (.int (iI n) :: st) σ Q) : Vv d mi pc lv (st) σ Q := by
  intro γ p l e s m args below meth c H locs d0 ls C hd0 hl hS hP
  obtain ⟨hx, hb, hr, hml, hown, hts, hlk, hK, hG⟩ := id C
  refine lv_iconst hx hb hd rfl ?_
  exact k γ p l e s m args below meth c H locs d0 ls C hd0 hl hS hP
theorem v_bipush {n : Int} (hd : decode mi.2.1 pc = .ok (.bipush n, 2)) (hn : -128 ≤ n ∧ n < 128) (k : Vv d mi (pc + 2) lv (.int (iI n) :: st) σ Q) : Vv d mi pc lv (st) σ Q := by
  intro γ p l e s m args below meth c H locs d0 ls C hd0 hl hS hP
  obtain ⟨hx, hb, hr, hml, hown, hts, hlk, hK, hG⟩ := id C
  refine lv_bipush hx hb hd (Int8.toInt32_ofInt (by rw [Int8.toInt_minValue]; omega) (by rw [Int8.toInt_maxValue]; omega)) ?_
  exact k γ p l e s m args below meth c H locs d0 ls C hd0 hl hS hP
theorem v_sipush {n : Int} (hd : decode mi.2.1 pc = .ok (.sipush n, 3)) (hn : -32768 ≤ n ∧ n < 32768) (k : Vv d mi (pc + 3) lv (.int (iI n) :: st) σ Q) : Vv d mi pc lv (st) σ Q := by
  intro γ p l e s m args below meth c H locs d0 ls C hd0 hl hS hP
  obtain ⟨hx, hb, hr, hml, hown, hts, hlk, hK, hG⟩ := id C
  refine lv_sipush hx hb hd (Int16.toInt32_ofInt (by rw [Int16.toInt_minValue]; omega) (by rw [Int16.toInt_maxValue]; omega)) ?_
  exact k γ p l e s m args below meth c H locs d0 ls C hd0 hl hS hP
theorem v_lconst0  (hd : decode mi.2.1 pc = .ok (.lconst 0, 1)) (k : Vv d mi (pc + 1) lv (.long (lI 0) :: st) σ Q) : Vv d mi pc lv (st) σ Q := by
  intro γ p l e s m args below meth c H locs d0 ls C hd0 hl hS hP
  obtain ⟨hx, hb, hr, hml, hown, hts, hlk, hK, hG⟩ := id C
  refine lv_lconst (v := lI 0) hx hb hd rfl ?_
  exact k γ p l e s m args below meth c H locs d0 ls C hd0 hl hS hP
theorem v_lconst1  (hd : decode mi.2.1 pc = .ok (.lconst 1, 1)) (k : Vv d mi (pc + 1) lv (.long (lI 1) :: st) σ Q) : Vv d mi pc lv (st) σ Q := by
  intro γ p l e s m args below meth c H locs d0 ls C hd0 hl hS hP
  obtain ⟨hx, hb, hr, hml, hown, hts, hlk, hK, hG⟩ := id C
  refine lv_lconst (v := lI 1) hx hb hd rfl ?_
  exact k γ p l e s m args below meth c H locs d0 ls C hd0 hl hS hP
theorem v_fconst0  (hd : decode mi.2.1 pc = .ok (.fconst 0, 1)) (k : Vv d mi (pc + 1) lv (.float 0 :: st) σ Q) : Vv d mi pc lv (st) σ Q := by
  intro γ p l e s m args below meth c H locs d0 ls C hd0 hl hS hP
  obtain ⟨hx, hb, hr, hml, hown, hts, hlk, hK, hG⟩ := id C
  refine lv_fconst0 hx hb hd ?_
  exact k γ p l e s m args below meth c H locs d0 ls C hd0 hl hS hP
theorem v_fconst1  (hd : decode mi.2.1 pc = .ok (.fconst 1, 1)) (k : Vv d mi (pc + 1) lv (.float 0x3f800000 :: st) σ Q) : Vv d mi pc lv (st) σ Q := by
  intro γ p l e s m args below meth c H locs d0 ls C hd0 hl hS hP
  obtain ⟨hx, hb, hr, hml, hown, hts, hlk, hK, hG⟩ := id C
  refine lv_fconst1 hx hb hd ?_
  exact k γ p l e s m args below meth c H locs d0 ls C hd0 hl hS hP
theorem v_dconst0  (hd : decode mi.2.1 pc = .ok (.dconst 0, 1)) (k : Vv d mi (pc + 1) lv (.double 0 :: st) σ Q) : Vv d mi pc lv (st) σ Q := by
  intro γ p l e s m args below meth c H locs d0 ls C hd0 hl hS hP
  obtain ⟨hx, hb, hr, hml, hown, hts, hlk, hK, hG⟩ := id C
  refine lv_dconst0 hx hb hd ?_
  exact k γ p l e s m args below meth c H locs d0 ls C hd0 hl hS hP
theorem v_dconst1  (hd : decode mi.2.1 pc = .ok (.dconst 1, 1)) (k : Vv d mi (pc + 1) lv (.double 0x3ff0000000000000 :: st) σ Q) : Vv d mi pc lv (st) σ Q := by
  intro γ p l e s m args below meth c H locs d0 ls C hd0 hl hS hP
  obtain ⟨hx, hb, hr, hml, hown, hts, hlk, hK, hG⟩ := id C
  refine lv_dconst1 hx hb hd ?_
  exact k γ p l e s m args below meth c H locs d0 ls C hd0 hl hS hP
theorem v_ldc {idx : Nat} {z : Int} (hd : decode mi.2.1 pc = .ok (.ldc idx, 2)) (hw : Cond.constant mi.1.cls idx (iI z) ∈ lw_w) (k : Vv d mi (pc + 2) lv (.int (iI z) :: st) σ Q) : Vv d mi pc lv (st) σ Q := by
  intro γ p l e s m args below meth c H locs d0 ls C hd0 hl hS hP
  obtain ⟨hx, hb, hr, hml, hown, hts, hlk, hK, hG⟩ := id C
  refine lv_ldc hx hb hown (dr_words hts _ _ hw) hd ?_
  exact k γ p l e s m args below meth c H locs d0 ls C hd0 hl hS hP
theorem v_ldcw {idx : Nat} {z : Int} (hd : decode mi.2.1 pc = .ok (.ldc_w idx, 3)) (hw : Cond.constant mi.1.cls idx (iI z) ∈ lw_w) (k : Vv d mi (pc + 3) lv (.int (iI z) :: st) σ Q) : Vv d mi pc lv (st) σ Q := by
  intro γ p l e s m args below meth c H locs d0 ls C hd0 hl hS hP
  obtain ⟨hx, hb, hr, hml, hown, hts, hlk, hK, hG⟩ := id C
  refine lv_ldcw hx hb hown (dr_words hts _ _ hw) hd ?_
  exact k γ p l e s m args below meth c H locs d0 ls C hd0 hl hS hP
theorem v_ldcf {idx : Nat} {v : UInt32} (hd : decode mi.2.1 pc = .ok (.ldc idx, 2)) (hw : Cond.constantFloat mi.1.cls idx v ∈ lw_w) (k : Vv d mi (pc + 2) lv (.float v :: st) σ Q) : Vv d mi pc lv (st) σ Q := by
  intro γ p l e s m args below meth c H locs d0 ls C hd0 hl hS hP
  obtain ⟨hx, hb, hr, hml, hown, hts, hlk, hK, hG⟩ := id C
  refine lv_ldcf hx hb hown (dr_words hts _ _ hw) hd ?_
  exact k γ p l e s m args below meth c H locs d0 ls C hd0 hl hS hP
theorem v_ldc2 {idx : Nat} {z : Int} (hd : decode mi.2.1 pc = .ok (.ldc2_w idx, 3)) (hw : Cond.constantLong mi.1.cls idx (lI z) ∈ lw_w) (k : Vv d mi (pc + 3) lv (.long (lI z) :: st) σ Q) : Vv d mi pc lv (st) σ Q := by
  intro γ p l e s m args below meth c H locs d0 ls C hd0 hl hS hP
  obtain ⟨hx, hb, hr, hml, hown, hts, hlk, hK, hG⟩ := id C
  refine lv_ldc2 hx hb hown (dr_words hts _ _ hw) hd ?_
  exact k γ p l e s m args below meth c H locs d0 ls C hd0 hl hS hP
theorem v_ldc2d {idx : Nat} {v : UInt64} (hd : decode mi.2.1 pc = .ok (.ldc2_w idx, 3)) (hw : Cond.constantDouble mi.1.cls idx v ∈ lw_w) (k : Vv d mi (pc + 3) lv (.double v :: st) σ Q) : Vv d mi pc lv (st) σ Q := by
  intro γ p l e s m args below meth c H locs d0 ls C hd0 hl hS hP
  obtain ⟨hx, hb, hr, hml, hown, hts, hlk, hK, hG⟩ := id C
  refine lv_ldc2d hx hb hown (dr_words hts _ _ hw) hd ?_
  exact k γ p l e s m args below meth c H locs d0 ls C hd0 hl hS hP
theorem v_iload_n {i : Fin 4} {z : Int} (hd : decode mi.2.1 pc = .ok (.iload_n i, 1)) (hg : lv[(i : Nat)]? = some (.int (iI z))) (k : Vv d mi (pc + 1) lv (.int (iI z) :: st) σ Q) : Vv d mi pc lv (st) σ Q := by
  intro γ p l e s m args below meth c H locs d0 ls C hd0 hl hS hP
  obtain ⟨hx, hb, hr, hml, hown, hts, hlk, hK, hG⟩ := id C
  refine lv_iload_n hx hb hd rfl (hl.2.2 _ _ hg (fun h => by cases h)) ?_
  exact k γ p l e s m args below meth c H locs d0 ls C hd0 hl hS hP
theorem v_iload {i : Nat} {z : Int} (hd : decode mi.2.1 pc = .ok (.iload i, 2)) (hg : lv[i]? = some (.int (iI z))) (k : Vv d mi (pc + 2) lv (.int (iI z) :: st) σ Q) : Vv d mi pc lv (st) σ Q := by
  intro γ p l e s m args below meth c H locs d0 ls C hd0 hl hS hP
  obtain ⟨hx, hb, hr, hml, hown, hts, hlk, hK, hG⟩ := id C
  refine lv_iload hx hb hd (hl.2.2 _ _ hg (fun h => by cases h)) ?_
  exact k γ p l e s m args below meth c H locs d0 ls C hd0 hl hS hP
theorem v_lload_n {i : Fin 4} {z : Int} (hd : decode mi.2.1 pc = .ok (.lload_n i, 1)) (hg : lv[(i : Nat)]? = some (.long (lI z))) (k : Vv d mi (pc + 1) lv (.long (lI z) :: st) σ Q) : Vv d mi pc lv (st) σ Q := by
  intro γ p l e s m args below meth c H locs d0 ls C hd0 hl hS hP
  obtain ⟨hx, hb, hr, hml, hown, hts, hlk, hK, hG⟩ := id C
  refine lv_lload_n hx hb hd rfl (hl.2.2 _ _ hg (fun h => by cases h)) ?_
  exact k γ p l e s m args below meth c H locs d0 ls C hd0 hl hS hP
theorem v_lload {i : Nat} {z : Int} (hd : decode mi.2.1 pc = .ok (.lload i, 2)) (hg : lv[i]? = some (.long (lI z))) (k : Vv d mi (pc + 2) lv (.long (lI z) :: st) σ Q) : Vv d mi pc lv (st) σ Q := by
  intro γ p l e s m args below meth c H locs d0 ls C hd0 hl hS hP
  obtain ⟨hx, hb, hr, hml, hown, hts, hlk, hK, hG⟩ := id C
  refine lv_lload hx hb hd (hl.2.2 _ _ hg (fun h => by cases h)) ?_
  exact k γ p l e s m args below meth c H locs d0 ls C hd0 hl hS hP
theorem v_aload_n {i : Fin 4} {z : Nat} (hd : decode mi.2.1 pc = .ok (.aload_n i, 1)) (hg : lv[(i : Nat)]? = some (.ref z)) (k : Vv d mi (pc + 1) lv (.ref z :: st) σ Q) : Vv d mi pc lv (st) σ Q := by
  intro γ p l e s m args below meth c H locs d0 ls C hd0 hl hS hP
  obtain ⟨hx, hb, hr, hml, hown, hts, hlk, hK, hG⟩ := id C
  refine lv_aload_n hx hb hd rfl (hl.2.2 _ _ hg (fun h => by cases h)) ?_
  exact k γ p l e s m args below meth c H locs d0 ls C hd0 hl hS hP
theorem v_aload {i : Nat} {z : Nat} (hd : decode mi.2.1 pc = .ok (.aload i, 2)) (hg : lv[i]? = some (.ref z)) (k : Vv d mi (pc + 2) lv (.ref z :: st) σ Q) : Vv d mi pc lv (st) σ Q := by
  intro γ p l e s m args below meth c H locs d0 ls C hd0 hl hS hP
  obtain ⟨hx, hb, hr, hml, hown, hts, hlk, hK, hG⟩ := id C
  refine lv_aload hx hb hd (hl.2.2 _ _ hg (fun h => by cases h)) ?_
  exact k γ p l e s m args below meth c H locs d0 ls C hd0 hl hS hP
theorem v_fload_n {i : Fin 4} {z : UInt32} (hd : decode mi.2.1 pc = .ok (.fload_n i, 1)) (hg : lv[(i : Nat)]? = some (.float z)) (k : Vv d mi (pc + 1) lv (.float z :: st) σ Q) : Vv d mi pc lv (st) σ Q := by
  intro γ p l e s m args below meth c H locs d0 ls C hd0 hl hS hP
  obtain ⟨hx, hb, hr, hml, hown, hts, hlk, hK, hG⟩ := id C
  refine lv_fload_n hx hb hd rfl (hl.2.2 _ _ hg (fun h => by cases h)) ?_
  exact k γ p l e s m args below meth c H locs d0 ls C hd0 hl hS hP
theorem v_fload {i : Nat} {z : UInt32} (hd : decode mi.2.1 pc = .ok (.fload i, 2)) (hg : lv[i]? = some (.float z)) (k : Vv d mi (pc + 2) lv (.float z :: st) σ Q) : Vv d mi pc lv (st) σ Q := by
  intro γ p l e s m args below meth c H locs d0 ls C hd0 hl hS hP
  obtain ⟨hx, hb, hr, hml, hown, hts, hlk, hK, hG⟩ := id C
  refine lv_fload hx hb hd (hl.2.2 _ _ hg (fun h => by cases h)) ?_
  exact k γ p l e s m args below meth c H locs d0 ls C hd0 hl hS hP
theorem v_dload_n {i : Fin 4} {z : UInt64} (hd : decode mi.2.1 pc = .ok (.dload_n i, 1)) (hg : lv[(i : Nat)]? = some (.double z)) (k : Vv d mi (pc + 1) lv (.double z :: st) σ Q) : Vv d mi pc lv (st) σ Q := by
  intro γ p l e s m args below meth c H locs d0 ls C hd0 hl hS hP
  obtain ⟨hx, hb, hr, hml, hown, hts, hlk, hK, hG⟩ := id C
  refine lv_dload_n hx hb hd rfl (hl.2.2 _ _ hg (fun h => by cases h)) ?_
  exact k γ p l e s m args below meth c H locs d0 ls C hd0 hl hS hP
theorem v_dload {i : Nat} {z : UInt64} (hd : decode mi.2.1 pc = .ok (.dload i, 2)) (hg : lv[i]? = some (.double z)) (k : Vv d mi (pc + 2) lv (.double z :: st) σ Q) : Vv d mi pc lv (st) σ Q := by
  intro γ p l e s m args below meth c H locs d0 ls C hd0 hl hS hP
  obtain ⟨hx, hb, hr, hml, hown, hts, hlk, hK, hG⟩ := id C
  refine lv_dload hx hb hd (hl.2.2 _ _ hg (fun h => by cases h)) ?_
  exact k γ p l e s m args below meth c H locs d0 ls C hd0 hl hS hP
theorem v_istore_n {i : Fin 4} {z : Int} (hd : decode mi.2.1 pc = .ok (.istore_n i, 1)) (hn : (i : Nat) < mi.2.2.1) (hc : c1A lv (i : Nat) = true) (hlv : lv.set (i : Nat) (.int (iI z)) = lv') (k : Vv d mi (pc + 1) lv' st σ Q) : Vv d mi pc lv (.int (iI z) :: st) σ Q := by
  intro γ p l e s m args below meth c H locs d0 ls C hd0 hl hS hP
  obtain ⟨hx, hb, hr, hml, hown, hts, hlk, hK, hG⟩ := id C
  refine lv_istore_n hx hb hd rfl (lvOK_has hl) hn rfl (fun ls hl2 => ?_)
  have hl := lvOK_st1 (ad := γ.1) (v := .int (iI z)) hc hlv hl2
  exact k γ p l e s m args below meth c H locs d0 ls C hd0 hl hS hP
theorem v_istore {i : Nat} {z : Int} (hd : decode mi.2.1 pc = .ok (.istore i, 2)) (hn : i < mi.2.2.1) (hc : c1A lv i = true) (hlv : lv.set i (.int (iI z)) = lv') (k : Vv d mi (pc + 2) lv' st σ Q) : Vv d mi pc lv (.int (iI z) :: st) σ Q := by
  intro γ p l e s m args below meth c H locs d0 ls C hd0 hl hS hP
  obtain ⟨hx, hb, hr, hml, hown, hts, hlk, hK, hG⟩ := id C
  refine lv_istore hx hb hd (lvOK_has hl) hn rfl (fun ls hl2 => ?_)
  have hl := lvOK_st1 (ad := γ.1) (v := .int (iI z)) hc hlv hl2
  exact k γ p l e s m args below meth c H locs d0 ls C hd0 hl hS hP
theorem v_lstore_n {i : Fin 4} {z : Int} (hd : decode mi.2.1 pc = .ok (.lstore_n i, 1)) (hn : (i : Nat) + 1 < mi.2.2.1) (hc : c1A lv (i : Nat) = true) (hlv : (lv.set (i : Nat) (.long (lI z))).set ((i : Nat) + 1) .null = lv') (k : Vv d mi (pc + 1) lv' st σ Q) : Vv d mi pc lv (.long (lI z) :: st) σ Q := by
  intro γ p l e s m args below meth c H locs d0 ls C hd0 hl hS hP
  obtain ⟨hx, hb, hr, hml, hown, hts, hlk, hK, hG⟩ := id C
  refine lv_lstore_n hx hb hd rfl (lvOK_has hl) hn rfl (fun ls hl2 => ?_)
  have hl := lvOK_st2 (ad := γ.1) (v := .long (lI z)) hc hlv hl2
  exact k γ p l e s m args below meth c H locs d0 ls C hd0 hl hS hP
theorem v_lstore {i : Nat} {z : Int} (hd : decode mi.2.1 pc = .ok (.lstore i, 2)) (hn : i + 1 < mi.2.2.1) (hc : c1A lv i = true) (hlv : (lv.set i (.long (lI z))).set (i + 1) .null = lv') (k : Vv d mi (pc + 2) lv' st σ Q) : Vv d mi pc lv (.long (lI z) :: st) σ Q := by
  intro γ p l e s m args below meth c H locs d0 ls C hd0 hl hS hP
  obtain ⟨hx, hb, hr, hml, hown, hts, hlk, hK, hG⟩ := id C
  refine lv_lstore hx hb hd (lvOK_has hl) hn rfl (fun ls hl2 => ?_)
  have hl := lvOK_st2 (ad := γ.1) (v := .long (lI z)) hc hlv hl2
  exact k γ p l e s m args below meth c H locs d0 ls C hd0 hl hS hP
theorem v_astore_n {i : Fin 4} {z : Nat} (hd : decode mi.2.1 pc = .ok (.astore_n i, 1)) (hn : (i : Nat) < mi.2.2.1) (hc : c1A lv (i : Nat) = true) (hlv : lv.set (i : Nat) (.ref z) = lv') (k : Vv d mi (pc + 1) lv' st σ Q) : Vv d mi pc lv (.ref z :: st) σ Q := by
  intro γ p l e s m args below meth c H locs d0 ls C hd0 hl hS hP
  obtain ⟨hx, hb, hr, hml, hown, hts, hlk, hK, hG⟩ := id C
  refine lv_astore_n hx hb hd rfl (lvOK_has hl) hn rfl (fun ls hl2 => ?_)
  have hl := lvOK_st1 (ad := γ.1) (v := .ref z) hc hlv hl2
  exact k γ p l e s m args below meth c H locs d0 ls C hd0 hl hS hP
theorem v_astore {i : Nat} {z : Nat} (hd : decode mi.2.1 pc = .ok (.astore i, 2)) (hn : i < mi.2.2.1) (hc : c1A lv i = true) (hlv : lv.set i (.ref z) = lv') (k : Vv d mi (pc + 2) lv' st σ Q) : Vv d mi pc lv (.ref z :: st) σ Q := by
  intro γ p l e s m args below meth c H locs d0 ls C hd0 hl hS hP
  obtain ⟨hx, hb, hr, hml, hown, hts, hlk, hK, hG⟩ := id C
  refine lv_astore hx hb hd (lvOK_has hl) hn rfl (fun ls hl2 => ?_)
  have hl := lvOK_st1 (ad := γ.1) (v := .ref z) hc hlv hl2
  exact k γ p l e s m args below meth c H locs d0 ls C hd0 hl hS hP
theorem v_fstore_n {i : Fin 4} {z : UInt32} (hd : decode mi.2.1 pc = .ok (.fstore_n i, 1)) (hn : (i : Nat) < mi.2.2.1) (hc : c1A lv (i : Nat) = true) (hlv : lv.set (i : Nat) (.float z) = lv') (k : Vv d mi (pc + 1) lv' st σ Q) : Vv d mi pc lv (.float z :: st) σ Q := by
  intro γ p l e s m args below meth c H locs d0 ls C hd0 hl hS hP
  obtain ⟨hx, hb, hr, hml, hown, hts, hlk, hK, hG⟩ := id C
  refine lv_fstore_n hx hb hd rfl (lvOK_has hl) hn rfl (fun ls hl2 => ?_)
  have hl := lvOK_st1 (ad := γ.1) (v := .float z) hc hlv hl2
  exact k γ p l e s m args below meth c H locs d0 ls C hd0 hl hS hP
theorem v_fstore {i : Nat} {z : UInt32} (hd : decode mi.2.1 pc = .ok (.fstore i, 2)) (hn : i < mi.2.2.1) (hc : c1A lv i = true) (hlv : lv.set i (.float z) = lv') (k : Vv d mi (pc + 2) lv' st σ Q) : Vv d mi pc lv (.float z :: st) σ Q := by
  intro γ p l e s m args below meth c H locs d0 ls C hd0 hl hS hP
  obtain ⟨hx, hb, hr, hml, hown, hts, hlk, hK, hG⟩ := id C
  refine lv_fstore hx hb hd (lvOK_has hl) hn rfl (fun ls hl2 => ?_)
  have hl := lvOK_st1 (ad := γ.1) (v := .float z) hc hlv hl2
  exact k γ p l e s m args below meth c H locs d0 ls C hd0 hl hS hP
theorem v_dstore_n {i : Fin 4} {z : UInt64} (hd : decode mi.2.1 pc = .ok (.dstore_n i, 1)) (hn : (i : Nat) + 1 < mi.2.2.1) (hc : c1A lv (i : Nat) = true) (hlv : (lv.set (i : Nat) (.double z)).set ((i : Nat) + 1) .null = lv') (k : Vv d mi (pc + 1) lv' st σ Q) : Vv d mi pc lv (.double z :: st) σ Q := by
  intro γ p l e s m args below meth c H locs d0 ls C hd0 hl hS hP
  obtain ⟨hx, hb, hr, hml, hown, hts, hlk, hK, hG⟩ := id C
  refine lv_dstore_n hx hb hd rfl (lvOK_has hl) hn rfl (fun ls hl2 => ?_)
  have hl := lvOK_st2 (ad := γ.1) (v := .double z) hc hlv hl2
  exact k γ p l e s m args below meth c H locs d0 ls C hd0 hl hS hP
theorem v_dstore {i : Nat} {z : UInt64} (hd : decode mi.2.1 pc = .ok (.dstore i, 2)) (hn : i + 1 < mi.2.2.1) (hc : c1A lv i = true) (hlv : (lv.set i (.double z)).set (i + 1) .null = lv') (k : Vv d mi (pc + 2) lv' st σ Q) : Vv d mi pc lv (.double z :: st) σ Q := by
  intro γ p l e s m args below meth c H locs d0 ls C hd0 hl hS hP
  obtain ⟨hx, hb, hr, hml, hown, hts, hlk, hK, hG⟩ := id C
  refine lv_dstore hx hb hd (lvOK_has hl) hn rfl (fun ls hl2 => ?_)
  have hl := lvOK_st2 (ad := γ.1) (v := .double z) hc hlv hl2
  exact k γ p l e s m args below meth c H locs d0 ls C hd0 hl hS hP
theorem v_iinc {i : Nat} {n z : Int} (hd : decode mi.2.1 pc = .ok (.iinc i n, 3)) (hg : lv[i]? = some (.int (iI z))) (hn : i < mi.2.2.1) (hc : c1A lv i = true) (hlv : lv.set i (.int (iI (z + n))) = lv') (k : Vv d mi (pc + 3) lv' st σ Q) : Vv d mi pc lv st σ Q := by
  intro γ p l e s m args below meth c H locs d0 ls C hd0 hl hS hP
  obtain ⟨hx, hb, hr, hml, hown, hts, hlk, hK, hG⟩ := id C
  obtain ⟨q, hq⟩ := List.getElem?_of_mem (mem_prs (ad := γ.1) (lv := lv) (q := (i, .int (iI z))).mpr ⟨.int (iI z), hg, (fun h => by cases h), rfl⟩)
  refine lv_iinc (v := iI (z + n)) hx hb hd (lvOK_has hl) hq (iI_add z n).symm hn rfl (fun ls hl2 => ?_)
  have hl := lvOK_st1 (ad := γ.1) (v := .int (iI (z + n))) hc hlv hl2
  exact k γ p l e s m args below meth c H locs d0 ls C hd0 hl hS hP
theorem v_iadd {a b : Int} (hd : decode mi.2.1 pc = .ok (.iadd, 1)) (k : Vv d mi (pc + 1) lv (.int (iI (a + b)) :: st) σ Q) : Vv d mi pc lv (.int (iI b) :: .int (iI a) :: st) σ Q := by
  intro γ p l e s m args below meth c H locs d0 ls C hd0 hl hS hP
  obtain ⟨hx, hb, hr, hml, hown, hts, hlk, hK, hG⟩ := id C
  refine lv_iadd hx hb hd ?_
  rw [← iI_add]
  exact k γ p l e s m args below meth c H locs d0 ls C hd0 hl hS hP
theorem v_isub {a b : Int} (hd : decode mi.2.1 pc = .ok (.isub, 1)) (k : Vv d mi (pc + 1) lv (.int (iI (a - b)) :: st) σ Q) : Vv d mi pc lv (.int (iI b) :: .int (iI a) :: st) σ Q := by
  intro γ p l e s m args below meth c H locs d0 ls C hd0 hl hS hP
  obtain ⟨hx, hb, hr, hml, hown, hts, hlk, hK, hG⟩ := id C
  refine lv_isub hx hb hd ?_
  rw [← iI_sub]
  exact k γ p l e s m args below meth c H locs d0 ls C hd0 hl hS hP
theorem v_imul {a b : Int} (hd : decode mi.2.1 pc = .ok (.imul, 1)) (k : Vv d mi (pc + 1) lv (.int (iI (a * b)) :: st) σ Q) : Vv d mi pc lv (.int (iI b) :: .int (iI a) :: st) σ Q := by
  intro γ p l e s m args below meth c H locs d0 ls C hd0 hl hS hP
  obtain ⟨hx, hb, hr, hml, hown, hts, hlk, hK, hG⟩ := id C
  refine lv_imul hx hb hd ?_
  rw [← iI_mul]
  exact k γ p l e s m args below meth c H locs d0 ls C hd0 hl hS hP
theorem v_ladd {a b : Int} (hd : decode mi.2.1 pc = .ok (.ladd, 1)) (k : Vv d mi (pc + 1) lv (.long (lI (a + b)) :: st) σ Q) : Vv d mi pc lv (.long (lI b) :: .long (lI a) :: st) σ Q := by
  intro γ p l e s m args below meth c H locs d0 ls C hd0 hl hS hP
  obtain ⟨hx, hb, hr, hml, hown, hts, hlk, hK, hG⟩ := id C
  refine lv_ladd hx hb hd ?_
  rw [← lI_add]
  exact k γ p l e s m args below meth c H locs d0 ls C hd0 hl hS hP
theorem v_lsub {a b : Int} (hd : decode mi.2.1 pc = .ok (.lsub, 1)) (k : Vv d mi (pc + 1) lv (.long (lI (a - b)) :: st) σ Q) : Vv d mi pc lv (.long (lI b) :: .long (lI a) :: st) σ Q := by
  intro γ p l e s m args below meth c H locs d0 ls C hd0 hl hS hP
  obtain ⟨hx, hb, hr, hml, hown, hts, hlk, hK, hG⟩ := id C
  refine lv_lsub hx hb hd ?_
  rw [← lI_sub]
  exact k γ p l e s m args below meth c H locs d0 ls C hd0 hl hS hP
theorem v_lmul {a b : Int} (hd : decode mi.2.1 pc = .ok (.lmul, 1)) (k : Vv d mi (pc + 1) lv (.long (lI (a * b)) :: st) σ Q) : Vv d mi pc lv (.long (lI b) :: .long (lI a) :: st) σ Q := by
  intro γ p l e s m args below meth c H locs d0 ls C hd0 hl hS hP
  obtain ⟨hx, hb, hr, hml, hown, hts, hlk, hK, hG⟩ := id C
  refine lv_lmul hx hb hd ?_
  rw [← lI_mul]
  exact k γ p l e s m args below meth c H locs d0 ls C hd0 hl hS hP
theorem v_ineg {a : Int} (hd : decode mi.2.1 pc = .ok (.ineg, 1)) (k : Vv d mi (pc + 1) lv (.int (iI (-a)) :: st) σ Q) : Vv d mi pc lv (.int (iI a) :: st) σ Q := by
  intro γ p l e s m args below meth c H locs d0 ls C hd0 hl hS hP
  obtain ⟨hx, hb, hr, hml, hown, hts, hlk, hK, hG⟩ := id C
  refine lv_ineg hx hb hd ?_
  rw [← iI_neg]
  exact k γ p l e s m args below meth c H locs d0 ls C hd0 hl hS hP
theorem v_iand {a b z : Int} (hd : decode mi.2.1 pc = .ok (.iand, 1)) (hz : iI a &&& iI b = iI z) (k : Vv d mi (pc + 1) lv (.int (iI z) :: st) σ Q) : Vv d mi pc lv (.int (iI b) :: .int (iI a) :: st) σ Q := by
  intro γ p l e s m args below meth c H locs d0 ls C hd0 hl hS hP
  obtain ⟨hx, hb, hr, hml, hown, hts, hlk, hK, hG⟩ := id C
  refine lv_iand hx hb hd ?_
  rw [hz]
  exact k γ p l e s m args below meth c H locs d0 ls C hd0 hl hS hP
theorem v_ior {a b z : Int} (hd : decode mi.2.1 pc = .ok (.ior, 1)) (hz : iI a ||| iI b = iI z) (k : Vv d mi (pc + 1) lv (.int (iI z) :: st) σ Q) : Vv d mi pc lv (.int (iI b) :: .int (iI a) :: st) σ Q := by
  intro γ p l e s m args below meth c H locs d0 ls C hd0 hl hS hP
  obtain ⟨hx, hb, hr, hml, hown, hts, hlk, hK, hG⟩ := id C
  refine lv_ior hx hb hd ?_
  rw [hz]
  exact k γ p l e s m args below meth c H locs d0 ls C hd0 hl hS hP
theorem v_ishl {a b z : Int} (hd : decode mi.2.1 pc = .ok (.ishl, 1)) (hz : iI a <<< (iI b &&& 31) = iI z) (k : Vv d mi (pc + 1) lv (.int (iI z) :: st) σ Q) : Vv d mi pc lv (.int (iI b) :: .int (iI a) :: st) σ Q := by
  intro γ p l e s m args below meth c H locs d0 ls C hd0 hl hS hP
  obtain ⟨hx, hb, hr, hml, hown, hts, hlk, hK, hG⟩ := id C
  refine lv_ishl hx hb hd ?_
  rw [hz]
  exact k γ p l e s m args below meth c H locs d0 ls C hd0 hl hS hP
theorem v_ishr {a b z : Int} (hd : decode mi.2.1 pc = .ok (.ishr, 1)) (hz : iI a >>> (iI b &&& 31) = iI z) (k : Vv d mi (pc + 1) lv (.int (iI z) :: st) σ Q) : Vv d mi pc lv (.int (iI b) :: .int (iI a) :: st) σ Q := by
  intro γ p l e s m args below meth c H locs d0 ls C hd0 hl hS hP
  obtain ⟨hx, hb, hr, hml, hown, hts, hlk, hK, hG⟩ := id C
  refine lv_ishr hx hb hd ?_
  rw [hz]
  exact k γ p l e s m args below meth c H locs d0 ls C hd0 hl hS hP
theorem v_land {a b z : Int} (hd : decode mi.2.1 pc = .ok (.land, 1)) (hz : lI a &&& lI b = lI z) (k : Vv d mi (pc + 1) lv (.long (lI z) :: st) σ Q) : Vv d mi pc lv (.long (lI b) :: .long (lI a) :: st) σ Q := by
  intro γ p l e s m args below meth c H locs d0 ls C hd0 hl hS hP
  obtain ⟨hx, hb, hr, hml, hown, hts, hlk, hK, hG⟩ := id C
  refine lv_land hx hb hd ?_
  rw [hz]
  exact k γ p l e s m args below meth c H locs d0 ls C hd0 hl hS hP
theorem v_lor {a b z : Int} (hd : decode mi.2.1 pc = .ok (.lor, 1)) (hz : lI a ||| lI b = lI z) (k : Vv d mi (pc + 1) lv (.long (lI z) :: st) σ Q) : Vv d mi pc lv (.long (lI b) :: .long (lI a) :: st) σ Q := by
  intro γ p l e s m args below meth c H locs d0 ls C hd0 hl hS hP
  obtain ⟨hx, hb, hr, hml, hown, hts, hlk, hK, hG⟩ := id C
  refine lv_lor hx hb hd ?_
  rw [hz]
  exact k γ p l e s m args below meth c H locs d0 ls C hd0 hl hS hP
theorem v_lshl {a b z : Int} (hd : decode mi.2.1 pc = .ok (.lshl, 1)) (hz : lI a <<< ((iI b).toInt64 &&& 63) = lI z) (k : Vv d mi (pc + 1) lv (.long (lI z) :: st) σ Q) : Vv d mi pc lv (.int (iI b) :: .long (lI a) :: st) σ Q := by
  intro γ p l e s m args below meth c H locs d0 ls C hd0 hl hS hP
  obtain ⟨hx, hb, hr, hml, hown, hts, hlk, hK, hG⟩ := id C
  refine lv_lshl hx hb hd hz ?_
  exact k γ p l e s m args below meth c H locs d0 ls C hd0 hl hS hP
theorem v_lshr {a b z : Int} (hd : decode mi.2.1 pc = .ok (.lshr, 1)) (hz : lI a >>> ((iI b).toInt64 &&& 63) = lI z) (k : Vv d mi (pc + 1) lv (.long (lI z) :: st) σ Q) : Vv d mi pc lv (.int (iI b) :: .long (lI a) :: st) σ Q := by
  intro γ p l e s m args below meth c H locs d0 ls C hd0 hl hS hP
  obtain ⟨hx, hb, hr, hml, hown, hts, hlk, hK, hG⟩ := id C
  refine lv_lshr hx hb hd hz ?_
  exact k γ p l e s m args below meth c H locs d0 ls C hd0 hl hS hP
theorem v_lushr {a b z : Int} (hd : decode mi.2.1 pc = .ok (.lushr, 1)) (hz : ((lI a).toUInt64 >>> ((iI b).toInt64.toUInt64 &&& Int64.toUInt64 63)).toInt64 = lI z) (k : Vv d mi (pc + 1) lv (.long (lI z) :: st) σ Q) : Vv d mi pc lv (.int (iI b) :: .long (lI a) :: st) σ Q := by
  intro γ p l e s m args below meth c H locs d0 ls C hd0 hl hS hP
  obtain ⟨hx, hb, hr, hml, hown, hts, hlk, hK, hG⟩ := id C
  refine lv_lushr hx hb hd hz ?_
  exact k γ p l e s m args below meth c H locs d0 ls C hd0 hl hS hP
theorem v_idiv {a b z : Int} (hd : decode mi.2.1 pc = .ok (.idiv, 1)) (hne : ¬ iI b = 0) (hz : iI a / iI b = iI z) (k : Vv d mi (pc + 1) lv (.int (iI z) :: st) σ Q) : Vv d mi pc lv (.int (iI b) :: .int (iI a) :: st) σ Q := by
  intro γ p l e s m args below meth c H locs d0 ls C hd0 hl hS hP
  obtain ⟨hx, hb, hr, hml, hown, hts, hlk, hK, hG⟩ := id C
  refine lv_idiv hx hb hd hne ?_
  rw [hz]
  exact k γ p l e s m args below meth c H locs d0 ls C hd0 hl hS hP
theorem v_irem {a b z : Int} (hd : decode mi.2.1 pc = .ok (.irem, 1)) (hne : ¬ iI b = 0) (hz : iI a - iI a / iI b * iI b = iI z) (k : Vv d mi (pc + 1) lv (.int (iI z) :: st) σ Q) : Vv d mi pc lv (.int (iI b) :: .int (iI a) :: st) σ Q := by
  intro γ p l e s m args below meth c H locs d0 ls C hd0 hl hS hP
  obtain ⟨hx, hb, hr, hml, hown, hts, hlk, hK, hG⟩ := id C
  refine lv_irem hx hb hd hne ?_
  rw [hz]
  exact k γ p l e s m args below meth c H locs d0 ls C hd0 hl hS hP
theorem v_i2l {a : Int} (hd : decode mi.2.1 pc = .ok (.i2l, 1)) (ha : -2147483648 ≤ a ∧ a < 2147483648) (k : Vv d mi (pc + 1) lv (.long (lI a) :: st) σ Q) : Vv d mi pc lv (.int (iI a) :: st) σ Q := by
  intro γ p l e s m args below meth c H locs d0 ls C hd0 hl hS hP
  obtain ⟨hx, hb, hr, hml, hown, hts, hlk, hK, hG⟩ := id C
  refine lv_i2l hx hb hd (iI_toL ha.1 ha.2) ?_
  exact k γ p l e s m args below meth c H locs d0 ls C hd0 hl hS hP
theorem v_l2i {a : Int} (hd : decode mi.2.1 pc = .ok (.l2i, 1)) (k : Vv d mi (pc + 1) lv (.int (iI a) :: st) σ Q) : Vv d mi pc lv (.long (lI a) :: st) σ Q := by
  intro γ p l e s m args below meth c H locs d0 ls C hd0 hl hS hP
  obtain ⟨hx, hb, hr, hml, hown, hts, hlk, hK, hG⟩ := id C
  refine lv_l2i hx hb hd (lI_toI a) ?_
  exact k γ p l e s m args below meth c H locs d0 ls C hd0 hl hS hP
theorem v_i2b {a : Int} (hd : decode mi.2.1 pc = .ok (.i2b, 1)) (ha : -128 ≤ a ∧ a < 128) (k : Vv d mi (pc + 1) lv (.int (iI a) :: st) σ Q) : Vv d mi pc lv (.int (iI a) :: st) σ Q := by
  intro γ p l e s m args below meth c H locs d0 ls C hd0 hl hS hP
  obtain ⟨hx, hb, hr, hml, hown, hts, hlk, hK, hG⟩ := id C
  refine lv_i2b hx hb hd (i2b9 ha) ?_
  exact k γ p l e s m args below meth c H locs d0 ls C hd0 hl hS hP
theorem v_i2f {a : Int} (hd : decode mi.2.1 pc = .ok (.i2f, 1)) (k : Vv d mi (pc + 1) lv (.float (FP.i2f (iI a)) :: st) σ Q) : Vv d mi pc lv (.int (iI a) :: st) σ Q := by
  intro γ p l e s m args below meth c H locs d0 ls C hd0 hl hS hP
  obtain ⟨hx, hb, hr, hml, hown, hts, hlk, hK, hG⟩ := id C
  refine lv_i2f hx hb hd ?_
  exact k γ p l e s m args below meth c H locs d0 ls C hd0 hl hS hP
theorem v_i2d {a : Int} (hd : decode mi.2.1 pc = .ok (.i2d, 1)) (k : Vv d mi (pc + 1) lv (.double (FP.i2d (iI a)) :: st) σ Q) : Vv d mi pc lv (.int (iI a) :: st) σ Q := by
  intro γ p l e s m args below meth c H locs d0 ls C hd0 hl hS hP
  obtain ⟨hx, hb, hr, hml, hown, hts, hlk, hK, hG⟩ := id C
  refine lv_i2d hx hb hd ?_
  exact k γ p l e s m args below meth c H locs d0 ls C hd0 hl hS hP
theorem v_l2f {a : Int} (hd : decode mi.2.1 pc = .ok (.l2f, 1)) (k : Vv d mi (pc + 1) lv (.float (FP.l2f (lI a)) :: st) σ Q) : Vv d mi pc lv (.long (lI a) :: st) σ Q := by
  intro γ p l e s m args below meth c H locs d0 ls C hd0 hl hS hP
  obtain ⟨hx, hb, hr, hml, hown, hts, hlk, hK, hG⟩ := id C
  refine lv_l2f hx hb hd ?_
  exact k γ p l e s m args below meth c H locs d0 ls C hd0 hl hS hP
theorem v_l2d {a : Int} (hd : decode mi.2.1 pc = .ok (.l2d, 1)) (k : Vv d mi (pc + 1) lv (.double (FP.l2d (lI a)) :: st) σ Q) : Vv d mi pc lv (.long (lI a) :: st) σ Q := by
  intro γ p l e s m args below meth c H locs d0 ls C hd0 hl hS hP
  obtain ⟨hx, hb, hr, hml, hown, hts, hlk, hK, hG⟩ := id C
  refine lv_l2d hx hb hd ?_
  exact k γ p l e s m args below meth c H locs d0 ls C hd0 hl hS hP
theorem v_f2l {a : UInt32} {z : Int} (hd : decode mi.2.1 pc = .ok (.f2l, 1)) (hz : FP.f2l a = lI z) (k : Vv d mi (pc + 1) lv (.long (lI z) :: st) σ Q) : Vv d mi pc lv (.float a :: st) σ Q := by
  intro γ p l e s m args below meth c H locs d0 ls C hd0 hl hS hP
  obtain ⟨hx, hb, hr, hml, hown, hts, hlk, hK, hG⟩ := id C
  refine lv_f2l hx hb hd ?_
  rw [hz]
  exact k γ p l e s m args below meth c H locs d0 ls C hd0 hl hS hP
theorem v_d2l {a : UInt64} {z : Int} (hd : decode mi.2.1 pc = .ok (.d2l, 1)) (hz : FP.d2l a = lI z) (k : Vv d mi (pc + 1) lv (.long (lI z) :: st) σ Q) : Vv d mi pc lv (.double a :: st) σ Q := by
  intro γ p l e s m args below meth c H locs d0 ls C hd0 hl hS hP
  obtain ⟨hx, hb, hr, hml, hown, hts, hlk, hK, hG⟩ := id C
  refine lv_d2l hx hb hd ?_
  rw [hz]
  exact k γ p l e s m args below meth c H locs d0 ls C hd0 hl hS hP
theorem v_d2i {a : UInt64} {z : Int} (hd : decode mi.2.1 pc = .ok (.d2i, 1)) (hz : FP.d2i a = iI z) (k : Vv d mi (pc + 1) lv (.int (iI z) :: st) σ Q) : Vv d mi pc lv (.double a :: st) σ Q := by
  intro γ p l e s m args below meth c H locs d0 ls C hd0 hl hS hP
  obtain ⟨hx, hb, hr, hml, hown, hts, hlk, hK, hG⟩ := id C
  refine lv_d2i hx hb hd ?_
  rw [hz]
  exact k γ p l e s m args below meth c H locs d0 ls C hd0 hl hS hP
theorem v_fadd {a b : UInt32} (hd : decode mi.2.1 pc = .ok (.fadd, 1)) (k : ∀ r : UInt32, alike32 r (FP.fadd a b) = true → Vv d mi (pc + 1) lv (.float r :: st) σ Q) : Vv d mi pc lv (.float b :: .float a :: st) σ Q := by
  intro γ p l e s m args below meth c H locs d0 ls C hd0 hl hS hP
  obtain ⟨hx, hb, hr, hml, hown, hts, hlk, hK, hG⟩ := id C
  refine lv_fadd_any hd0 lw_bits hx hb hd (fun r d1 hal hd1 => ?_)
  exact k r hal γ p l e s m args below meth c H locs d1 ls C hd1 hl hS hP
theorem v_fmul {a b : UInt32} (hd : decode mi.2.1 pc = .ok (.fmul, 1)) (k : ∀ r : UInt32, alike32 r (FP.fmul a b) = true → Vv d mi (pc + 1) lv (.float r :: st) σ Q) : Vv d mi pc lv (.float b :: .float a :: st) σ Q := by
  intro γ p l e s m args below meth c H locs d0 ls C hd0 hl hS hP
  obtain ⟨hx, hb, hr, hml, hown, hts, hlk, hK, hG⟩ := id C
  refine lv_fmul_any hd0 lw_bits hx hb hd (fun r d1 hal hd1 => ?_)
  exact k r hal γ p l e s m args below meth c H locs d1 ls C hd1 hl hS hP
theorem v_fdiv {a b : UInt32} (hd : decode mi.2.1 pc = .ok (.fdiv, 1)) (k : ∀ r : UInt32, alike32 r (FP.fdiv a b) = true → Vv d mi (pc + 1) lv (.float r :: st) σ Q) : Vv d mi pc lv (.float b :: .float a :: st) σ Q := by
  intro γ p l e s m args below meth c H locs d0 ls C hd0 hl hS hP
  obtain ⟨hx, hb, hr, hml, hown, hts, hlk, hK, hG⟩ := id C
  refine lv_fdiv_any hd0 lw_bits hx hb hd (fun r d1 hal hd1 => ?_)
  exact k r hal γ p l e s m args below meth c H locs d1 ls C hd1 hl hS hP
theorem v_dadd {a b : UInt64} (hd : decode mi.2.1 pc = .ok (.dadd, 1)) (k : ∀ r : UInt64, alike64 r (FP.dadd a b) = true → Vv d mi (pc + 1) lv (.double r :: st) σ Q) : Vv d mi pc lv (.double b :: .double a :: st) σ Q := by
  intro γ p l e s m args below meth c H locs d0 ls C hd0 hl hS hP
  obtain ⟨hx, hb, hr, hml, hown, hts, hlk, hK, hG⟩ := id C
  refine lv_dadd_any hd0 lw_bits hx hb hd (fun r d1 hal hd1 => ?_)
  exact k r hal γ p l e s m args below meth c H locs d1 ls C hd1 hl hS hP
theorem v_dsub {a b : UInt64} (hd : decode mi.2.1 pc = .ok (.dsub, 1)) (k : ∀ r : UInt64, alike64 r (FP.dsub a b) = true → Vv d mi (pc + 1) lv (.double r :: st) σ Q) : Vv d mi pc lv (.double b :: .double a :: st) σ Q := by
  intro γ p l e s m args below meth c H locs d0 ls C hd0 hl hS hP
  obtain ⟨hx, hb, hr, hml, hown, hts, hlk, hK, hG⟩ := id C
  refine lv_dsub_any hd0 lw_bits hx hb hd (fun r d1 hal hd1 => ?_)
  exact k r hal γ p l e s m args below meth c H locs d1 ls C hd1 hl hS hP
theorem v_dmul {a b : UInt64} (hd : decode mi.2.1 pc = .ok (.dmul, 1)) (k : ∀ r : UInt64, alike64 r (FP.dmul a b) = true → Vv d mi (pc + 1) lv (.double r :: st) σ Q) : Vv d mi pc lv (.double b :: .double a :: st) σ Q := by
  intro γ p l e s m args below meth c H locs d0 ls C hd0 hl hS hP
  obtain ⟨hx, hb, hr, hml, hown, hts, hlk, hK, hG⟩ := id C
  refine lv_dmul_any hd0 lw_bits hx hb hd (fun r d1 hal hd1 => ?_)
  exact k r hal γ p l e s m args below meth c H locs d1 ls C hd1 hl hS hP
theorem v_ddiv {a b : UInt64} (hd : decode mi.2.1 pc = .ok (.ddiv, 1)) (k : ∀ r : UInt64, alike64 r (FP.ddiv a b) = true → Vv d mi (pc + 1) lv (.double r :: st) σ Q) : Vv d mi pc lv (.double b :: .double a :: st) σ Q := by
  intro γ p l e s m args below meth c H locs d0 ls C hd0 hl hS hP
  obtain ⟨hx, hb, hr, hml, hown, hts, hlk, hK, hG⟩ := id C
  refine lv_ddiv_any hd0 lw_bits hx hb hd (fun r d1 hal hd1 => ?_)
  exact k r hal γ p l e s m args below meth c H locs d1 ls C hd1 hl hS hP
theorem v_f2d {a : UInt32} (hd : decode mi.2.1 pc = .ok (.f2d, 1)) (k : ∀ r : UInt64, alike64 r (FP.f2d a) = true → Vv d mi (pc + 1) lv (.double r :: st) σ Q) : Vv d mi pc lv (.float a :: st) σ Q := by
  intro γ p l e s m args below meth c H locs d0 ls C hd0 hl hS hP
  obtain ⟨hx, hb, hr, hml, hown, hts, hlk, hK, hG⟩ := id C
  refine lv_f2d_any hd0 lw_bits hx hb hd (fun r d1 hal hd1 => ?_)
  exact k r hal γ p l e s m args below meth c H locs d1 ls C hd1 hl hS hP
theorem v_dup {v : Value} (hd : decode mi.2.1 pc = .ok (.dup, 1)) (hc : v.category = 1) (k : Vv d mi (pc + 1) lv (v :: v :: st) σ Q) : Vv d mi pc lv (v :: st) σ Q := by
  intro γ p l e s m args below meth c H locs d0 ls C hd0 hl hS hP
  obtain ⟨hx, hb, hr, hml, hown, hts, hlk, hK, hG⟩ := id C
  refine lv_dup hx hb hd (by rw [trv_cat]; exact hc) ?_
  exact k γ p l e s m args below meth c H locs d0 ls C hd0 hl hS hP
theorem v_pop {v : Value} (hd : decode mi.2.1 pc = .ok (.pop, 1)) (hc : v.category = 1) (k : Vv d mi (pc + 1) lv (st) σ Q) : Vv d mi pc lv (v :: st) σ Q := by
  intro γ p l e s m args below meth c H locs d0 ls C hd0 hl hS hP
  obtain ⟨hx, hb, hr, hml, hown, hts, hlk, hK, hG⟩ := id C
  refine lv_pop hx hb hd (by rw [trv_cat]; exact hc) ?_
  exact k γ p l e s m args below meth c H locs d0 ls C hd0 hl hS hP
theorem v_dup2 {v w : Value} (hd : decode mi.2.1 pc = .ok (.dup2, 1)) (hc : v.category = 1) (hc2 : w.category = 1) (k : Vv d mi (pc + 1) lv (v :: w :: v :: w :: st) σ Q) : Vv d mi pc lv (v :: w :: st) σ Q := by
  intro γ p l e s m args below meth c H locs d0 ls C hd0 hl hS hP
  obtain ⟨hx, hb, hr, hml, hown, hts, hlk, hK, hG⟩ := id C
  refine lv_dup2_11 hx hb hd (by rw [trv_cat]; exact hc) (by rw [trv_cat]; exact hc2) ?_
  exact k γ p l e s m args below meth c H locs d0 ls C hd0 hl hS hP
theorem v_icmp_eq {a b : Int} {off : Int} {tgt : Nat} (hd : decode mi.2.1 pc = .ok (.if_icmp .eq off, 3)) (ht : (pc : Int) + off = (tgt : Int)) (h : (-2147483648 ≤ a ∧ a < 2147483648) ∧ (-2147483648 ≤ b ∧ b < 2147483648)) (kt : a = b → Vv d mi tgt lv st σ Q) (kf : a ≠ b → Vv d mi (pc + 3) lv st σ Q) : Vv d mi pc lv (.int (iI b) :: .int (iI a) :: st) σ Q := by
  intro γ p l e s m args below meth c H locs d0 ls C hd0 hl hS hP
  obtain ⟨hx, hb, hr, hml, hown, hts, hlk, hK, hG⟩ := id C
  refine lv_icmp_eq hx hb hd ht (fun q => ?_) (fun q => ?_)
  · exact kt ((iI_eq h).mp q) γ p l e s m args below meth c H locs d0 ls C hd0 hl hS hP
  · exact kf (fun e => q ((iI_eq h).mpr e)) γ p l e s m args below meth c H locs d0 ls C hd0 hl hS hP
theorem v_if_eq {a : Int} {off : Int} {tgt : Nat} (hd : decode mi.2.1 pc = .ok (.ifCond .eq off, 3)) (ht : (pc : Int) + off = (tgt : Int)) (h0 : (-2147483648 ≤ a ∧ a < 2147483648)) (kt : a = 0 → Vv d mi tgt lv st σ Q) (kf : a ≠ 0 → Vv d mi (pc + 3) lv st σ Q) : Vv d mi pc lv (.int (iI a) :: st) σ Q := by
  intro γ p l e s m args below meth c H locs d0 ls C hd0 hl hS hP
  obtain ⟨hx, hb, hr, hml, hown, hts, hlk, hK, hG⟩ := id C
  have h : (-2147483648 ≤ a ∧ a < 2147483648) ∧ (-2147483648 ≤ (0 : Int) ∧ (0 : Int) < 2147483648) := ⟨h0, by decide⟩
  refine lv_if_eq hx hb hd ht (fun q => ?_) (fun q => ?_)
  · exact kt ((iI_eq h).mp q) γ p l e s m args below meth c H locs d0 ls C hd0 hl hS hP
  · exact kf (fun e => q ((iI_eq h).mpr e)) γ p l e s m args below meth c H locs d0 ls C hd0 hl hS hP
theorem v_icmp_ne {a b : Int} {off : Int} {tgt : Nat} (hd : decode mi.2.1 pc = .ok (.if_icmp .ne off, 3)) (ht : (pc : Int) + off = (tgt : Int)) (h : (-2147483648 ≤ a ∧ a < 2147483648) ∧ (-2147483648 ≤ b ∧ b < 2147483648)) (kt : a ≠ b → Vv d mi tgt lv st σ Q) (kf : a = b → Vv d mi (pc + 3) lv st σ Q) : Vv d mi pc lv (.int (iI b) :: .int (iI a) :: st) σ Q := by
  intro γ p l e s m args below meth c H locs d0 ls C hd0 hl hS hP
  obtain ⟨hx, hb, hr, hml, hown, hts, hlk, hK, hG⟩ := id C
  refine lv_icmp_ne hx hb hd ht (fun q => ?_) (fun q => ?_)
  · exact kt (fun e => q ((iI_eq h).mpr e)) γ p l e s m args below meth c H locs d0 ls C hd0 hl hS hP
  · exact kf ((iI_eq h).mp q) γ p l e s m args below meth c H locs d0 ls C hd0 hl hS hP
theorem v_if_ne {a : Int} {off : Int} {tgt : Nat} (hd : decode mi.2.1 pc = .ok (.ifCond .ne off, 3)) (ht : (pc : Int) + off = (tgt : Int)) (h0 : (-2147483648 ≤ a ∧ a < 2147483648)) (kt : a ≠ 0 → Vv d mi tgt lv st σ Q) (kf : a = 0 → Vv d mi (pc + 3) lv st σ Q) : Vv d mi pc lv (.int (iI a) :: st) σ Q := by
  intro γ p l e s m args below meth c H locs d0 ls C hd0 hl hS hP
  obtain ⟨hx, hb, hr, hml, hown, hts, hlk, hK, hG⟩ := id C
  have h : (-2147483648 ≤ a ∧ a < 2147483648) ∧ (-2147483648 ≤ (0 : Int) ∧ (0 : Int) < 2147483648) := ⟨h0, by decide⟩
  refine lv_if_ne hx hb hd ht (fun q => ?_) (fun q => ?_)
  · exact kt (fun e => q ((iI_eq h).mpr e)) γ p l e s m args below meth c H locs d0 ls C hd0 hl hS hP
  · exact kf ((iI_eq h).mp q) γ p l e s m args below meth c H locs d0 ls C hd0 hl hS hP
theorem v_icmp_lt {a b : Int} {off : Int} {tgt : Nat} (hd : decode mi.2.1 pc = .ok (.if_icmp .lt off, 3)) (ht : (pc : Int) + off = (tgt : Int)) (h : (-2147483648 ≤ a ∧ a < 2147483648) ∧ (-2147483648 ≤ b ∧ b < 2147483648)) (kt : a < b → Vv d mi tgt lv st σ Q) (kf : b ≤ a → Vv d mi (pc + 3) lv st σ Q) : Vv d mi pc lv (.int (iI b) :: .int (iI a) :: st) σ Q := by
  intro γ p l e s m args below meth c H locs d0 ls C hd0 hl hS hP
  obtain ⟨hx, hb, hr, hml, hown, hts, hlk, hK, hG⟩ := id C
  refine lv_icmp_lt hx hb hd ht (fun q => ?_) (fun q => ?_)
  · exact kt ((iI_lt h).mp q) γ p l e s m args below meth c H locs d0 ls C hd0 hl hS hP
  · exact kf (Int.not_lt.mp (fun e => q ((iI_lt h).mpr e))) γ p l e s m args below meth c H locs d0 ls C hd0 hl hS hP
theorem v_if_lt {a : Int} {off : Int} {tgt : Nat} (hd : decode mi.2.1 pc = .ok (.ifCond .lt off, 3)) (ht : (pc : Int) + off = (tgt : Int)) (h0 : (-2147483648 ≤ a ∧ a < 2147483648)) (kt : a < 0 → Vv d mi tgt lv st σ Q) (kf : 0 ≤ a → Vv d mi (pc + 3) lv st σ Q) : Vv d mi pc lv (.int (iI a) :: st) σ Q := by
  intro γ p l e s m args below meth c H locs d0 ls C hd0 hl hS hP
  obtain ⟨hx, hb, hr, hml, hown, hts, hlk, hK, hG⟩ := id C
  have h : (-2147483648 ≤ a ∧ a < 2147483648) ∧ (-2147483648 ≤ (0 : Int) ∧ (0 : Int) < 2147483648) := ⟨h0, by decide⟩
  refine lv_if_lt hx hb hd ht (fun q => ?_) (fun q => ?_)
  · exact kt ((iI_lt h).mp q) γ p l e s m args below meth c H locs d0 ls C hd0 hl hS hP
  · exact kf (Int.not_lt.mp (fun e => q ((iI_lt h).mpr e))) γ p l e s m args below meth c H locs d0 ls C hd0 hl hS hP
theorem v_icmp_ge {a b : Int} {off : Int} {tgt : Nat} (hd : decode mi.2.1 pc = .ok (.if_icmp .ge off, 3)) (ht : (pc : Int) + off = (tgt : Int)) (h : (-2147483648 ≤ a ∧ a < 2147483648) ∧ (-2147483648 ≤ b ∧ b < 2147483648)) (kt : b ≤ a → Vv d mi tgt lv st σ Q) (kf : a < b → Vv d mi (pc + 3) lv st σ Q) : Vv d mi pc lv (.int (iI b) :: .int (iI a) :: st) σ Q := by
  intro γ p l e s m args below meth c H locs d0 ls C hd0 hl hS hP
  obtain ⟨hx, hb, hr, hml, hown, hts, hlk, hK, hG⟩ := id C
  refine lv_icmp_ge hx hb hd ht (fun q => ?_) (fun q => ?_)
  · exact kt ((iI_le ⟨h.2, h.1⟩).mp q) γ p l e s m args below meth c H locs d0 ls C hd0 hl hS hP
  · exact kf (Int.not_le.mp (fun e => q ((iI_le ⟨h.2, h.1⟩).mpr e))) γ p l e s m args below meth c H locs d0 ls C hd0 hl hS hP
theorem v_if_ge {a : Int} {off : Int} {tgt : Nat} (hd : decode mi.2.1 pc = .ok (.ifCond .ge off, 3)) (ht : (pc : Int) + off = (tgt : Int)) (h0 : (-2147483648 ≤ a ∧ a < 2147483648)) (kt : 0 ≤ a → Vv d mi tgt lv st σ Q) (kf : a < 0 → Vv d mi (pc + 3) lv st σ Q) : Vv d mi pc lv (.int (iI a) :: st) σ Q := by
  intro γ p l e s m args below meth c H locs d0 ls C hd0 hl hS hP
  obtain ⟨hx, hb, hr, hml, hown, hts, hlk, hK, hG⟩ := id C
  have h : (-2147483648 ≤ a ∧ a < 2147483648) ∧ (-2147483648 ≤ (0 : Int) ∧ (0 : Int) < 2147483648) := ⟨h0, by decide⟩
  refine lv_if_ge hx hb hd ht (fun q => ?_) (fun q => ?_)
  · exact kt ((iI_le ⟨h.2, h.1⟩).mp q) γ p l e s m args below meth c H locs d0 ls C hd0 hl hS hP
  · exact kf (Int.not_le.mp (fun e => q ((iI_le ⟨h.2, h.1⟩).mpr e))) γ p l e s m args below meth c H locs d0 ls C hd0 hl hS hP
theorem v_icmp_gt {a b : Int} {off : Int} {tgt : Nat} (hd : decode mi.2.1 pc = .ok (.if_icmp .gt off, 3)) (ht : (pc : Int) + off = (tgt : Int)) (h : (-2147483648 ≤ a ∧ a < 2147483648) ∧ (-2147483648 ≤ b ∧ b < 2147483648)) (kt : b < a → Vv d mi tgt lv st σ Q) (kf : a ≤ b → Vv d mi (pc + 3) lv st σ Q) : Vv d mi pc lv (.int (iI b) :: .int (iI a) :: st) σ Q := by
  intro γ p l e s m args below meth c H locs d0 ls C hd0 hl hS hP
  obtain ⟨hx, hb, hr, hml, hown, hts, hlk, hK, hG⟩ := id C
  refine lv_icmp_gt hx hb hd ht (fun q => ?_) (fun q => ?_)
  · exact kt ((iI_lt ⟨h.2, h.1⟩).mp q) γ p l e s m args below meth c H locs d0 ls C hd0 hl hS hP
  · exact kf (Int.not_lt.mp (fun e => q ((iI_lt ⟨h.2, h.1⟩).mpr e))) γ p l e s m args below meth c H locs d0 ls C hd0 hl hS hP
theorem v_if_gt {a : Int} {off : Int} {tgt : Nat} (hd : decode mi.2.1 pc = .ok (.ifCond .gt off, 3)) (ht : (pc : Int) + off = (tgt : Int)) (h0 : (-2147483648 ≤ a ∧ a < 2147483648)) (kt : 0 < a → Vv d mi tgt lv st σ Q) (kf : a ≤ 0 → Vv d mi (pc + 3) lv st σ Q) : Vv d mi pc lv (.int (iI a) :: st) σ Q := by
  intro γ p l e s m args below meth c H locs d0 ls C hd0 hl hS hP
  obtain ⟨hx, hb, hr, hml, hown, hts, hlk, hK, hG⟩ := id C
  have h : (-2147483648 ≤ a ∧ a < 2147483648) ∧ (-2147483648 ≤ (0 : Int) ∧ (0 : Int) < 2147483648) := ⟨h0, by decide⟩
  refine lv_if_gt hx hb hd ht (fun q => ?_) (fun q => ?_)
  · exact kt ((iI_lt ⟨h.2, h.1⟩).mp q) γ p l e s m args below meth c H locs d0 ls C hd0 hl hS hP
  · exact kf (Int.not_lt.mp (fun e => q ((iI_lt ⟨h.2, h.1⟩).mpr e))) γ p l e s m args below meth c H locs d0 ls C hd0 hl hS hP
theorem v_icmp_le {a b : Int} {off : Int} {tgt : Nat} (hd : decode mi.2.1 pc = .ok (.if_icmp .le off, 3)) (ht : (pc : Int) + off = (tgt : Int)) (h : (-2147483648 ≤ a ∧ a < 2147483648) ∧ (-2147483648 ≤ b ∧ b < 2147483648)) (kt : a ≤ b → Vv d mi tgt lv st σ Q) (kf : b < a → Vv d mi (pc + 3) lv st σ Q) : Vv d mi pc lv (.int (iI b) :: .int (iI a) :: st) σ Q := by
  intro γ p l e s m args below meth c H locs d0 ls C hd0 hl hS hP
  obtain ⟨hx, hb, hr, hml, hown, hts, hlk, hK, hG⟩ := id C
  refine lv_icmp_le hx hb hd ht (fun q => ?_) (fun q => ?_)
  · exact kt ((iI_le h).mp q) γ p l e s m args below meth c H locs d0 ls C hd0 hl hS hP
  · exact kf (Int.not_le.mp (fun e => q ((iI_le h).mpr e))) γ p l e s m args below meth c H locs d0 ls C hd0 hl hS hP
theorem v_if_le {a : Int} {off : Int} {tgt : Nat} (hd : decode mi.2.1 pc = .ok (.ifCond .le off, 3)) (ht : (pc : Int) + off = (tgt : Int)) (h0 : (-2147483648 ≤ a ∧ a < 2147483648)) (kt : a ≤ 0 → Vv d mi tgt lv st σ Q) (kf : 0 < a → Vv d mi (pc + 3) lv st σ Q) : Vv d mi pc lv (.int (iI a) :: st) σ Q := by
  intro γ p l e s m args below meth c H locs d0 ls C hd0 hl hS hP
  obtain ⟨hx, hb, hr, hml, hown, hts, hlk, hK, hG⟩ := id C
  have h : (-2147483648 ≤ a ∧ a < 2147483648) ∧ (-2147483648 ≤ (0 : Int) ∧ (0 : Int) < 2147483648) := ⟨h0, by decide⟩
  refine lv_if_le hx hb hd ht (fun q => ?_) (fun q => ?_)
  · exact kt ((iI_le h).mp q) γ p l e s m args below meth c H locs d0 ls C hd0 hl hS hP
  · exact kf (Int.not_le.mp (fun e => q ((iI_le h).mpr e))) γ p l e s m args below meth c H locs d0 ls C hd0 hl hS hP
theorem v_goto {off : Int} {tgt : Nat} (hd : decode mi.2.1 pc = .ok (.goto off, 3)) (ht : (pc : Int) + off = (tgt : Int)) (k : Vv d mi tgt lv st σ Q) : Vv d mi pc lv st σ Q := by
  intro γ p l e s m args below meth c H locs d0 ls C hd0 hl hS hP
  obtain ⟨hx, hb, hr, hml, hown, hts, hlk, hK, hG⟩ := id C
  exact lv_goto hx hb hd ht (k γ p l e s m args below meth c H locs d0 ls C hd0 hl hS hP)
theorem v_lcmp_eq {a b : Int} {off : Int} {tgt : Nat} (hd : decode mi.2.1 pc = .ok (.lcmp, 1)) (hd2 : decode mi.2.1 (pc + 1) = .ok (.ifCond .eq off, 3)) (ht : ((pc + 1 : Nat) : Int) + off = (tgt : Int)) (h : (-9223372036854775808 ≤ a ∧ a < 9223372036854775808) ∧ (-9223372036854775808 ≤ b ∧ b < 9223372036854775808)) (kt : a = b → Vv d mi tgt lv st σ Q) (kf : a ≠ b → Vv d mi (pc + 4) lv st σ Q) : Vv d mi pc lv (.long (lI b) :: .long (lI a) :: st) σ Q := by
  intro γ p l e s m args below meth c H locs d0 ls C hd0 hl hS hP
  obtain ⟨hx, hb, hr, hml, hown, hts, hlk, hK, hG⟩ := id C
  refine W.lcmp hx hb hd ?_
  refine lv_if_eq hx hb hd2 ht (fun q => ?_) (fun q => ?_)
  · exact kt ((lc9_eq h).mp q) γ p l e s m args below meth c H locs d0 ls C hd0 hl hS hP
  · exact kf (fun e => q ((lc9_eq h).mpr e)) γ p l e s m args below meth c H locs d0 ls C hd0 hl hS hP
theorem v_lcmp_ne {a b : Int} {off : Int} {tgt : Nat} (hd : decode mi.2.1 pc = .ok (.lcmp, 1)) (hd2 : decode mi.2.1 (pc + 1) = .ok (.ifCond .ne off, 3)) (ht : ((pc + 1 : Nat) : Int) + off = (tgt : Int)) (h : (-9223372036854775808 ≤ a ∧ a < 9223372036854775808) ∧ (-9223372036854775808 ≤ b ∧ b < 9223372036854775808)) (kt : a ≠ b → Vv d mi tgt lv st σ Q) (kf : a = b → Vv d mi (pc + 4) lv st σ Q) : Vv d mi pc lv (.long (lI b) :: .long (lI a) :: st) σ Q := by
  intro γ p l e s m args below meth c H locs d0 ls C hd0 hl hS hP
  obtain ⟨hx, hb, hr, hml, hown, hts, hlk, hK, hG⟩ := id C
  refine W.lcmp hx hb hd ?_
  refine lv_if_ne hx hb hd2 ht (fun q => ?_) (fun q => ?_)
  · exact kt (fun e => q ((lc9_eq h).mpr e)) γ p l e s m args below meth c H locs d0 ls C hd0 hl hS hP
  · exact kf ((lc9_eq h).mp q) γ p l e s m args below meth c H locs d0 ls C hd0 hl hS hP
theorem v_lcmp_lt {a b : Int} {off : Int} {tgt : Nat} (hd : decode mi.2.1 pc = .ok (.lcmp, 1)) (hd2 : decode mi.2.1 (pc + 1) = .ok (.ifCond .lt off, 3)) (ht : ((pc + 1 : Nat) : Int) + off = (tgt : Int)) (h : (-9223372036854775808 ≤ a ∧ a < 9223372036854775808) ∧ (-9223372036854775808 ≤ b ∧ b < 9223372036854775808)) (kt : a < b → Vv d mi tgt lv st σ Q) (kf : b ≤ a → Vv d mi (pc + 4) lv st σ Q) : Vv d mi pc lv (.long (lI b) :: .long (lI a) :: st) σ Q := by
  intro γ p l e s m args below meth c H locs d0 ls C hd0 hl hS hP
  obtain ⟨hx, hb, hr, hml, hown, hts, hlk, hK, hG⟩ := id C
  refine W.lcmp hx hb hd ?_
  refine lv_if_lt hx hb hd2 ht (fun q => ?_) (fun q => ?_)
  · exact kt ((lc9_lt h).mp q) γ p l e s m args below meth c H locs d0 ls C hd0 hl hS hP
  · exact kf (Int.not_lt.mp (fun e => q ((lc9_lt h).mpr e))) γ p l e s m args below meth c H locs d0 ls C hd0 hl hS hP
theorem v_lcmp_ge {a b : Int} {off : Int} {tgt : Nat} (hd : decode mi.2.1 pc = .ok (.lcmp, 1)) (hd2 : decode mi.2.1 (pc + 1) = .ok (.ifCond .ge off, 3)) (ht : ((pc + 1 : Nat) : Int) + off = (tgt : Int)) (h : (-9223372036854775808 ≤ a ∧ a < 9223372036854775808) ∧ (-9223372036854775808 ≤ b ∧ b < 9223372036854775808)) (kt : b ≤ a → Vv d mi tgt lv st σ Q) (kf : a < b → Vv d mi (pc + 4) lv st σ Q) : Vv d mi pc lv (.long (lI b) :: .long (lI a) :: st) σ Q := by
  intro γ p l e s m args below meth c H locs d0 ls C hd0 hl hS hP
  obtain ⟨hx, hb, hr, hml, hown, hts, hlk, hK, hG⟩ := id C
  refine W.lcmp hx hb hd ?_
  refine lv_if_ge hx hb hd2 ht (fun q => ?_) (fun q => ?_)
  · exact kt (Int.not_lt.mp (fun e => lc9_nge ((lc9_lt h).mpr e) q)) γ p l e s m args below meth c H locs d0 ls C hd0 hl hS hP
  · exact kf ((lc9_lt h).mp (lc9_ge q)) γ p l e s m args below meth c H locs d0 ls C hd0 hl hS hP
theorem v_lcmp_gt {a b : Int} {off : Int} {tgt : Nat} (hd : decode mi.2.1 pc = .ok (.lcmp, 1)) (hd2 : decode mi.2.1 (pc + 1) = .ok (.ifCond .gt off, 3)) (ht : ((pc + 1 : Nat) : Int) + off = (tgt : Int)) (h : (-9223372036854775808 ≤ a ∧ a < 9223372036854775808) ∧ (-9223372036854775808 ≤ b ∧ b < 9223372036854775808)) (kt : b < a → Vv d mi tgt lv st σ Q) (kf : a ≤ b → Vv d mi (pc + 4) lv st σ Q) : Vv d mi pc lv (.long (lI b) :: .long (lI a) :: st) σ Q := by
  intro γ p l e s m args below meth c H locs d0 ls C hd0 hl hS hP
  obtain ⟨hx, hb, hr, hml, hown, hts, hlk, hK, hG⟩ := id C
  refine W.lcmp hx hb hd ?_
  refine lv_if_gt hx hb hd2 ht (fun q => ?_) (fun q => ?_)
  · exact kt ((lc9_gt h).mp q) γ p l e s m args below meth c H locs d0 ls C hd0 hl hS hP
  · exact kf (Int.not_lt.mp (fun e => q ((lc9_gt h).mpr e))) γ p l e s m args below meth c H locs d0 ls C hd0 hl hS hP
theorem v_lcmp_le {a b : Int} {off : Int} {tgt : Nat} (hd : decode mi.2.1 pc = .ok (.lcmp, 1)) (hd2 : decode mi.2.1 (pc + 1) = .ok (.ifCond .le off, 3)) (ht : ((pc + 1 : Nat) : Int) + off = (tgt : Int)) (h : (-9223372036854775808 ≤ a ∧ a < 9223372036854775808) ∧ (-9223372036854775808 ≤ b ∧ b < 9223372036854775808)) (kt : a ≤ b → Vv d mi tgt lv st σ Q) (kf : b < a → Vv d mi (pc + 4) lv st σ Q) : Vv d mi pc lv (.long (lI b) :: .long (lI a) :: st) σ Q := by
  intro γ p l e s m args below meth c H locs d0 ls C hd0 hl hS hP
  obtain ⟨hx, hb, hr, hml, hown, hts, hlk, hK, hG⟩ := id C
  refine W.lcmp hx hb hd ?_
  refine lv_if_le hx hb hd2 ht (fun q => ?_) (fun q => ?_)
  · exact kt (Int.not_lt.mp (fun e => lc9_nle ((lc9_gt h).mpr e) q)) γ p l e s m args below meth c H locs d0 ls C hd0 hl hS hP
  · exact kf ((lc9_gt h).mp (lc9_le q)) γ p l e s m args below meth c H locs d0 ls C hd0 hl hS hP
theorem v_fcmp_eq {a b : UInt32} {op : CmpOp} {off : Int} {tgt : Nat} (hd : decode mi.2.1 pc = .ok (.fcmp op, 1)) (hd2 : decode mi.2.1 (pc + 1) = .ok (.ifCond .eq off, 3)) (ht : ((pc + 1 : Nat) : Int) + off = (tgt : Int)) (kt : Op.cmpValue (FP.fcmp a b) op = 0 → Vv d mi tgt lv st σ Q) (kf : ¬ Op.cmpValue (FP.fcmp a b) op = 0 → Vv d mi (pc + 4) lv st σ Q) : Vv d mi pc lv (.float b :: .float a :: st) σ Q := by
  intro γ p l e s m args below meth c H locs d0 ls C hd0 hl hS hP
  obtain ⟨hx, hb, hr, hml, hown, hts, hlk, hK, hG⟩ := id C
  refine lv_fcmp hx hb hd ?_
  refine lv_if_eq hx hb hd2 ht (fun q => ?_) (fun q => ?_)
  · exact kt q γ p l e s m args below meth c H locs d0 ls C hd0 hl hS hP
  · exact kf q γ p l e s m args below meth c H locs d0 ls C hd0 hl hS hP
theorem v_fcmp_ne {a b : UInt32} {op : CmpOp} {off : Int} {tgt : Nat} (hd : decode mi.2.1 pc = .ok (.fcmp op, 1)) (hd2 : decode mi.2.1 (pc + 1) = .ok (.ifCond .ne off, 3)) (ht : ((pc + 1 : Nat) : Int) + off = (tgt : Int)) (kt : Op.cmpValue (FP.fcmp a b) op ≠ 0 → Vv d mi tgt lv st σ Q) (kf : Op.cmpValue (FP.fcmp a b) op = 0 → Vv d mi (pc + 4) lv st σ Q) : Vv d mi pc lv (.float b :: .float a :: st) σ Q := by
  intro γ p l e s m args below meth c H locs d0 ls C hd0 hl hS hP
  obtain ⟨hx, hb, hr, hml, hown, hts, hlk, hK, hG⟩ := id C
  refine lv_fcmp hx hb hd ?_
  refine lv_if_ne hx hb hd2 ht (fun q => ?_) (fun q => ?_)
  · exact kt q γ p l e s m args below meth c H locs d0 ls C hd0 hl hS hP
  · exact kf q γ p l e s m args below meth c H locs d0 ls C hd0 hl hS hP
theorem v_fcmp_lt {a b : UInt32} {op : CmpOp} {off : Int} {tgt : Nat} (hd : decode mi.2.1 pc = .ok (.fcmp op, 1)) (hd2 : decode mi.2.1 (pc + 1) = .ok (.ifCond .lt off, 3)) (ht : ((pc + 1 : Nat) : Int) + off = (tgt : Int)) (kt : Op.cmpValue (FP.fcmp a b) op < 0 → Vv d mi tgt lv st σ Q) (kf : ¬ Op.cmpValue (FP.fcmp a b) op < 0 → Vv d mi (pc + 4) lv st σ Q) : Vv d mi pc lv (.float b :: .float a :: st) σ Q := by
  intro γ p l e s m args below meth c H locs d0 ls C hd0 hl hS hP
  obtain ⟨hx, hb, hr, hml, hown, hts, hlk, hK, hG⟩ := id C
  refine lv_fcmp hx hb hd ?_
  refine lv_if_lt hx hb hd2 ht (fun q => ?_) (fun q => ?_)
  · exact kt q γ p l e s m args below meth c H locs d0 ls C hd0 hl hS hP
  · exact kf q γ p l e s m args below meth c H locs d0 ls C hd0 hl hS hP
theorem v_fcmp_ge {a b : UInt32} {op : CmpOp} {off : Int} {tgt : Nat} (hd : decode mi.2.1 pc = .ok (.fcmp op, 1)) (hd2 : decode mi.2.1 (pc + 1) = .ok (.ifCond .ge off, 3)) (ht : ((pc + 1 : Nat) : Int) + off = (tgt : Int)) (kt : Op.cmpValue (FP.fcmp a b) op ≥ 0 → Vv d mi tgt lv st σ Q) (kf : ¬ Op.cmpValue (FP.fcmp a b) op ≥ 0 → Vv d mi (pc + 4) lv st σ Q) : Vv d mi pc lv (.float b :: .float a :: st) σ Q := by
  intro γ p l e s m args below meth c H locs d0 ls C hd0 hl hS hP
  obtain ⟨hx, hb, hr, hml, hown, hts, hlk, hK, hG⟩ := id C
  refine lv_fcmp hx hb hd ?_
  refine lv_if_ge hx hb hd2 ht (fun q => ?_) (fun q => ?_)
  · exact kt q γ p l e s m args below meth c H locs d0 ls C hd0 hl hS hP
  · exact kf q γ p l e s m args below meth c H locs d0 ls C hd0 hl hS hP
theorem v_fcmp_gt {a b : UInt32} {op : CmpOp} {off : Int} {tgt : Nat} (hd : decode mi.2.1 pc = .ok (.fcmp op, 1)) (hd2 : decode mi.2.1 (pc + 1) = .ok (.ifCond .gt off, 3)) (ht : ((pc + 1 : Nat) : Int) + off = (tgt : Int)) (kt : Op.cmpValue (FP.fcmp a b) op > 0 → Vv d mi tgt lv st σ Q) (kf : ¬ Op.cmpValue (FP.fcmp a b) op > 0 → Vv d mi (pc + 4) lv st σ Q) : Vv d mi pc lv (.float b :: .float a :: st) σ Q := by
  intro γ p l e s m args below meth c H locs d0 ls C hd0 hl hS hP
  obtain ⟨hx, hb, hr, hml, hown, hts, hlk, hK, hG⟩ := id C
  refine lv_fcmp hx hb hd ?_
  refine lv_if_gt hx hb hd2 ht (fun q => ?_) (fun q => ?_)
  · exact kt q γ p l e s m args below meth c H locs d0 ls C hd0 hl hS hP
  · exact kf q γ p l e s m args below meth c H locs d0 ls C hd0 hl hS hP
theorem v_fcmp_le {a b : UInt32} {op : CmpOp} {off : Int} {tgt : Nat} (hd : decode mi.2.1 pc = .ok (.fcmp op, 1)) (hd2 : decode mi.2.1 (pc + 1) = .ok (.ifCond .le off, 3)) (ht : ((pc + 1 : Nat) : Int) + off = (tgt : Int)) (kt : Op.cmpValue (FP.fcmp a b) op ≤ 0 → Vv d mi tgt lv st σ Q) (kf : ¬ Op.cmpValue (FP.fcmp a b) op ≤ 0 → Vv d mi (pc + 4) lv st σ Q) : Vv d mi pc lv (.float b :: .float a :: st) σ Q := by
  intro γ p l e s m args below meth c H locs d0 ls C hd0 hl hS hP
  obtain ⟨hx, hb, hr, hml, hown, hts, hlk, hK, hG⟩ := id C
  refine lv_fcmp hx hb hd ?_
  refine lv_if_le hx hb hd2 ht (fun q => ?_) (fun q => ?_)
  · exact kt q γ p l e s m args below meth c H locs d0 ls C hd0 hl hS hP
  · exact kf q γ p l e s m args below meth c H locs d0 ls C hd0 hl hS hP
theorem v_dcmp_eq {a b : UInt64} {op : CmpOp} {off : Int} {tgt : Nat} (hd : decode mi.2.1 pc = .ok (.dcmp op, 1)) (hd2 : decode mi.2.1 (pc + 1) = .ok (.ifCond .eq off, 3)) (ht : ((pc + 1 : Nat) : Int) + off = (tgt : Int)) (kt : Op.cmpValue (FP.dcmp a b) op = 0 → Vv d mi tgt lv st σ Q) (kf : ¬ Op.cmpValue (FP.dcmp a b) op = 0 → Vv d mi (pc + 4) lv st σ Q) : Vv d mi pc lv (.double b :: .double a :: st) σ Q := by
  intro γ p l e s m args below meth c H locs d0 ls C hd0 hl hS hP
  obtain ⟨hx, hb, hr, hml, hown, hts, hlk, hK, hG⟩ := id C
  refine lv_dcmp hx hb hd ?_
  refine lv_if_eq hx hb hd2 ht (fun q => ?_) (fun q => ?_)
  · exact kt q γ p l e s m args below meth c H locs d0 ls C hd0 hl hS hP
  · exact kf q γ p l e s m args below meth c H locs d0 ls C hd0 hl hS hP
theorem v_dcmp_ne {a b : UInt64} {op : CmpOp} {off : Int} {tgt : Nat} (hd : decode mi.2.1 pc = .ok (.dcmp op, 1)) (hd2 : decode mi.2.1 (pc + 1) = .ok (.ifCond .ne off, 3)) (ht : ((pc + 1 : Nat) : Int) + off = (tgt : Int)) (kt : Op.cmpValue (FP.dcmp a b) op ≠ 0 → Vv d mi tgt lv st σ Q) (kf : Op.cmpValue (FP.dcmp a b) op = 0 → Vv d mi (pc + 4) lv st σ Q) : Vv d mi pc lv (.double b :: .double a :: st) σ Q := by
  intro γ p l e s m args below meth c H locs d0 ls C hd0 hl hS hP
  obtain ⟨hx, hb, hr, hml, hown, hts, hlk, hK, hG⟩ := id C
  refine lv_dcmp hx hb hd ?_
  refine lv_if_ne hx hb hd2 ht (fun q => ?_) (fun q => ?_)
  · exact kt q γ p l e s m args below meth c H locs d0 ls C hd0 hl hS hP
  · exact kf q γ p l e s m args below meth c H locs d0 ls C hd0 hl hS hP
theorem v_dcmp_lt {a b : UInt64} {op : CmpOp} {off : Int} {tgt : Nat} (hd : decode mi.2.1 pc = .ok (.dcmp op, 1)) (hd2 : decode mi.2.1 (pc + 1) = .ok (.ifCond .lt off, 3)) (ht : ((pc + 1 : Nat) : Int) + off = (tgt : Int)) (kt : Op.cmpValue (FP.dcmp a b) op < 0 → Vv d mi tgt lv st σ Q) (kf : ¬ Op.cmpValue (FP.dcmp a b) op < 0 → Vv d mi (pc + 4) lv st σ Q) : Vv d mi pc lv (.double b :: .double a :: st) σ Q := by
  intro γ p l e s m args below meth c H locs d0 ls C hd0 hl hS hP
  obtain ⟨hx, hb, hr, hml, hown, hts, hlk, hK, hG⟩ := id C
  refine lv_dcmp hx hb hd ?_
  refine lv_if_lt hx hb hd2 ht (fun q => ?_) (fun q => ?_)
  · exact kt q γ p l e s m args below meth c H locs d0 ls C hd0 hl hS hP
  · exact kf q γ p l e s m args below meth c H locs d0 ls C hd0 hl hS hP
theorem v_dcmp_ge {a b : UInt64} {op : CmpOp} {off : Int} {tgt : Nat} (hd : decode mi.2.1 pc = .ok (.dcmp op, 1)) (hd2 : decode mi.2.1 (pc + 1) = .ok (.ifCond .ge off, 3)) (ht : ((pc + 1 : Nat) : Int) + off = (tgt : Int)) (kt : Op.cmpValue (FP.dcmp a b) op ≥ 0 → Vv d mi tgt lv st σ Q) (kf : ¬ Op.cmpValue (FP.dcmp a b) op ≥ 0 → Vv d mi (pc + 4) lv st σ Q) : Vv d mi pc lv (.double b :: .double a :: st) σ Q := by
  intro γ p l e s m args below meth c H locs d0 ls C hd0 hl hS hP
  obtain ⟨hx, hb, hr, hml, hown, hts, hlk, hK, hG⟩ := id C
  refine lv_dcmp hx hb hd ?_
  refine lv_if_ge hx hb hd2 ht (fun q => ?_) (fun q => ?_)
  · exact kt q γ p l e s m args below meth c H locs d0 ls C hd0 hl hS hP
  · exact kf q γ p l e s m args below meth c H locs d0 ls C hd0 hl hS hP
theorem v_dcmp_gt {a b : UInt64} {op : CmpOp} {off : Int} {tgt : Nat} (hd : decode mi.2.1 pc = .ok (.dcmp op, 1)) (hd2 : decode mi.2.1 (pc + 1) = .ok (.ifCond .gt off, 3)) (ht : ((pc + 1 : Nat) : Int) + off = (tgt : Int)) (kt : Op.cmpValue (FP.dcmp a b) op > 0 → Vv d mi tgt lv st σ Q) (kf : ¬ Op.cmpValue (FP.dcmp a b) op > 0 → Vv d mi (pc + 4) lv st σ Q) : Vv d mi pc lv (.double b :: .double a :: st) σ Q := by
  intro γ p l e s m args below meth c H locs d0 ls C hd0 hl hS hP
  obtain ⟨hx, hb, hr, hml, hown, hts, hlk, hK, hG⟩ := id C
  refine lv_dcmp hx hb hd ?_
  refine lv_if_gt hx hb hd2 ht (fun q => ?_) (fun q => ?_)
  · exact kt q γ p l e s m args below meth c H locs d0 ls C hd0 hl hS hP
  · exact kf q γ p l e s m args below meth c H locs d0 ls C hd0 hl hS hP
theorem v_dcmp_le {a b : UInt64} {op : CmpOp} {off : Int} {tgt : Nat} (hd : decode mi.2.1 pc = .ok (.dcmp op, 1)) (hd2 : decode mi.2.1 (pc + 1) = .ok (.ifCond .le off, 3)) (ht : ((pc + 1 : Nat) : Int) + off = (tgt : Int)) (kt : Op.cmpValue (FP.dcmp a b) op ≤ 0 → Vv d mi tgt lv st σ Q) (kf : ¬ Op.cmpValue (FP.dcmp a b) op ≤ 0 → Vv d mi (pc + 4) lv st σ Q) : Vv d mi pc lv (.double b :: .double a :: st) σ Q := by
  intro γ p l e s m args below meth c H locs d0 ls C hd0 hl hS hP
  obtain ⟨hx, hb, hr, hml, hown, hts, hlk, hK, hG⟩ := id C
  refine lv_dcmp hx hb hd ?_
  refine lv_if_le hx hb hd2 ht (fun q => ?_) (fun q => ?_)
  · exact kt q γ p l e s m args below meth c H locs d0 ls C hd0 hl hS hP
  · exact kf q γ p l e s m args below meth c H locs d0 ls C hd0 hl hS hP
end
