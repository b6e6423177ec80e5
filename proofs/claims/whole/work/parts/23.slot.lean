theorem shO {i : Nat} (hi : i < 4) : sh9 (81 + 4 * i) 0 6 := ⟨by show _ < 130; omega, (by decide : ∀ i, i < 4 → shp (81 + 4 * i) = (0, 6)) i hi, by decide⟩
theorem shW {i : Nat} (hi : i < 4) : sh9 (82 + 4 * i) 2 40 := ⟨by show _ < 130; omega, (by decide : ∀ i, i < 4 → shp (82 + 4 * i) = (2, 40)) i hi, by decide⟩
theorem shF {i : Nat} (hi : i < 4) : sh9 (83 + 4 * i) 3 40 := ⟨by show _ < 130; omega, (by decide : ∀ i, i < 4 → shp (83 + 4 * i) = (3, 40)) i hi, by decide⟩
theorem shD {i : Nat} (hi : i < 4) : sh9 (84 + 4 * i) 4 40 := ⟨by show _ < 130; omega, (by decide : ∀ i, i < 4 → shp (84 + 4 * i) = (4, 40)) i hi, by decide⟩
theorem rfW {i : Nat} (hi : i < 4) : rfs (81 + 4 * i) 2 = 82 + 4 * i := (by decide : ∀ i, i < 4 → rfs (81 + 4 * i) 2 = 82 + 4 * i) i hi
theorem rfF {i : Nat} (hi : i < 4) : rfs (81 + 4 * i) 3 = 83 + 4 * i := (by decide : ∀ i, i < 4 → rfs (81 + 4 * i) 3 = 83 + 4 * i) i hi
theorem rfD {i : Nat} (hi : i < 4) : rfs (81 + 4 * i) 4 = 84 + 4 * i := (by decide : ∀ i, i < 4 → rfs (81 + 4 * i) 4 = 84 + 4 * i) i hi
theorem rfSl {s : Int} (h : 0 ≤ s ∧ s < 4) : rfs 80 s.toNat = 81 + 4 * s.toNat := by
  obtain ⟨k, rfl⟩ := Int.eq_ofNat_of_zero_le h.1
  have : ∀ k, k < 4 → rfs 80 k = 81 + 4 * k := by decide
  exact this k (by omega)
theorem cv0 {o : Option Ordering} : Op.cmpValue o CmpOp.l = 0 ↔ o = some .eq := by
  cases o with
  | none => constructor <;> intro h <;> cases h
  | some x => cases x <;> constructor <;> intro h <;> first | rfl | cases h
section
variable {d i : Nat} {σ : S9}
theorem c_X7_isFree {P : Int → S9 → Prop} (hi : i < 4) (ht : -1 ≤ gI σ (81 + 4 * i) 0 ∧ gI σ (81 + 4 * i) 0 ≤ 3) (h1 : gI σ (81 + 4 * i) 0 = -1 → P 1 σ) (h0 : gI σ (81 + 4 * i) 0 ≠ -1 → P 0 σ) : Cc d mX7_isFree [.ref (81 + 4 * i)] σ (QI P) := by
  refine Cc_of (by decide +kernel) (fun _ => Nat.le_of_ble_eq_true rfl) rfl (lv := [_]) ?_
  refine v_aload_n dX7_isFree_0 rfl ?_
  refine v_getI (ji := 0) dX7_isFree_1 (shO hi) fX7_11 rfl ?_
  refine v_iconst dX7_isFree_4 ?_
  refine v_icmp_ne (tgt := 12) dX7_isFree_5 (by decide) (by omega) (fun q5 => ?_) (fun q5 => ?_)
  · refine v_iconst dX7_isFree_12 ?_
    exact v_zreturn dX7_isFree_13 rfl (by decide) (by first | exact h1 q5 | exact h0 q5)
  · refine v_iconst dX7_isFree_8 ?_
    refine v_goto (tgt := 13) dX7_isFree_9 (by decide) ?_
    exact v_zreturn dX7_isFree_13 rfl (by decide) (by first | exact h1 q5 | exact h0 q5)
theorem c_X7_hasIndex {P : Int → S9 → Prop} {x : Int} (hi : i < 4) (hs : 0 ≤ gI σ (81 + 4 * i) 1 ∧ gI σ (81 + 4 * i) 1 ≤ 40) (hx : (-2147483648 ≤ x ∧ x < 2147483648)) (h1 : 0 ≤ x ∧ x < gI σ (81 + 4 * i) 1 → P 1 σ) (h0 : ¬ (0 ≤ x ∧ x < gI σ (81 + 4 * i) 1) → P 0 σ) : Cc d mX7_hasIndex [.ref (81 + 4 * i), .int (iI x)] σ (QI P) := by
  refine Cc_of (by decide +kernel) (fun _ => Nat.le_of_ble_eq_true rfl) rfl (lv := [_, _]) ?_
  refine v_iload_n dX7_hasIndex_0 rfl ?_
  refine v_if_lt (tgt := 16) dX7_hasIndex_1 (by decide) (by omega) (fun q1 => ?_) (fun q1 => ?_)
  · refine v_iconst dX7_hasIndex_16 ?_
    exact v_zreturn dX7_hasIndex_17 rfl (by decide) (by first | exact h1 (by omega) | exact h0 (by omega))
  · refine v_iload_n dX7_hasIndex_4 rfl ?_
    refine v_aload_n dX7_hasIndex_5 rfl ?_
    refine v_getI (ji := 1) dX7_hasIndex_6 (shO hi) fX7_15 rfl ?_
    refine v_icmp_ge (tgt := 16) dX7_hasIndex_9 (by decide) (by omega) (fun q9 => ?_) (fun q9 => ?_)
    · refine v_iconst dX7_hasIndex_16 ?_
      exact v_zreturn dX7_hasIndex_17 rfl (by decide) (by first | exact h1 (by omega) | exact h0 (by omega))
    · refine v_iconst dX7_hasIndex_12 ?_
      refine v_goto (tgt := 17) dX7_hasIndex_13 (by decide) ?_
      exact v_zreturn dX7_hasIndex_17 rfl (by decide) (by first | exact h1 (by omega) | exact h0 (by omega))
theorem c_X7_hasRange {P : Int → S9 → Prop} {x k : Int} (hi : i < 4) (hs : 0 ≤ gI σ (81 + 4 * i) 1 ∧ gI σ (81 + 4 * i) 1 ≤ 40) (hx : (-2147483648 ≤ x ∧ x < 2147483648)) (hk : (-2147483648 ≤ k ∧ k < 2147483648)) (h1 : 0 ≤ x ∧ 0 ≤ k ∧ x + k ≤ gI σ (81 + 4 * i) 1 → P 1 σ) (h0 : ¬ (0 ≤ x ∧ 0 ≤ k ∧ x + k ≤ gI σ (81 + 4 * i) 1) → P 0 σ) : Cc d mX7_hasRange [.ref (81 + 4 * i), .int (iI x), .int (iI k)] σ (QI P) := by
  refine Cc_of (by decide +kernel) (fun _ => Nat.le_of_ble_eq_true rfl) rfl (lv := [_, _, _]) ?_
  refine v_iload_n dX7_hasRange_0 rfl ?_
  refine v_if_lt (tgt := 30) dX7_hasRange_1 (by decide) (by omega) (fun q1 => ?_) (fun q1 => ?_)
  · refine v_iconst dX7_hasRange_30 ?_
    exact v_zreturn dX7_hasRange_31 rfl (by decide) (by first | exact h1 (by omega) | exact h0 (by omega))
  · refine v_iload_n dX7_hasRange_4 rfl ?_
    refine v_aload_n dX7_hasRange_5 rfl ?_
    refine v_getI (ji := 1) dX7_hasRange_6 (shO hi) fX7_15 rfl ?_
    refine v_icmp_gt (tgt := 30) dX7_hasRange_9 (by decide) (by omega) (fun q9 => ?_) (fun q9 => ?_)
    · refine v_iconst dX7_hasRange_30 ?_
      exact v_zreturn dX7_hasRange_31 rfl (by decide) (by first | exact h1 (by omega) | exact h0 (by omega))
    · refine v_iload_n dX7_hasRange_12 rfl ?_
      refine v_if_lt (tgt := 30) dX7_hasRange_13 (by decide) (by omega) (fun q13 => ?_) (fun q13 => ?_)
      · refine v_iconst dX7_hasRange_30 ?_
        exact v_zreturn dX7_hasRange_31 rfl (by decide) (by first | exact h1 (by omega) | exact h0 (by omega))
      · refine v_iload_n dX7_hasRange_16 rfl ?_
        refine v_aload_n dX7_hasRange_17 rfl ?_
        refine v_getI (ji := 1) dX7_hasRange_18 (shO hi) fX7_15 rfl ?_
        refine v_iload_n dX7_hasRange_21 rfl ?_
        refine v_isub dX7_hasRange_22 ?_
        refine v_icmp_gt (tgt := 30) dX7_hasRange_23 (by decide) (by omega) (fun q23 => ?_) (fun q23 => ?_)
        · refine v_iconst dX7_hasRange_30 ?_
          exact v_zreturn dX7_hasRange_31 rfl (by decide) (by first | exact h1 (by omega) | exact h0 (by omega))
        · refine v_iconst dX7_hasRange_26 ?_
          refine v_goto (tgt := 31) dX7_hasRange_27 (by decide) ?_
          exact v_zreturn dX7_hasRange_31 rfl (by decide) (by first | exact h1 (by omega) | exact h0 (by omega))
theorem c_X7_fill {P : S9 → Prop} {ty sz : Int} (hi : i < 4) (h : ∀ σ', eq9 (fun k => ¬ (81 + 4 * i ≤ k ∧ k ≤ 84 + 4 * i)) σ σ' → gI σ' (81 + 4 * i) 0 = ty → gI σ' (81 + 4 * i) 1 = sz → (∀ j, 0 ≤ j → j < 40 → gL σ' (82 + 4 * i) j = 0 ∧ gF σ' (83 + 4 * i) j = 0 ∧ gD σ' (84 + 4 * i) j = 0) → P σ') : Cc d mX7_fill [.ref (81 + 4 * i), .int (iI ty), .int (iI sz)] σ (QV P) := by
  refine Cc_of (by decide +kernel) (fun _ => Nat.le_of_ble_eq_true rfl) rfl (lv := [_, _, _, _]) ?_
  have K : ∀ (m : Nat) (k : Int) (τ : S9), 0 ≤ k → k + m = 40 → eq9 (fun k => ¬ (81 + 4 * i ≤ k ∧ k ≤ 84 + 4 * i)) σ τ → gI τ (81 + 4 * i) 0 = ty → gI τ (81 + 4 * i) 1 = sz → (∀ j, 0 ≤ j → j < k → gL τ (82 + 4 * i) j = 0 ∧ gF τ (83 + 4 * i) j = 0 ∧ gD τ (84 + 4 * i) j = 0) → Vv d mX7_fill 12 [.ref (81 + 4 * i), .int (iI ty), .int (iI sz), .int (iI k)] [] τ (QV P) := by
    intro m
    induction m with
    | zero =>
      intro k τ hk hm he t1 t2 t3
      refine v_iload_n dX7_fill_12 rfl ?_
      refine v_bipush dX7_fill_13 (by decide) ?_
      refine v_icmp_ge (tgt := 45) dX7_fill_15 (by decide) (by omega) (fun q15 => ?_) (fun q15 => absurd q15 (by omega))
      exact v_return dX7_fill_45 rfl (h τ he t1 t2 (fun j a b => t3 j a (by omega)))
    | succ m ih =>
      intro k τ hk hm he t1 t2 t3
      refine v_iload_n dX7_fill_12 rfl ?_
      refine v_bipush dX7_fill_13 (by decide) ?_
      refine v_icmp_ge (tgt := 45) dX7_fill_15 (by decide) (by omega) (fun q15 => absurd q15 (by omega)) (fun q15 => ?_)
      refine v_aload_n dX7_fill_18 rfl ?_
      refine v_getR (k1 := 82 + 4 * i) dX7_fill_19 (shO hi) fX7_18 (rfW hi) ?_
      refine v_iload_n dX7_fill_22 rfl ?_
      refine v_lconst0 dX7_fill_23 ?_
      refine v_lastore dX7_fill_24 (shW hi) (by omega) ?_
      refine v_aload_n dX7_fill_25 rfl ?_
      refine v_getR (k1 := 83 + 4 * i) dX7_fill_26 (shO hi) fX7_22 (rfF hi) ?_
      refine v_iload_n dX7_fill_29 rfl ?_
      refine v_fconst0 dX7_fill_30 ?_
      refine v_fastore dX7_fill_31 (shF hi) (by omega) ?_
      refine v_aload_n dX7_fill_32 rfl ?_
      refine v_getR (k1 := 84 + 4 * i) dX7_fill_33 (shO hi) fX7_26 (rfD hi) ?_
      refine v_iload_n dX7_fill_36 rfl ?_
      refine v_dconst0 dX7_fill_37 ?_
      refine v_dastore dX7_fill_38 (shD hi) (by omega) ?_
      refine v_iinc (lv' := [_, _, _, _]) dX7_fill_39 rfl (Nat.le_of_ble_eq_true rfl) rfl rfl ?_
      refine v_goto (tgt := 12) dX7_fill_42 (by decide) ?_
      refine ih (k + 1) _ (by omega) (by omega) (he.tr (((eq9.aL (by omega)).tr (eq9.aF (by omega))).tr (eq9.aD (by omega)))) t1 t2 (fun j a b => ?_)
      by_cases e : j = k
      · subst e
        refine ⟨?_, ?_, ?_⟩
        · rw [gL_aD, gL_aF, gL_aL_eq, up9_eq]
        · rw [gF_aD, gF_aF_eq, up9_eq]
        · rw [gD_aD_eq, up9_eq]
      · have := t3 j a (by omega)
        refine ⟨?_, ?_, ?_⟩
        · rw [gL_aD, gL_aF, gL_aL_eq, up9_ne e]; exact this.1
        · rw [gF_aD, gF_aF_eq, up9_ne e]; exact this.2.1
        · rw [gD_aD_eq, up9_ne e]; exact this.2.2
  refine v_aload_n dX7_fill_0 rfl ?_
  refine v_iload_n dX7_fill_1 rfl ?_
  refine v_putI (ji := 0) dX7_fill_2 (shO hi) pfX7_11 rfl ?_
  refine v_aload_n dX7_fill_5 rfl ?_
  refine v_iload_n dX7_fill_6 rfl ?_
  refine v_putI (ji := 1) dX7_fill_7 (shO hi) pfX7_15 rfl ?_
  refine v_iconst dX7_fill_10 ?_
  refine v_istore_n (lv' := [_, _, _, _]) dX7_fill_11 (Nat.le_of_ble_eq_true rfl) rfl rfl ?_
  refine K 40 0 _ (by omega) (by omega) ((eq9.aI (by omega)).tr (eq9.aI (by omega))) ?_ ?_ (fun j a b => by omega)
  · rw [gI_aI_eq, up9_ne (by decide), gI_aI_eq, up9_eq]
  · rw [gI_aI_eq, up9_eq]
theorem c_X7_put {P : S9 → Prop} {x y : Int} (hi : i < 4) (ht : 0 ≤ gI σ (81 + 4 * i) 0 ∧ gI σ (81 + 4 * i) 0 ≤ 3) (hx : 0 ≤ x ∧ x < 40) (h0 : gI σ (81 + 4 * i) 0 = 0 → P (sL σ (82 + 4 * i) x (iI y).toInt)) (h1 : gI σ (81 + 4 * i) 0 = 1 → P (sL σ (82 + 4 * i) x y)) (h2 : gI σ (81 + 4 * i) 0 = 2 → P (sF σ (83 + 4 * i) x (FP.l2f (lI y)))) (h3 : gI σ (81 + 4 * i) 0 = 3 → P (sD σ (84 + 4 * i) x (FP.l2d (lI y)))) : Cc d mX7_put [.ref (81 + 4 * i), .int (iI x), .long (lI y)] σ (QV P) := by
  refine Cc_of (by decide +kernel) (fun _ => Nat.le_of_ble_eq_true rfl) rfl (lv := [_, _, _, _]) ?_
  refine v_aload_n dX7_put_0 rfl ?_
  refine v_getI (ji := 0) dX7_put_1 (shO hi) fX7_11 rfl ?_
  refine v_iconst dX7_put_4 ?_
  refine v_icmp_ne (tgt := 19) dX7_put_5 (by decide) (by omega) (fun q5 => ?_) (fun q5 => ?_)
  · refine v_aload_n dX7_put_19 rfl ?_
    refine v_getI (ji := 0) dX7_put_20 (shO hi) fX7_11 rfl ?_
    refine v_iconst dX7_put_23 ?_
    refine v_icmp_ne (tgt := 38) dX7_put_24 (by decide) (by omega) (fun q24 => ?_) (fun q24 => ?_)
    · refine v_aload_n dX7_put_38 rfl ?_
      refine v_getR (k1 := 82 + 4 * i) dX7_put_39 (shO hi) fX7_18 (rfW hi) ?_
      refine v_iload_n dX7_put_42 rfl ?_
      refine v_aload_n dX7_put_43 rfl ?_
      refine v_getI (ji := 0) dX7_put_44 (shO hi) fX7_11 rfl ?_
      refine v_if_ne (tgt := 56) dX7_put_47 (by decide) (by omega) (fun q47 => ?_) (fun q47 => ?_)
      · refine v_lload_n dX7_put_56 rfl ?_
        refine v_lastore dX7_put_57 (shW hi) (by omega) ?_
        exact v_return dX7_put_58 rfl (by first | exact h0 q47 | exact h1 (by omega) | exact h2 q5 | exact h3 q24)
      · refine v_lload_n dX7_put_50 rfl ?_
        refine v_l2i dX7_put_51 ?_
        rw [← iI_of (iI y)]
        have hb1 := Int32.le_toInt (iI y)
        have hb2 := Int32.toInt_lt (iI y)
        refine v_i2l dX7_put_52 (by omega) ?_
        refine v_goto (tgt := 57) dX7_put_53 (by decide) ?_
        refine v_lastore dX7_put_57 (shW hi) (by omega) ?_
        exact v_return dX7_put_58 rfl (by first | exact h0 q47 | exact h1 (by omega) | exact h2 q5 | exact h3 q24)
    · refine v_aload_n dX7_put_27 rfl ?_
      refine v_getR (k1 := 84 + 4 * i) dX7_put_28 (shO hi) fX7_26 (rfD hi) ?_
      refine v_iload_n dX7_put_31 rfl ?_
      refine v_lload_n dX7_put_32 rfl ?_
      refine v_l2d dX7_put_33 ?_
      refine v_dastore dX7_put_34 (shD hi) (by omega) ?_
      refine v_goto (tgt := 58) dX7_put_35 (by decide) ?_
      exact v_return dX7_put_58 rfl (by first | exact h0 q47 | exact h1 (by omega) | exact h2 q5 | exact h3 q24)
  · refine v_aload_n dX7_put_8 rfl ?_
    refine v_getR (k1 := 83 + 4 * i) dX7_put_9 (shO hi) fX7_22 (rfF hi) ?_
    refine v_iload_n dX7_put_12 rfl ?_
    refine v_lload_n dX7_put_13 rfl ?_
    refine v_l2f dX7_put_14 ?_
    refine v_fastore dX7_put_15 (shF hi) (by omega) ?_
    refine v_goto (tgt := 58) dX7_put_16 (by decide) ?_
    exact v_return dX7_put_58 rfl (by first | exact h0 q47 | exact h1 (by omega) | exact h2 q5 | exact h3 q24)
theorem c_X7_divide {P : S9 → Prop} {x y : Int} (hi : i < 4) (ht : 2 ≤ gI σ (81 + 4 * i) 0 ∧ gI σ (81 + 4 * i) 0 ≤ 3) (hx : 0 ≤ x ∧ x < 40) (h2z : gI σ (81 + 4 * i) 0 = 2 → FP.fcmp (gF σ (83 + 4 * i) x) 0 = some .eq → P σ) (h2 : gI σ (81 + 4 * i) 0 = 2 → FP.fcmp (gF σ (83 + 4 * i) x) 0 ≠ some .eq → ∀ r, alike32 r (FP.fdiv (gF σ (83 + 4 * i) x) (FP.i2f (iI y))) = true → P (sF σ (83 + 4 * i) x r)) (h3z : gI σ (81 + 4 * i) 0 = 3 → FP.dcmp (gD σ (84 + 4 * i) x) 0 = some .eq → P σ) (h3 : gI σ (81 + 4 * i) 0 = 3 → FP.dcmp (gD σ (84 + 4 * i) x) 0 ≠ some .eq → ∀ r, alike64 r (FP.ddiv (gD σ (84 + 4 * i) x) (FP.i2d (iI y))) = true → P (sD σ (84 + 4 * i) x r)) : Cc d mX7_divide [.ref (81 + 4 * i), .int (iI x), .int (iI y)] σ (QV P) := by
  refine Cc_of (by decide +kernel) (fun _ => Nat.le_of_ble_eq_true rfl) rfl (lv := [_, _, _]) ?_
  refine v_aload_n dX7_divide_0 rfl ?_
  refine v_getI (ji := 0) dX7_divide_1 (shO hi) fX7_11 rfl ?_
  refine v_iconst dX7_divide_4 ?_
  refine v_icmp_ne (tgt := 34) dX7_divide_5 (by decide) (by omega) (fun q5 => ?_) (fun q5 => ?_)
  · refine v_aload_n dX7_divide_34 rfl ?_
    refine v_getI (ji := 0) dX7_divide_35 (shO hi) fX7_11 rfl ?_
    refine v_iconst dX7_divide_38 ?_
    (try rw [gI_aF])
    refine v_icmp_ne (tgt := 68) dX7_divide_39 (by decide) (by omega) (fun q39 => ?_) (fun q39 => ?_)
    · exact v_return dX7_divide_68 rfl (by first | exact h2z q5 (cv0.mp q15) | exact h2 q5 (fun z => q15 (cv0.mpr z)) _ hr32 | exact h3z (by omega) (cv0.mp q49) | exact h3 (by omega) (fun z => q49 (cv0.mpr z)) _ hr66 | omega)
    · refine v_aload_n dX7_divide_42 rfl ?_
      refine v_getR (k1 := 84 + 4 * i) dX7_divide_43 (shO hi) fX7_26 (rfD hi) ?_
      refine v_iload_n dX7_divide_46 rfl ?_
      refine v_daload dX7_divide_47 (shD hi) (by omega) ?_
      refine v_dconst0 dX7_divide_48 ?_
      refine v_dcmp_eq (tgt := 68) dX7_divide_49 dX7_divide_50 (by decide) (fun q49 => ?_) (fun q49 => ?_)
      · exact v_return dX7_divide_68 rfl (by first | exact h2z q5 (cv0.mp q15) | exact h2 q5 (fun z => q15 (cv0.mpr z)) _ hr32 | exact h3z (by omega) (cv0.mp q49) | exact h3 (by omega) (fun z => q49 (cv0.mpr z)) _ hr66 | omega)
      · refine v_aload_n dX7_divide_53 rfl ?_
        refine v_getR (k1 := 84 + 4 * i) dX7_divide_54 (shO hi) fX7_26 (rfD hi) ?_
        refine v_iload_n dX7_divide_57 rfl ?_
        refine v_aload_n dX7_divide_58 rfl ?_
        refine v_getR (k1 := 84 + 4 * i) dX7_divide_59 (shO hi) fX7_26 (rfD hi) ?_
        refine v_iload_n dX7_divide_62 rfl ?_
        refine v_daload dX7_divide_63 (shD hi) (by omega) ?_
        refine v_iload_n dX7_divide_64 rfl ?_
        refine v_i2d dX7_divide_65 ?_
        refine v_ddiv dX7_divide_66 (fun r66 hr66 => ?_)
        refine v_dastore dX7_divide_67 (shD hi) (by omega) ?_
        exact v_return dX7_divide_68 rfl (by first | exact h2z q5 (cv0.mp q15) | exact h2 q5 (fun z => q15 (cv0.mpr z)) _ hr32 | exact h3z (by omega) (cv0.mp q49) | exact h3 (by omega) (fun z => q49 (cv0.mpr z)) _ hr66 | omega)
  · refine v_aload_n dX7_divide_8 rfl ?_
    refine v_getR (k1 := 83 + 4 * i) dX7_divide_9 (shO hi) fX7_22 (rfF hi) ?_
    refine v_iload_n dX7_divide_12 rfl ?_
    refine v_faload dX7_divide_13 (shF hi) (by omega) ?_
    refine v_fconst0 dX7_divide_14 ?_
    refine v_fcmp_eq (tgt := 34) dX7_divide_15 dX7_divide_16 (by decide) (fun q15 => ?_) (fun q15 => ?_)
    · refine v_aload_n dX7_divide_34 rfl ?_
      refine v_getI (ji := 0) dX7_divide_35 (shO hi) fX7_11 rfl ?_
      refine v_iconst dX7_divide_38 ?_
      (try rw [gI_aF])
      refine v_icmp_ne (tgt := 68) dX7_divide_39 (by decide) (by omega) (fun q39 => ?_) (fun q39 => ?_)
      · exact v_return dX7_divide_68 rfl (by first | exact h2z q5 (cv0.mp q15) | exact h2 q5 (fun z => q15 (cv0.mpr z)) _ hr32 | exact h3z (by omega) (cv0.mp q49) | exact h3 (by omega) (fun z => q49 (cv0.mpr z)) _ hr66 | omega)
      · refine v_aload_n dX7_divide_42 rfl ?_
        refine v_getR (k1 := 84 + 4 * i) dX7_divide_43 (shO hi) fX7_26 (rfD hi) ?_
        refine v_iload_n dX7_divide_46 rfl ?_
        refine v_daload dX7_divide_47 (shD hi) (by omega) ?_
        refine v_dconst0 dX7_divide_48 ?_
        refine v_dcmp_eq (tgt := 68) dX7_divide_49 dX7_divide_50 (by decide) (fun q49 => ?_) (fun q49 => ?_)
        · exact v_return dX7_divide_68 rfl (by first | exact h2z q5 (cv0.mp q15) | exact h2 q5 (fun z => q15 (cv0.mpr z)) _ hr32 | exact h3z (by omega) (cv0.mp q49) | exact h3 (by omega) (fun z => q49 (cv0.mpr z)) _ hr66 | omega)
        · refine v_aload_n dX7_divide_53 rfl ?_
          refine v_getR (k1 := 84 + 4 * i) dX7_divide_54 (shO hi) fX7_26 (rfD hi) ?_
          refine v_iload_n dX7_divide_57 rfl ?_
          refine v_aload_n dX7_divide_58 rfl ?_
          refine v_getR (k1 := 84 + 4 * i) dX7_divide_59 (shO hi) fX7_26 (rfD hi) ?_
          refine v_iload_n dX7_divide_62 rfl ?_
          refine v_daload dX7_divide_63 (shD hi) (by omega) ?_
          refine v_iload_n dX7_divide_64 rfl ?_
          refine v_i2d dX7_divide_65 ?_
          refine v_ddiv dX7_divide_66 (fun r66 hr66 => ?_)
          refine v_dastore dX7_divide_67 (shD hi) (by omega) ?_
          exact v_return dX7_divide_68 rfl (by first | exact h2z q5 (cv0.mp q15) | exact h2 q5 (fun z => q15 (cv0.mpr z)) _ hr32 | exact h3z (by omega) (cv0.mp q49) | exact h3 (by omega) (fun z => q49 (cv0.mpr z)) _ hr66 | omega)
    · refine v_aload_n dX7_divide_19 rfl ?_
      refine v_getR (k1 := 83 + 4 * i) dX7_divide_20 (shO hi) fX7_22 (rfF hi) ?_
      refine v_iload_n dX7_divide_23 rfl ?_
      refine v_aload_n dX7_divide_24 rfl ?_
      refine v_getR (k1 := 83 + 4 * i) dX7_divide_25 (shO hi) fX7_22 (rfF hi) ?_
      refine v_iload_n dX7_divide_28 rfl ?_
      refine v_faload dX7_divide_29 (shF hi) (by omega) ?_
      refine v_iload_n dX7_divide_30 rfl ?_
      refine v_i2f dX7_divide_31 ?_
      refine v_fdiv dX7_divide_32 (fun r32 hr32 => ?_)
      refine v_fastore dX7_divide_33 (shF hi) (by omega) ?_
      refine v_aload_n dX7_divide_34 rfl ?_
      refine v_getI (ji := 0) dX7_divide_35 (shO hi) fX7_11 rfl ?_
      refine v_iconst dX7_divide_38 ?_
      (try rw [gI_aF])
      refine v_icmp_ne (tgt := 68) dX7_divide_39 (by decide) (by omega) (fun q39 => ?_) (fun q39 => ?_)
      · exact v_return dX7_divide_68 rfl (by first | exact h2z q5 (cv0.mp q15) | exact h2 q5 (fun z => q15 (cv0.mpr z)) _ hr32 | exact h3z (by omega) (cv0.mp q49) | exact h3 (by omega) (fun z => q49 (cv0.mpr z)) _ hr66 | omega)
      · refine v_aload_n dX7_divide_42 rfl ?_
        refine v_getR (k1 := 84 + 4 * i) dX7_divide_43 (shO hi) fX7_26 (rfD hi) ?_
        refine v_iload_n dX7_divide_46 rfl ?_
        refine v_daload dX7_divide_47 (shD hi) (by omega) ?_
        refine v_dconst0 dX7_divide_48 ?_
        refine v_dcmp_eq (tgt := 68) dX7_divide_49 dX7_divide_50 (by decide) (fun q49 => ?_) (fun q49 => ?_)
        · exact v_return dX7_divide_68 rfl (by first | exact h2z q5 (cv0.mp q15) | exact h2 q5 (fun z => q15 (cv0.mpr z)) _ hr32 | exact h3z (by omega) (cv0.mp q49) | exact h3 (by omega) (fun z => q49 (cv0.mpr z)) _ hr66 | omega)
        · refine v_aload_n dX7_divide_53 rfl ?_
          refine v_getR (k1 := 84 + 4 * i) dX7_divide_54 (shO hi) fX7_26 (rfD hi) ?_
          refine v_iload_n dX7_divide_57 rfl ?_
          refine v_aload_n dX7_divide_58 rfl ?_
          refine v_getR (k1 := 84 + 4 * i) dX7_divide_59 (shO hi) fX7_26 (rfD hi) ?_
          refine v_iload_n dX7_divide_62 rfl ?_
          refine v_daload dX7_divide_63 (shD hi) (by omega) ?_
          refine v_iload_n dX7_divide_64 rfl ?_
          refine v_i2d dX7_divide_65 ?_
          refine v_ddiv dX7_divide_66 (fun r66 hr66 => ?_)
          refine v_dastore dX7_divide_67 (shD hi) (by omega) ?_
          exact v_return dX7_divide_68 rfl (by first | exact h2z q5 (cv0.mp q15) | exact h2 q5 (fun z => q15 (cv0.mpr z)) _ hr32 | exact h3z (by omega) (cv0.mp q49) | exact h3 (by omega) (fun z => q49 (cv0.mpr z)) _ hr66 | omega)
theorem c_X7_asLong {P : Int → S9 → Prop} {x : Int} (hi : i < 4) (ht : 0 ≤ gI σ (81 + 4 * i) 0 ∧ gI σ (81 + 4 * i) 0 ≤ 3) (hx : 0 ≤ x ∧ x < 40) (h1 : gI σ (81 + 4 * i) 0 < 2 → P (gL σ (82 + 4 * i) x) σ) (h2 : gI σ (81 + 4 * i) 0 = 2 → P (FP.f2l (gF σ (83 + 4 * i) x)).toInt σ) (h3 : gI σ (81 + 4 * i) 0 = 3 → P (FP.d2l (gD σ (84 + 4 * i) x)).toInt σ) : Cc d mX7_asLong [.ref (81 + 4 * i), .int (iI x)] σ (QL P) := by
  refine Cc_of (by decide +kernel) (fun _ => Nat.le_of_ble_eq_true rfl) rfl (lv := [_, _]) ?_
  refine v_aload_n dX7_asLong_0 rfl ?_
  refine v_getI (ji := 0) dX7_asLong_1 (shO hi) fX7_11 rfl ?_
  refine v_iconst dX7_asLong_4 ?_
  refine v_icmp_ne (tgt := 16) dX7_asLong_5 (by decide) (by omega) (fun q5 => ?_) (fun q5 => ?_)
  · refine v_aload_n dX7_asLong_16 rfl ?_
    refine v_getI (ji := 0) dX7_asLong_17 (shO hi) fX7_11 rfl ?_
    refine v_iconst dX7_asLong_20 ?_
    refine v_icmp_ne (tgt := 34) dX7_asLong_21 (by decide) (by omega) (fun q21 => ?_) (fun q21 => ?_)
    · refine v_aload_n dX7_asLong_34 rfl ?_
      refine v_getR (k1 := 82 + 4 * i) dX7_asLong_35 (shO hi) fX7_18 (rfW hi) ?_
      refine v_iload_n dX7_asLong_38 rfl ?_
      refine v_laload dX7_asLong_39 (shW hi) (by omega) ?_
      exact v_lreturn dX7_asLong_40 rfl (by first | exact h2 q5 | exact h3 q21 | exact h1 (by omega))
    · refine v_aload_n dX7_asLong_24 rfl ?_
      refine v_getR (k1 := 84 + 4 * i) dX7_asLong_25 (shO hi) fX7_26 (rfD hi) ?_
      refine v_iload_n dX7_asLong_28 rfl ?_
      refine v_daload dX7_asLong_29 (shD hi) (by omega) ?_
      refine v_d2l dX7_asLong_30 ((lI_of _).symm) ?_
      refine v_goto (tgt := 40) dX7_asLong_31 (by decide) ?_
      exact v_lreturn dX7_asLong_40 rfl (by first | exact h2 q5 | exact h3 q21 | exact h1 (by omega))
  · refine v_aload_n dX7_asLong_8 rfl ?_
    refine v_getR (k1 := 83 + 4 * i) dX7_asLong_9 (shO hi) fX7_22 (rfF hi) ?_
    refine v_iload_n dX7_asLong_12 rfl ?_
    refine v_faload dX7_asLong_13 (shF hi) (by omega) ?_
    refine v_f2l dX7_asLong_14 ((lI_of _).symm) ?_
    exact v_lreturn dX7_asLong_15 rfl (by first | exact h2 q5 | exact h3 q21 | exact h1 (by omega))
theorem c_X7_copyFrom {P : S9 → Prop} {j : Nat} {a b m : Int} (hi : i < 4) (hj : j < 4) (h : 0 ≤ a ∧ 0 ≤ b ∧ 0 ≤ m ∧ a + m ≤ 40 ∧ b + m ≤ 40) (hp : P (aD (aF (aL σ (82 + 4 * i) (cpy9 (gL σ (82 + 4 * j)) (gL σ (82 + 4 * i)) a b m)) (83 + 4 * i) (cpy9 (gF σ (83 + 4 * j)) (gF σ (83 + 4 * i)) a b m)) (84 + 4 * i) (cpy9 (gD σ (84 + 4 * j)) (gD σ (84 + 4 * i)) a b m))) : Cc (d + 1) mX7_copyFrom [.ref (81 + 4 * i), .ref (81 + 4 * j), .int (iI a), .int (iI b), .int (iI m)] σ (QV P) := by
  refine Cc_of (by decide +kernel) (fun _ => Nat.le_of_ble_eq_true rfl) rfl (lv := [_, _, _, _, _]) ?_
  refine v_aload_n dX7_copyFrom_0 rfl ?_
  refine v_getR (k1 := 82 + 4 * j) dX7_copyFrom_1 (shO hj) fX7_18 (rfW hj) ?_
  refine v_iload_n dX7_copyFrom_4 rfl ?_
  refine v_aload_n dX7_copyFrom_5 rfl ?_
  refine v_getR (k1 := 82 + 4 * i) dX7_copyFrom_6 (shO hi) fX7_18 (rfW hi) ?_
  refine v_iload_n dX7_copyFrom_9 rfl ?_
  refine v_iload dX7_copyFrom_10 rfl ?_
  refine v_copyL dX7_copyFrom_12 acX7_30 (shW hj) (shW hi) (by omega) (Nat.le_of_ble_eq_true rfl) ?_
  refine v_aload_n dX7_copyFrom_15 rfl ?_
  refine v_getR (k1 := 83 + 4 * j) dX7_copyFrom_16 (shO hj) fX7_22 (rfF hj) ?_
  refine v_iload_n dX7_copyFrom_19 rfl ?_
  refine v_aload_n dX7_copyFrom_20 rfl ?_
  refine v_getR (k1 := 83 + 4 * i) dX7_copyFrom_21 (shO hi) fX7_22 (rfF hi) ?_
  refine v_iload_n dX7_copyFrom_24 rfl ?_
  refine v_iload dX7_copyFrom_25 rfl ?_
  refine v_copyF dX7_copyFrom_27 acX7_30 (shF hj) (shF hi) (by omega) (Nat.le_of_ble_eq_true rfl) ?_
  refine v_aload_n dX7_copyFrom_30 rfl ?_
  refine v_getR (k1 := 84 + 4 * j) dX7_copyFrom_31 (shO hj) fX7_26 (rfD hj) ?_
  refine v_iload_n dX7_copyFrom_34 rfl ?_
  refine v_aload_n dX7_copyFrom_35 rfl ?_
  refine v_getR (k1 := 84 + 4 * i) dX7_copyFrom_36 (shO hi) fX7_26 (rfD hi) ?_
  refine v_iload_n dX7_copyFrom_39 rfl ?_
  refine v_iload dX7_copyFrom_40 rfl ?_
  refine v_copyD dX7_copyFrom_42 acX7_30 (shD hj) (shD hi) (by omega) (Nat.le_of_ble_eq_true rfl) ?_
  exact v_return dX7_copyFrom_45 rfl (hp)
theorem c_X9_isSlot {P : Int → S9 → Prop} {s : Int} (hs : (-2147483648 ≤ s ∧ s < 2147483648)) (h1 : 0 ≤ s ∧ s < 4 → P 1 σ) (h0 : ¬ (0 ≤ s ∧ s < 4) → P 0 σ) : Cc d mX9_isSlot [.int (iI s)] σ (QI P) := by
  refine Cc_of (by decide +kernel) (fun _ => Nat.le_of_ble_eq_true rfl) rfl (lv := [_]) ?_
  refine v_iload_n dX9_isSlot_0 rfl ?_
  refine v_if_lt (tgt := 13) dX9_isSlot_1 (by decide) (by omega) (fun q1 => ?_) (fun q1 => ?_)
  · refine v_iconst dX9_isSlot_13 ?_
    exact v_zreturn dX9_isSlot_14 rfl (by decide) (by first | exact h1 (by omega) | exact h0 (by omega))
  · refine v_iload_n dX9_isSlot_4 rfl ?_
    refine v_iconst dX9_isSlot_5 ?_
    refine v_icmp_ge (tgt := 13) dX9_isSlot_6 (by decide) (by omega) (fun q6 => ?_) (fun q6 => ?_)
    · refine v_iconst dX9_isSlot_13 ?_
      exact v_zreturn dX9_isSlot_14 rfl (by decide) (by first | exact h1 (by omega) | exact h0 (by omega))
    · refine v_iconst dX9_isSlot_9 ?_
      refine v_goto (tgt := 14) dX9_isSlot_10 (by decide) ?_
      exact v_zreturn dX9_isSlot_14 rfl (by decide) (by first | exact h1 (by omega) | exact h0 (by omega))
end
