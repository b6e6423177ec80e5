section
variable {d : Nat} {n R : Int} {lf rg : Int → List Int} {wt lev : Int → Int} {stt : Int} {ap : Int → UInt32} {str : List Int} {σ : S9}
theorem c_X9_letters {P : Int → S9 → Prop} (c : SyC σ 1 n R lf rg wt lev stt ap str) (h : P n σ) : Cc d mX9_letters [.ref 0] σ (QI P) := by
  refine Cc_of (by decide +kernel) (fun _ => Nat.le_of_ble_eq_true rfl) rfl (lv := [_]) ?_
  refine v_aload_n dX9_letters_0 rfl ?_
  refine v_getR (k1 := 1) dX9_letters_1 s_0 fX9_14 rfl ?_
  refine v_getI (ji := 0) dX9_letters_4 s_1 fX9_71 rfl ?_
  rw [c.1]
  exact v_ireturn dX9_letters_7 rfl (h)
theorem c_X9_ruleCount {P : Int → S9 → Prop} (c : SyC σ 1 n R lf rg wt lev stt ap str) (h : P R σ) : Cc d mX9_ruleCount [.ref 0] σ (QI P) := by
  refine Cc_of (by decide +kernel) (fun _ => Nat.le_of_ble_eq_true rfl) rfl (lv := [_]) ?_
  refine v_aload_n dX9_ruleCount_0 rfl ?_
  refine v_getR (k1 := 1) dX9_ruleCount_1 s_0 fX9_14 rfl ?_
  refine v_getI (ji := 1) dX9_ruleCount_4 s_1 fX9_93 rfl ?_
  rw [c.2.1]
  exact v_ireturn dX9_ruleCount_7 rfl (h)
theorem c_X9_clearInput {P : Int → S9 → Prop} {k : Int} (hk : gI σ 31 0 = k) (h : P k (sI σ 31 0 0)) : Cc (d + 1) mX9_clearInput [.ref 0] σ (QI P) := by
  refine Cc_of (by decide +kernel) (fun _ => Nat.le_of_ble_eq_true rfl) rfl (lv := [_]) ?_
  refine v_aload_n dX9_clearInput_0 rfl ?_
  refine v_getR (k1 := 31) dX9_clearInput_1 s_0 fX9_28 rfl ?_
  refine v_callVi0 dX9_clearInput_4 kX9_89 s_31 (Nat.le_of_ble_eq_true rfl) (c_X1_consume hk ?_)
  exact v_ireturn dX9_clearInput_7 rfl (h)
theorem c_X9_append {P : Int → S9 → Prop} {k v m : Int} (hk : gI σ 31 0 = k) (hkb : 0 ≤ k ∧ k ≤ 40) (hv : (-2147483648 ≤ v ∧ v < 2147483648)) (hm : (-2147483648 ≤ m ∧ m < 2147483648)) (h1 : ¬ ((0 ≤ v ∧ v ≤ 127) ∧ 1 ≤ m ∧ m ≤ 40) → P (-1) σ) (h2 : ((0 ≤ v ∧ v ≤ 127) ∧ 1 ≤ m ∧ m ≤ 40) → ¬ k + m ≤ 40 → P (-4) σ) (h3 : ((0 ≤ v ∧ v ≤ 127) ∧ 1 ≤ m ∧ m ≤ 40) → k + m ≤ 40 → P (k + m) (sI (aI σ 32 (fil9 (gI σ 32) k m v)) 31 0 (k + m))) : Cc (d + 1) mX9_append [.ref 0, .int (iI v), .int (iI m)] σ (QI P) := by
  refine Cc_of (by decide +kernel) (fun _ => Nat.le_of_ble_eq_true rfl) rfl (lv := [_, _, _]) ?_
  refine v_iload_n dX9_append_0 rfl ?_
  refine v_if_lt (tgt := 21) dX9_append_1 (by decide) (by omega) (fun q1 => ?_) (fun q1 => ?_)
  · refine v_iconst dX9_append_21 ?_
    exact v_ireturn dX9_append_22 rfl (h1 (by omega))
  · refine v_iload_n dX9_append_4 rfl ?_
    refine v_bipush dX9_append_5 (by decide) ?_
    refine v_icmp_gt (tgt := 21) dX9_append_7 (by decide) (by omega) (fun q7 => ?_) (fun q7 => ?_)
    · refine v_iconst dX9_append_21 ?_
      exact v_ireturn dX9_append_22 rfl (h1 (by omega))
    · refine v_iload_n dX9_append_10 rfl ?_
      refine v_iconst dX9_append_11 ?_
      refine v_icmp_lt (tgt := 21) dX9_append_12 (by decide) (by omega) (fun q12 => ?_) (fun q12 => ?_)
      · refine v_iconst dX9_append_21 ?_
        exact v_ireturn dX9_append_22 rfl (h1 (by omega))
      · refine v_iload_n dX9_append_15 rfl ?_
        refine v_bipush dX9_append_16 (by decide) ?_
        refine v_icmp_le (tgt := 23) dX9_append_18 (by decide) (by omega) (fun q18 => ?_) (fun q18 => ?_)
        · refine v_aload_n dX9_append_23 rfl ?_
          refine v_getR (k1 := 31) dX9_append_24 s_0 fX9_28 rfl ?_
          refine v_iload_n dX9_append_27 rfl ?_
          refine v_iload_n dX9_append_28 rfl ?_
          refine v_callVi2 dX9_append_29 kX9_82 s_31 (Nat.le_of_ble_eq_true rfl) (c_X1_put hk hkb (by omega) (by omega) (fun z => ?_) (fun z => ?_))
          · refine v_if_eq (tgt := 45) dX9_append_32 (by decide) (by decide) (fun q32 => absurd q32 (by decide)) (fun q32 => ?_)
            refine v_aload_n dX9_append_35 rfl ?_
            refine v_getR (k1 := 31) dX9_append_36 s_0 fX9_28 rfl ?_
            refine v_getI (ji := 0) dX9_append_39 s_31 fX9_86 rfl ?_
            rw [gI_aI_eq, up9_eq]
            refine v_goto (tgt := 47) dX9_append_42 (by decide) ?_
            exact v_ireturn dX9_append_47 rfl (by first | exact h3 (by omega) z | exact h2 (by omega) z)
          · refine v_if_eq (tgt := 45) dX9_append_32 (by decide) (by decide) (fun q32 => ?_) (fun q32 => absurd q32 (by decide))
            refine v_bipush dX9_append_45 (by decide) ?_
            exact v_ireturn dX9_append_47 rfl (by first | exact h3 (by omega) z | exact h2 (by omega) z)
        · refine v_iconst dX9_append_21 ?_
          exact v_ireturn dX9_append_22 rfl (h1 (by omega))
theorem c_X9_letterOrNone {P : Int → S9 → Prop} {w : List Int} {p : Int} (hw : St w) (hp : (-2147483648 ≤ p ∧ p < 2147483648)) (h1 : 0 ≤ p ∧ p < w.length → P (at9 w p) σ) (h0 : ¬ (0 ≤ p ∧ p < w.length) → P (-6) σ) : Cc (d + 2) mX9_letterOrNone [.long (lI (encW w)), .int (iI p)] σ (QI P) := by
  have hl := hw.2
  refine Cc_of (by decide +kernel) (fun _ => Nat.le_of_ble_eq_true rfl) rfl (lv := [_, _, _]) ?_
  refine v_iload_n dX9_letterOrNone_0 rfl ?_
  refine v_if_lt (tgt := 20) dX9_letterOrNone_1 (by decide) (by omega) (fun q1 => ?_) (fun q1 => ?_)
  · refine v_bipush dX9_letterOrNone_20 (by decide) ?_
    exact v_ireturn dX9_letterOrNone_22 rfl (by first | exact h1 (by omega) | exact h0 (by omega))
  · refine v_iload_n dX9_letterOrNone_4 rfl ?_
    refine v_lload_n dX9_letterOrNone_5 rfl ?_
    refine v_callSi1 dX9_letterOrNone_6 kX9_194 (Nat.le_of_ble_eq_true rfl) (c_X8_sizeOf hw ?_)
    refine v_icmp_ge (tgt := 20) dX9_letterOrNone_9 (by decide) (by omega) (fun q9 => ?_) (fun q9 => ?_)
    · refine v_bipush dX9_letterOrNone_20 (by decide) ?_
      exact v_ireturn dX9_letterOrNone_22 rfl (by first | exact h1 (by omega) | exact h0 (by omega))
    · refine v_lload_n dX9_letterOrNone_12 rfl ?_
      refine v_iload_n dX9_letterOrNone_13 rfl ?_
      refine v_callSi2 dX9_letterOrNone_14 kX9_294 (Nat.le_of_ble_eq_true rfl) (c_X8_letterAt hw (by omega) ?_)
      refine v_goto (tgt := 22) dX9_letterOrNone_17 (by decide) ?_
      exact v_ireturn dX9_letterOrNone_22 rfl (by first | exact h1 (by omega) | exact h0 (by omega))
theorem c_X9_ruleLetter {P : Int → S9 → Prop} {r s p : Int} (v : Va n R lf rg wt lev stt ap str) (c : SyC σ 1 n R lf rg wt lev stt ap str) (hr : (-2147483648 ≤ r ∧ r < 2147483648)) (hs : (-2147483648 ≤ s ∧ s < 2147483648)) (hp : (-2147483648 ≤ p ∧ p < 2147483648)) (h1 : ¬ (0 ≤ r ∧ r < R) → P (-3) σ) (h2 : (0 ≤ r ∧ r < R) → ¬ (0 ≤ s ∧ s ≤ 1) → P (-1) σ) (h3 : (0 ≤ r ∧ r < R) → (0 ≤ s ∧ s ≤ 1) → ∀ w, w = (if s = 0 then lf r else rg r) → (0 ≤ p ∧ p < w.length → P (at9 w p) σ) ∧ (¬ (0 ≤ p ∧ p < w.length) → P (-6) σ)) : Cc (d + 3) mX9_ruleLetter [.ref 0, .int (iI r), .int (iI s), .int (iI p)] σ (QI P) := by
  have hn := v.1
  have hR := v.2.1
  refine Cc_of (by decide +kernel) (fun _ => Nat.le_of_ble_eq_true rfl) rfl (lv := [_, _, _, _]) ?_
  refine v_aload_n dX9_ruleLetter_0 rfl ?_
  refine v_getR (k1 := 1) dX9_ruleLetter_1 s_0 fX9_14 rfl ?_
  refine v_iload_n dX9_ruleLetter_4 rfl ?_
  refine v_callVi1 dX9_ruleLetter_5 kX9_110 s_1 (Nat.le_of_ble_eq_true rfl) (c_X5_hasRule c.2.1 (by omega) hr (fun z => ?_) (fun z => ?_))
  · refine v_if_ne (tgt := 14) dX9_ruleLetter_8 (by decide) (by decide) (fun q8 => ?_) (fun q8 => absurd q8 (by decide))
    refine v_iload_n dX9_ruleLetter_14 rfl ?_
    refine v_if_lt (tgt := 23) dX9_ruleLetter_15 (by decide) (by omega) (fun q15 => ?_) (fun q15 => ?_)
    · refine v_iconst dX9_ruleLetter_23 ?_
      exact v_ireturn dX9_ruleLetter_24 rfl (h2 z (by omega))
    · refine v_iload_n dX9_ruleLetter_18 rfl ?_
      refine v_iconst dX9_ruleLetter_19 ?_
      refine v_icmp_le (tgt := 25) dX9_ruleLetter_20 (by decide) (by omega) (fun q20 => ?_) (fun q20 => ?_)
      · refine v_iload_n dX9_ruleLetter_25 rfl ?_
        refine v_if_ne (tgt := 41) dX9_ruleLetter_26 (by decide) (by omega) (fun q26 => ?_) (fun q26 => ?_)
        · refine v_aload_n dX9_ruleLetter_41 rfl ?_
          refine v_getR (k1 := 1) dX9_ruleLetter_42 s_0 fX9_14 rfl ?_
          refine v_getR (k1 := 3) dX9_ruleLetter_45 s_1 fX9_121 rfl ?_
          refine v_iload_n dX9_ruleLetter_48 rfl ?_
          refine v_laload dX9_ruleLetter_49 s_3 (by omega) ?_
          (try rw [c.r z])
          refine v_iload_n dX9_ruleLetter_50 rfl ?_
          refine v_callSi2 dX9_ruleLetter_51 kX9_124 (Nat.le_of_ble_eq_true rfl) (c_X9_letterOrNone (by first | exact v.sl z | exact v.sr z) hp (fun y => ?_) (fun y => ?_))
          · exact v_ireturn dX9_ruleLetter_54 rfl (by first | exact (h3 z (by omega) _ (if_pos q26).symm).1 y | exact (h3 z (by omega) _ (if_pos q26).symm).2 y | exact (h3 z (by omega) _ (if_neg q26).symm).1 y | exact (h3 z (by omega) _ (if_neg q26).symm).2 y)
          · exact v_ireturn dX9_ruleLetter_54 rfl (by first | exact (h3 z (by omega) _ (if_pos q26).symm).1 y | exact (h3 z (by omega) _ (if_pos q26).symm).2 y | exact (h3 z (by omega) _ (if_neg q26).symm).1 y | exact (h3 z (by omega) _ (if_neg q26).symm).2 y)
        · refine v_aload_n dX9_ruleLetter_29 rfl ?_
          refine v_getR (k1 := 1) dX9_ruleLetter_30 s_0 fX9_14 rfl ?_
          refine v_getR (k1 := 2) dX9_ruleLetter_33 s_1 fX9_117 rfl ?_
          refine v_iload_n dX9_ruleLetter_36 rfl ?_
          refine v_laload dX9_ruleLetter_37 s_2 (by omega) ?_
          rw [c.l z]
          refine v_goto (tgt := 50) dX9_ruleLetter_38 (by decide) ?_
          (try rw [c.r z])
          refine v_iload_n dX9_ruleLetter_50 rfl ?_
          refine v_callSi2 dX9_ruleLetter_51 kX9_124 (Nat.le_of_ble_eq_true rfl) (c_X9_letterOrNone (by first | exact v.sl z | exact v.sr z) hp (fun y => ?_) (fun y => ?_))
          · exact v_ireturn dX9_ruleLetter_54 rfl (by first | exact (h3 z (by omega) _ (if_pos q26).symm).1 y | exact (h3 z (by omega) _ (if_pos q26).symm).2 y | exact (h3 z (by omega) _ (if_neg q26).symm).1 y | exact (h3 z (by omega) _ (if_neg q26).symm).2 y)
          · exact v_ireturn dX9_ruleLetter_54 rfl (by first | exact (h3 z (by omega) _ (if_pos q26).symm).1 y | exact (h3 z (by omega) _ (if_pos q26).symm).2 y | exact (h3 z (by omega) _ (if_neg q26).symm).1 y | exact (h3 z (by omega) _ (if_neg q26).symm).2 y)
      · refine v_iconst dX9_ruleLetter_23 ?_
        exact v_ireturn dX9_ruleLetter_24 rfl (h2 z (by omega))
  · refine v_if_ne (tgt := 14) dX9_ruleLetter_8 (by decide) (by decide) (fun q8 => absurd q8 (by decide)) (fun q8 => ?_)
    refine v_bipush dX9_ruleLetter_11 (by decide) ?_
    exact v_ireturn dX9_ruleLetter_13 rfl (h1 z)
theorem rfB9 {r : Int} (h : 0 ≤ r ∧ r < 8) : rfs 4 r.toNat = 5 + r.toNat := by
  obtain ⟨k, rfl⟩ := Int.eq_ofNat_of_zero_le h.1
  have : ∀ k, k < 8 → rfs 4 k = 5 + k := by decide
  exact this k (by omega)
theorem shB9 {r : Int} (h : 0 ≤ r ∧ r < 8) : sh9 (5 + r.toNat) 1 8 := by
  obtain ⟨k, rfl⟩ := Int.eq_ofNat_of_zero_le h.1
  have : ∀ k, k < 8 → shp (5 + k) = (1, 8) := by decide
  exact ⟨by show 5 + k < 130; omega, this k (by omega), by decide⟩
theorem c_X9_balance {P : Int → S9 → Prop} {r x : Int} (v : Va n R lf rg wt lev stt ap str) (c : SyC σ 1 n R lf rg wt lev stt ap str) (hr : (-2147483648 ≤ r ∧ r < 2147483648)) (hx : (-2147483648 ≤ x ∧ x < 2147483648)) (h1 : ¬ (0 ≤ r ∧ r < R) → P (-3) σ) (h2 : (0 ≤ r ∧ r < R) → ¬ (0 ≤ x ∧ x < n) → P (-2) σ) (h3 : (0 ≤ r ∧ r < R) → (0 ≤ x ∧ x < n) → P (bal9 (lf r) (rg r) x + 100) σ) : Cc (d + 1) mX9_balance [.ref 0, .int (iI r), .int (iI x)] σ (QI P) := by
  have hn := v.1
  have hR := v.2.1
  refine Cc_of (by decide +kernel) (fun _ => Nat.le_of_ble_eq_true rfl) rfl (lv := [_, _, _]) ?_
  refine v_aload_n dX9_balance_0 rfl ?_
  refine v_getR (k1 := 1) dX9_balance_1 s_0 fX9_14 rfl ?_
  refine v_iload_n dX9_balance_4 rfl ?_
  refine v_callVi1 dX9_balance_5 kX9_110 s_1 (Nat.le_of_ble_eq_true rfl) (c_X5_hasRule c.2.1 (by omega) hr (fun z => ?_) (fun z => ?_))
  · refine v_if_ne (tgt := 14) dX9_balance_8 (by decide) (by decide) (fun q8 => ?_) (fun q8 => absurd q8 (by decide))
    refine v_aload_n dX9_balance_14 rfl ?_
    refine v_getR (k1 := 1) dX9_balance_15 s_0 fX9_14 rfl ?_
    refine v_iload_n dX9_balance_18 rfl ?_
    refine v_callVi1 dX9_balance_19 kX9_128 s_1 (Nat.le_of_ble_eq_true rfl) (c_X5_hasLetter c.1 (by omega) hx (fun y => ?_) (fun y => ?_))
    · refine v_if_eq (tgt := 42) dX9_balance_22 (by decide) (by decide) (fun q22 => absurd q22 (by decide)) (fun q22 => ?_)
      refine v_aload_n dX9_balance_25 rfl ?_
      refine v_getR (k1 := 1) dX9_balance_26 s_0 fX9_14 rfl ?_
      refine v_getR (k1 := 4) dX9_balance_29 s_1 fX9_131 rfl ?_
      refine v_iload_n dX9_balance_32 rfl ?_
      refine v_aaloadR (k1 := 5 + r.toNat) dX9_balance_33 s_4 (by omega) (rfB9 (by omega)) ?_
      refine v_iload_n dX9_balance_34 rfl ?_
      refine v_iaload dX9_balance_35 (shB9 (r := r) (by omega)) (by omega) ?_
      rw [(c.2.2.2.2.1 r z.1 z.2).2.2 x y.1 (by omega)]
      refine v_bipush dX9_balance_36 (by decide) ?_
      refine v_iadd dX9_balance_38 ?_
      refine v_goto (tgt := 44) dX9_balance_39 (by decide) ?_
      exact v_ireturn dX9_balance_44 rfl (by first | exact h3 z y | exact h2 z y)
    · refine v_if_eq (tgt := 42) dX9_balance_22 (by decide) (by decide) (fun q22 => ?_) (fun q22 => absurd q22 (by decide))
      refine v_bipush dX9_balance_42 (by decide) ?_
      exact v_ireturn dX9_balance_44 rfl (by first | exact h3 z y | exact h2 z y)
  · refine v_if_ne (tgt := 14) dX9_balance_8 (by decide) (by decide) (fun q8 => absurd q8 (by decide)) (fun q8 => ?_)
    refine v_bipush dX9_balance_11 (by decide) ?_
    exact v_ireturn dX9_balance_13 rfl (h1 z)
theorem c_X9_weight {P : Int → S9 → Prop} {x : Int} (v : Va n R lf rg wt lev stt ap str) (c : SyC σ 1 n R lf rg wt lev stt ap str) (hx : (-2147483648 ≤ x ∧ x < 2147483648)) (h1 : ¬ (0 ≤ x ∧ x < n) → P (-2) σ) (h2 : (0 ≤ x ∧ x < n) → P (wt x) σ) : Cc (d + 1) mX9_weight [.ref 0, .int (iI x)] σ (QI P) := by
  have hn := v.1
  have hR := v.2.1
  refine Cc_of (by decide +kernel) (fun _ => Nat.le_of_ble_eq_true rfl) rfl (lv := [_, _]) ?_
  refine v_aload_n dX9_weight_0 rfl ?_
  refine v_getR (k1 := 1) dX9_weight_1 s_0 fX9_14 rfl ?_
  refine v_iload_n dX9_weight_4 rfl ?_
  refine v_callVi1 dX9_weight_5 kX9_128 s_1 (Nat.le_of_ble_eq_true rfl) (c_X5_hasLetter c.1 (by omega) hx (fun z => ?_) (fun z => ?_))
  · refine v_if_eq (tgt := 23) dX9_weight_8 (by decide) (by decide) (fun q8 => absurd q8 (by decide)) (fun q8 => ?_)
    refine v_aload_n dX9_weight_11 rfl ?_
    refine v_getR (k1 := 1) dX9_weight_12 s_0 fX9_14 rfl ?_
    refine v_getR (k1 := 13) dX9_weight_15 s_1 fX9_135 rfl ?_
    refine v_iload_n dX9_weight_18 rfl ?_
    refine v_iaload dX9_weight_19 s_13 (by omega) ?_
    rw [show gI σ 13 x = wt x from (c.2.2.2.2.2 x z.1 (by omega)).1]
    refine v_goto (tgt := 25) dX9_weight_20 (by decide) ?_
    exact v_ireturn dX9_weight_25 rfl (by first | exact h2 z | exact h1 z)
  · refine v_if_eq (tgt := 23) dX9_weight_8 (by decide) (by decide) (fun q8 => ?_) (fun q8 => absurd q8 (by decide))
    refine v_bipush dX9_weight_23 (by decide) ?_
    exact v_ireturn dX9_weight_25 rfl (by first | exact h2 z | exact h1 z)
theorem c_X9_setWeight {P : Int → S9 → Prop} {x y : Int} (v : Va n R lf rg wt lev stt ap str) (c : SyC σ 1 n R lf rg wt lev stt ap str) (hx : (-2147483648 ≤ x ∧ x < 2147483648)) (hy : (-2147483648 ≤ y ∧ y < 2147483648)) (h1 : ¬ (0 ≤ x ∧ x < n) → P (-2) σ) (h2 : (0 ≤ x ∧ x < n) → ¬ (0 ≤ y ∧ y ≤ 99) → P (-1) σ) (h3 : (0 ≤ x ∧ x < n) → (0 ≤ y ∧ y ≤ 99) → P (wt x) (sI σ 13 x y)) : Cc (d + 1) mX9_setWeight [.ref 0, .int (iI x), .int (iI y)] σ (QI P) := by
  have hn := v.1
  have hR := v.2.1
  refine Cc_of (by decide +kernel) (fun _ => Nat.le_of_ble_eq_true rfl) rfl (lv := [_, _, _, _]) ?_
  refine v_aload_n dX9_setWeight_0 rfl ?_
  refine v_getR (k1 := 1) dX9_setWeight_1 s_0 fX9_14 rfl ?_
  refine v_iload_n dX9_setWeight_4 rfl ?_
  refine v_callVi1 dX9_setWeight_5 kX9_128 s_1 (Nat.le_of_ble_eq_true rfl) (c_X5_hasLetter c.1 (by omega) hx (fun z => ?_) (fun z => ?_))
  · refine v_if_ne (tgt := 14) dX9_setWeight_8 (by decide) (by decide) (fun q8 => ?_) (fun q8 => absurd q8 (by decide))
    refine v_iload_n dX9_setWeight_14 rfl ?_
    refine v_if_lt (tgt := 24) dX9_setWeight_15 (by decide) (by omega) (fun q15 => ?_) (fun q15 => ?_)
    · refine v_iconst dX9_setWeight_24 ?_
      exact v_ireturn dX9_setWeight_25 rfl (h2 z (by omega))
    · refine v_iload_n dX9_setWeight_18 rfl ?_
      refine v_bipush dX9_setWeight_19 (by decide) ?_
      refine v_icmp_le (tgt := 26) dX9_setWeight_21 (by decide) (by omega) (fun q21 => ?_) (fun q21 => ?_)
      · refine v_aload_n dX9_setWeight_26 rfl ?_
        refine v_getR (k1 := 1) dX9_setWeight_27 s_0 fX9_14 rfl ?_
        refine v_getR (k1 := 13) dX9_setWeight_30 s_1 fX9_135 rfl ?_
        refine v_iload_n dX9_setWeight_33 rfl ?_
        refine v_iaload dX9_setWeight_34 s_13 (by omega) ?_
        rw [show gI σ 13 x = wt x from (c.2.2.2.2.2 x z.1 (by omega)).1]
        refine v_istore_n (lv' := [_, _, _, _]) dX9_setWeight_35 (Nat.le_of_ble_eq_true rfl) rfl rfl ?_
        refine v_aload_n dX9_setWeight_36 rfl ?_
        refine v_getR (k1 := 1) dX9_setWeight_37 s_0 fX9_14 rfl ?_
        refine v_getR (k1 := 13) dX9_setWeight_40 s_1 fX9_135 rfl ?_
        refine v_iload_n dX9_setWeight_43 rfl ?_
        refine v_iload_n dX9_setWeight_44 rfl ?_
        refine v_iastore dX9_setWeight_45 s_13 (by omega) ?_
        refine v_iload_n dX9_setWeight_46 rfl ?_
        exact v_ireturn dX9_setWeight_47 rfl (h3 z (by omega))
      · refine v_iconst dX9_setWeight_24 ?_
        exact v_ireturn dX9_setWeight_25 rfl (h2 z (by omega))
  · refine v_if_ne (tgt := 14) dX9_setWeight_8 (by decide) (by decide) (fun q8 => absurd q8 (by decide)) (fun q8 => ?_)
    refine v_bipush dX9_setWeight_11 (by decide) ?_
    exact v_ireturn dX9_setWeight_13 rfl (h1 z)
theorem c_X9_level {P : Int → S9 → Prop} {x : Int} (v : Va n R lf rg wt lev stt ap str) (c : SyC σ 1 n R lf rg wt lev stt ap str) (hx : (-2147483648 ≤ x ∧ x < 2147483648)) (h1 : ¬ (0 ≤ x ∧ x < n) → P (-2) σ) (h2 : (0 ≤ x ∧ x < n) → P (lev x) σ) : Cc (d + 1) mX9_level [.ref 0, .int (iI x)] σ (QI P) := by
  have hn := v.1
  have hR := v.2.1
  refine Cc_of (by decide +kernel) (fun _ => Nat.le_of_ble_eq_true rfl) rfl (lv := [_, _]) ?_
  refine v_aload_n dX9_level_0 rfl ?_
  refine v_getR (k1 := 1) dX9_level_1 s_0 fX9_14 rfl ?_
  refine v_iload_n dX9_level_4 rfl ?_
  refine v_callVi1 dX9_level_5 kX9_128 s_1 (Nat.le_of_ble_eq_true rfl) (c_X5_hasLetter c.1 (by omega) hx (fun z => ?_) (fun z => ?_))
  · refine v_if_eq (tgt := 23) dX9_level_8 (by decide) (by decide) (fun q8 => absurd q8 (by decide)) (fun q8 => ?_)
    refine v_aload_n dX9_level_11 rfl ?_
    refine v_getR (k1 := 1) dX9_level_12 s_0 fX9_14 rfl ?_
    refine v_getR (k1 := 14) dX9_level_15 s_1 fX9_138 rfl ?_
    refine v_iload_n dX9_level_18 rfl ?_
    refine v_iaload dX9_level_19 s_14 (by omega) ?_
    rw [show gI σ 14 x = lev x from (c.2.2.2.2.2 x z.1 (by omega)).2.1]
    refine v_goto (tgt := 25) dX9_level_20 (by decide) ?_
    exact v_ireturn dX9_level_25 rfl (by first | exact h2 z | exact h1 z)
  · refine v_if_eq (tgt := 23) dX9_level_8 (by decide) (by decide) (fun q8 => ?_) (fun q8 => absurd q8 (by decide))
    refine v_bipush dX9_level_23 (by decide) ?_
    exact v_ireturn dX9_level_25 rfl (by first | exact h2 z | exact h1 z)
theorem c_X9_setLevel {P : Int → S9 → Prop} {x y : Int} (v : Va n R lf rg wt lev stt ap str) (c : SyC σ 1 n R lf rg wt lev stt ap str) (hx : (-2147483648 ≤ x ∧ x < 2147483648)) (hy : (-2147483648 ≤ y ∧ y < 2147483648)) (h1 : ¬ (0 ≤ x ∧ x < n) → P (-2) σ) (h2 : (0 ≤ x ∧ x < n) → ¬ (0 ≤ y ∧ y ≤ 9) → P (-1) σ) (h3 : (0 ≤ x ∧ x < n) → (0 ≤ y ∧ y ≤ 9) → P (lev x) (sI σ 14 x y)) : Cc (d + 1) mX9_setLevel [.ref 0, .int (iI x), .int (iI y)] σ (QI P) := by
  have hn := v.1
  have hR := v.2.1
  refine Cc_of (by decide +kernel) (fun _ => Nat.le_of_ble_eq_true rfl) rfl (lv := [_, _, _, _]) ?_
  refine v_aload_n dX9_setLevel_0 rfl ?_
  refine v_getR (k1 := 1) dX9_setLevel_1 s_0 fX9_14 rfl ?_
  refine v_iload_n dX9_setLevel_4 rfl ?_
  refine v_callVi1 dX9_setLevel_5 kX9_128 s_1 (Nat.le_of_ble_eq_true rfl) (c_X5_hasLetter c.1 (by omega) hx (fun z => ?_) (fun z => ?_))
  · refine v_if_ne (tgt := 14) dX9_setLevel_8 (by decide) (by decide) (fun q8 => ?_) (fun q8 => absurd q8 (by decide))
    refine v_iload_n dX9_setLevel_14 rfl ?_
    refine v_if_lt (tgt := 24) dX9_setLevel_15 (by decide) (by omega) (fun q15 => ?_) (fun q15 => ?_)
    · refine v_iconst dX9_setLevel_24 ?_
      exact v_ireturn dX9_setLevel_25 rfl (h2 z (by omega))
    · refine v_iload_n dX9_setLevel_18 rfl ?_
      refine v_bipush dX9_setLevel_19 (by decide) ?_
      refine v_icmp_le (tgt := 26) dX9_setLevel_21 (by decide) (by omega) (fun q21 => ?_) (fun q21 => ?_)
      · refine v_aload_n dX9_setLevel_26 rfl ?_
        refine v_getR (k1 := 1) dX9_setLevel_27 s_0 fX9_14 rfl ?_
        refine v_getR (k1 := 14) dX9_setLevel_30 s_1 fX9_138 rfl ?_
        refine v_iload_n dX9_setLevel_33 rfl ?_
        refine v_iaload dX9_setLevel_34 s_14 (by omega) ?_
        rw [show gI σ 14 x = lev x from (c.2.2.2.2.2 x z.1 (by omega)).2.1]
        refine v_istore_n (lv' := [_, _, _, _]) dX9_setLevel_35 (Nat.le_of_ble_eq_true rfl) rfl rfl ?_
        refine v_aload_n dX9_setLevel_36 rfl ?_
        refine v_getR (k1 := 1) dX9_setLevel_37 s_0 fX9_14 rfl ?_
        refine v_getR (k1 := 14) dX9_setLevel_40 s_1 fX9_138 rfl ?_
        refine v_iload_n dX9_setLevel_43 rfl ?_
        refine v_iload_n dX9_setLevel_44 rfl ?_
        refine v_iastore dX9_setLevel_45 s_14 (by omega) ?_
        refine v_iload_n dX9_setLevel_46 rfl ?_
        exact v_ireturn dX9_setLevel_47 rfl (h3 z (by omega))
      · refine v_iconst dX9_setLevel_24 ?_
        exact v_ireturn dX9_setLevel_25 rfl (h2 z (by omega))
  · refine v_if_ne (tgt := 14) dX9_setLevel_8 (by decide) (by decide) (fun q8 => absurd q8 (by decide)) (fun q8 => ?_)
    refine v_bipush dX9_setLevel_11 (by decide) ?_
    exact v_ireturn dX9_setLevel_13 rfl (h1 z)
theorem c_X9_setStatus {P : Int → S9 → Prop} {x : Int} (c : SyC σ 1 n R lf rg wt lev stt ap str) (hx : (-2147483648 ≤ x ∧ x < 2147483648)) (h1 : ¬ (0 ≤ x ∧ x ≤ 1) → P (-1) σ) (h2 : (0 ≤ x ∧ x ≤ 1) → P stt (sI σ 1 7 x)) : Cc d mX9_setStatus [.ref 0, .int (iI x)] σ (QI P) := by
  refine Cc_of (by decide +kernel) (fun _ => Nat.le_of_ble_eq_true rfl) rfl (lv := [_, _, _]) ?_
  refine v_iload_n dX9_setStatus_0 rfl ?_
  refine v_if_lt (tgt := 9) dX9_setStatus_1 (by decide) (by omega) (fun q1 => ?_) (fun q1 => ?_)
  · refine v_iconst dX9_setStatus_9 ?_
    exact v_ireturn dX9_setStatus_10 rfl (h1 (by omega))
  · refine v_iload_n dX9_setStatus_4 rfl ?_
    refine v_iconst dX9_setStatus_5 ?_
    refine v_icmp_le (tgt := 11) dX9_setStatus_6 (by decide) (by omega) (fun q6 => ?_) (fun q6 => ?_)
    · refine v_aload_n dX9_setStatus_11 rfl ?_
      refine v_getR (k1 := 1) dX9_setStatus_12 s_0 fX9_14 rfl ?_
      refine v_getI (ji := 7) dX9_setStatus_15 s_1 fX9_141 rfl ?_
      rw [c.2.2.1]
      refine v_istore_n (lv' := [_, _, _]) dX9_setStatus_18 (Nat.le_of_ble_eq_true rfl) rfl rfl ?_
      refine v_aload_n dX9_setStatus_19 rfl ?_
      refine v_getR (k1 := 1) dX9_setStatus_20 s_0 fX9_14 rfl ?_
      refine v_iload_n dX9_setStatus_23 rfl ?_
      refine v_putI (ji := 7) dX9_setStatus_24 s_1 pfX9_141 rfl ?_
      refine v_iload_n dX9_setStatus_27 rfl ?_
      exact v_ireturn dX9_setStatus_28 rfl (h2 (by omega))
    · refine v_iconst dX9_setStatus_9 ?_
      exact v_ireturn dX9_setStatus_10 rfl (h1 (by omega))
theorem c_X9_isAdmissible {P : Int → S9 → Prop} (v : Va n R lf rg wt lev stt ap str) (c : SyC σ 1 n R lf rg wt lev stt ap str) (h1 : adm9 (gI σ 13) (gI σ 14) n → P 1 σ) (h0 : ¬ adm9 (gI σ 13) (gI σ 14) n → P 0 σ) : Cc (d + 2) mX9_isAdmissible [.ref 0] σ (QI P) := by
  have hn := v.1
  have hR := v.2.1
  refine Cc_of (by decide +kernel) (fun _ => Nat.le_of_ble_eq_true rfl) rfl (lv := [_]) ?_
  refine v_aload_n dX9_isAdmissible_0 rfl ?_
  refine v_getR (k1 := 1) dX9_isAdmissible_1 s_0 fX9_14 rfl ?_
  refine v_callVi0 dX9_isAdmissible_4 kX9_144 s_1 (Nat.le_of_ble_eq_true rfl) (c_X5_admissible c.1 (by omega) (c.w v) (c.v v) (fun z => ?_) (fun z => ?_))
  · refine v_if_eq (tgt := 14) dX9_isAdmissible_7 (by decide) (by decide) (fun q7 => absurd q7 (by decide)) (fun q7 => ?_)
    refine v_iconst dX9_isAdmissible_10 ?_
    refine v_goto (tgt := 15) dX9_isAdmissible_11 (by decide) ?_
    exact v_ireturn dX9_isAdmissible_15 rfl (by first | exact h1 z | exact h0 z)
  · refine v_if_eq (tgt := 14) dX9_isAdmissible_7 (by decide) (by decide) (fun q7 => ?_) (fun q7 => absurd q7 (by decide))
    refine v_iconst dX9_isAdmissible_14 ?_
    exact v_ireturn dX9_isAdmissible_15 rfl (by first | exact h1 z | exact h0 z)
theorem c_X9_compareSides {P : Int → S9 → Prop} {r : Int} (v : Va n R lf rg wt lev stt ap str) (c : SyC σ 1 n R lf rg wt lev stt ap str) (hr : (-2147483648 ≤ r ∧ r < 2147483648)) (h1 : ¬ (0 ≤ r ∧ r < R) → P (-3) σ) (h2 : (0 ≤ r ∧ r < R) → P (cmp9 (gI σ 13) (gI σ 14) (gI σ 1 7) (lf r) (rg r)) σ) : Cc (d + 4) mX9_compareSides [.ref 0, .int (iI r)] σ (QI P) := by
  have hn := v.1
  have hR := v.2.1
  refine Cc_of (by decide +kernel) (fun _ => Nat.le_of_ble_eq_true rfl) rfl (lv := [_, _]) ?_
  refine v_aload_n dX9_compareSides_0 rfl ?_
  refine v_getR (k1 := 1) dX9_compareSides_1 s_0 fX9_14 rfl ?_
  refine v_iload_n dX9_compareSides_4 rfl ?_
  refine v_callVi1 dX9_compareSides_5 kX9_110 s_1 (Nat.le_of_ble_eq_true rfl) (c_X5_hasRule c.2.1 (by omega) hr (fun z => ?_) (fun z => ?_))
  · refine v_if_eq (tgt := 39) dX9_compareSides_8 (by decide) (by decide) (fun q8 => absurd q8 (by decide)) (fun q8 => ?_)
    refine v_aload_n dX9_compareSides_11 rfl ?_
    refine v_getR (k1 := 1) dX9_compareSides_12 s_0 fX9_14 rfl ?_
    refine v_aload_n dX9_compareSides_15 rfl ?_
    refine v_getR (k1 := 1) dX9_compareSides_16 s_0 fX9_14 rfl ?_
    refine v_getR (k1 := 2) dX9_compareSides_19 s_1 fX9_117 rfl ?_
    refine v_iload_n dX9_compareSides_22 rfl ?_
    refine v_laload dX9_compareSides_23 s_2 (by omega) ?_
    rw [c.l z]
    refine v_aload_n dX9_compareSides_24 rfl ?_
    refine v_getR (k1 := 1) dX9_compareSides_25 s_0 fX9_14 rfl ?_
    refine v_getR (k1 := 3) dX9_compareSides_28 s_1 fX9_121 rfl ?_
    refine v_iload_n dX9_compareSides_31 rfl ?_
    refine v_laload dX9_compareSides_32 s_3 (by omega) ?_
    rw [c.r z]
    refine v_callVi2 dX9_compareSides_33 kX9_148 s_1 (Nat.le_of_ble_eq_true rfl) (c_X5_compareWords (v.sl z) (v.sr z) (c.w v) (c.v v) (c.s v) ?_)
    refine v_goto (tgt := 41) dX9_compareSides_36 (by decide) ?_
    exact v_ireturn dX9_compareSides_41 rfl (by first | exact h2 z | exact h1 z)
  · refine v_if_eq (tgt := 39) dX9_compareSides_8 (by decide) (by decide) (fun q8 => ?_) (fun q8 => absurd q8 (by decide))
    refine v_bipush dX9_compareSides_39 (by decide) ?_
    exact v_ireturn dX9_compareSides_41 rfl (by first | exact h2 z | exact h1 z)
theorem c_X9_firstUnoriented {P : Int → S9 → Prop} (v : Va n R lf rg wt lev stt ap str) (c : SyC σ 1 n R lf rg wt lev stt ap str) (h1 : ∀ r, 0 ≤ r → r < R → cmp9 (gI σ 13) (gI σ 14) (gI σ 1 7) (lf r) (rg r) ≠ 2 → (∀ s, 0 ≤ s → s < r → cmp9 (gI σ 13) (gI σ 14) (gI σ 1 7) (lf s) (rg s) = 2) → P r σ) (h0 : (∀ s, 0 ≤ s → s < R → cmp9 (gI σ 13) (gI σ 14) (gI σ 1 7) (lf s) (rg s) = 2) → P (-6) σ) : Cc (d + 4) mX9_firstUnoriented [.ref 0] σ (QI P) := by
  have hn := v.1
  have hR := v.2.1
  refine Cc_of (by decide +kernel) (fun _ => Nat.le_of_ble_eq_true rfl) rfl (lv := [_, _]) ?_
  have cb : ∀ a b : List Int, 0 ≤ cmp9 (gI σ 13) (gI σ 14) (gI σ 1 7) a b ∧ cmp9 (gI σ 13) (gI σ 14) (gI σ 1 7) a b ≤ 2 := fun a b => by
    unfold cmp9 sgn9
    split
    · omega
    · split <;> omega
  have K : ∀ (m : Nat) (r : Int), 0 ≤ r → r + m = R → (∀ s, 0 ≤ s → s < r → cmp9 (gI σ 13) (gI σ 14) (gI σ 1 7) (lf s) (rg s) = 2) → Vv (d + 4) mX9_firstUnoriented 2 [.ref 0, .int (iI r)] [] σ (QI P) := by
    intro m
    induction m with
    | zero =>
      intro r hr hm hI
      refine v_iload_n dX9_firstUnoriented_2 rfl ?_
      refine v_aload_n dX9_firstUnoriented_3 rfl ?_
      refine v_getR (k1 := 1) dX9_firstUnoriented_4 s_0 fX9_14 rfl ?_
      refine v_getI (ji := 1) dX9_firstUnoriented_7 s_1 fX9_93 rfl ?_
      rw [c.2.1]
      refine v_icmp_ge (tgt := 50) dX9_firstUnoriented_10 (by decide) (by omega) (fun q10 => ?_) (fun q10 => absurd q10 (by omega))
      refine v_bipush dX9_firstUnoriented_50 (by decide) ?_
      exact v_ireturn dX9_firstUnoriented_52 rfl (h0 (fun s a b => hI s a (by omega)))
    | succ m ih =>
      intro r hr hm hI
      have z : 0 ≤ r ∧ r < R := by omega
      have cbr := cb (lf r) (rg r)
      refine v_iload_n dX9_firstUnoriented_2 rfl ?_
      refine v_aload_n dX9_firstUnoriented_3 rfl ?_
      refine v_getR (k1 := 1) dX9_firstUnoriented_4 s_0 fX9_14 rfl ?_
      refine v_getI (ji := 1) dX9_firstUnoriented_7 s_1 fX9_93 rfl ?_
      rw [c.2.1]
      refine v_icmp_ge (tgt := 50) dX9_firstUnoriented_10 (by decide) (by omega) (fun q10 => absurd q10 (by omega)) (fun q10 => ?_)
      refine v_aload_n dX9_firstUnoriented_13 rfl ?_
      refine v_getR (k1 := 1) dX9_firstUnoriented_14 s_0 fX9_14 rfl ?_
      refine v_aload_n dX9_firstUnoriented_17 rfl ?_
      refine v_getR (k1 := 1) dX9_firstUnoriented_18 s_0 fX9_14 rfl ?_
      refine v_getR (k1 := 2) dX9_firstUnoriented_21 s_1 fX9_117 rfl ?_
      refine v_iload_n dX9_firstUnoriented_24 rfl ?_
      refine v_laload dX9_firstUnoriented_25 s_2 (by omega) ?_
      rw [c.l z]
      refine v_aload_n dX9_firstUnoriented_26 rfl ?_
      refine v_getR (k1 := 1) dX9_firstUnoriented_27 s_0 fX9_14 rfl ?_
      refine v_getR (k1 := 3) dX9_firstUnoriented_30 s_1 fX9_121 rfl ?_
      refine v_iload_n dX9_firstUnoriented_33 rfl ?_
      refine v_laload dX9_firstUnoriented_34 s_3 (by omega) ?_
      rw [c.r z]
      refine v_callVi2 dX9_firstUnoriented_35 kX9_148 s_1 (Nat.le_of_ble_eq_true rfl) (c_X5_compareWords (v.sl z) (v.sr z) (c.w v) (c.v v) (c.s v) ?_)
      refine v_iconst dX9_firstUnoriented_38 ?_
      refine v_icmp_eq (tgt := 44) dX9_firstUnoriented_39 (by decide) (by omega) (fun q39 => ?_) (fun q39 => ?_)
      · refine v_iinc (lv' := [_, _]) dX9_firstUnoriented_44 rfl (Nat.le_of_ble_eq_true rfl) rfl rfl ?_
        refine v_goto (tgt := 2) dX9_firstUnoriented_47 (by decide) ?_
        exact ih (r + 1) (by omega) (by omega) (fun s a b => if e : s = r then (by rw [e]; exact q39) else hI s a (by omega))
      · refine v_iload_n dX9_firstUnoriented_42 rfl ?_
        exact v_ireturn dX9_firstUnoriented_43 rfl (h1 r hr (by omega) q39 hI)
  refine v_iconst dX9_firstUnoriented_0 ?_
  refine v_istore_n (lv' := [_, _]) dX9_firstUnoriented_1 (Nat.le_of_ble_eq_true rfl) rfl rfl ?_
  exact K R.toNat 0 (by omega) (by omega) (fun s a b => by omega)
theorem c_X9_takeString {P : Int → S9 → Prop} {k : Int} {f : Int → Int} (v : Va n R lf rg wt lev stt ap str) (c : SyC σ 1 n R lf rg wt lev stt ap str) (hi : InC σ k f) (hf : InV k f) (h1 : k ≤ 12 → (∀ j, 0 ≤ j → j < k → 0 ≤ f j - 97 ∧ f j - 97 < n) → P (encW (seg9 f 0 k.toNat)) (sI σ 31 0 0)) (h0 : ¬ (k ≤ 12 ∧ ∀ j, 0 ≤ j → j < k → 0 ≤ f j - 97 ∧ f j - 97 < n) → P (-1) (sI σ 31 0 0)) : Cc (d + 4) mX9_takeString [.ref 0] σ (QL P) := by
  have hn := v.1
  have hR := v.2.1
  have hk := hf.1
  have g32 : gI (sI σ 31 0 0) 32 = gI σ 32 := gI_aI_ne (by decide)
  have g1 : gI (sI σ 31 0 0) 1 0 = n := by rw [gI_aI_ne (by decide)]; exact c.1
  have es : seg9 (gI σ 32) 0 (k - 0).toNat = seg9 f 0 k.toNat := by
    rw [Int.sub_zero]
    exact seg9_congr (fun i hi2 => hi.2 _ (by omega) (by omega))
  refine Cc_of (by decide +kernel) (fun _ => Nat.le_of_ble_eq_true rfl) rfl (lv := [_, _]) ?_
  refine v_aload_n dX9_takeString_0 rfl ?_
  refine v_getR (k1 := 31) dX9_takeString_1 s_0 fX9_28 rfl ?_
  refine v_callVi0 dX9_takeString_4 kX9_89 s_31 (Nat.le_of_ble_eq_true rfl) (c_X1_consume hi.1 ?_)
  refine v_istore_n (lv' := [_, _]) dX9_takeString_7 (Nat.le_of_ble_eq_true rfl) rfl rfl ?_
  refine v_aload_n dX9_takeString_8 rfl ?_
  refine v_getR (k1 := 31) dX9_takeString_9 s_0 fX9_28 rfl ?_
  refine v_iconst dX9_takeString_12 ?_
  refine v_iload_n dX9_takeString_13 rfl ?_
  refine v_bipush dX9_takeString_14 (by decide) ?_
  refine v_aload_n dX9_takeString_16 rfl ?_
  refine v_getR (k1 := 1) dX9_takeString_17 s_0 fX9_14 rfl ?_
  refine v_getI (ji := 0) dX9_takeString_20 s_1 fX9_71 rfl ?_
  rw [g1]
  refine v_callVl4 dX9_takeString_23 kX9_100 s_31 (Nat.le_of_ble_eq_true rfl) (c_X1_read (by omega) (by decide) (by omega) (fun j a b => by rw [g32, hi.2 j a b]; exact hf.2 j a b) (fun z1 z2 => ?_) (fun z => ?_))
  · rw [g32] at z2
    rw [g32, es]
    exact v_lreturn dX9_takeString_26 rfl (h1 (by omega) (fun j a b => by have := z2 j a b; rw [hi.2 j a b] at this; exact this))
  · rw [g32] at z
    exact v_lreturn dX9_takeString_26 rfl (h0 (fun y => z ⟨by omega, fun j a b => by rw [hi.2 j a b]; exact y.2 j a b⟩))
end
