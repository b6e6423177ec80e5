theorem gI_aI_ne9 {σ : S9} {k : Nat} {i j x : Int} (h : i ≠ j) : gI (sI σ k i x) k j = gI σ k j := by rw [gI_aI_eq, up9_ne (fun e => h e.symm)]
section
variable {d : Nat} {n R : Int} {lf rg : Int → List Int} {wt lev : Int → Int} {stt : Int} {ap : Int → UInt32} {str : List Int} {σ : S9}
theorem c_X10_stringLength {P : Int → S9 → Prop} (c : SyMn σ n R lf rg wt lev stt ap str) (h : P str.length σ) : Cc d mX10_stringLength [.ref 97] σ (QI P) := by
  refine Cc_of (by decide +kernel) (fun _ => Nat.le_of_ble_eq_true rfl) rfl (lv := [_]) ?_
  refine v_aload_n dX10_stringLength_0 rfl ?_
  refine v_getI (ji := 11) dX10_stringLength_1 s_97 fX10_124 rfl ?_
  rw [c.2.2.2.1]
  exact v_ireturn dX10_stringLength_4 rfl (h)
theorem c_X10_stringLetter {P : Int → S9 → Prop} {p : Int} (v : Va n R lf rg wt lev stt ap str) (c : SyMn σ n R lf rg wt lev stt ap str) (hp : (-2147483648 ≤ p ∧ p < 2147483648)) (h1 : 0 ≤ p ∧ p < str.length → P (at9 str p) σ) (h0 : ¬ (0 ≤ p ∧ p < str.length) → P (-6) σ) : Cc (d + 1) mX10_stringLetter [.ref 97, .int (iI p)] σ (QI P) := by
  have lstr := v.2.2.2.2.2.2
  refine Cc_of (by decide +kernel) (fun _ => Nat.le_of_ble_eq_true rfl) rfl (lv := [_, _]) ?_
  refine v_iload_n dX10_stringLetter_0 rfl ?_
  refine v_i2l dX10_stringLetter_1 (by omega) ?_
  refine v_lconst0 dX10_stringLetter_2 ?_
  refine v_aload_n dX10_stringLetter_3 rfl ?_
  refine v_getI (ji := 11) dX10_stringLetter_4 s_97 fX10_124 rfl ?_
  rw [c.2.2.2.1]
  refine v_iconst dX10_stringLetter_7 ?_
  refine v_isub dX10_stringLetter_8 ?_
  refine v_i2l dX10_stringLetter_9 (by omega) ?_
  refine v_callSi3 dX10_stringLetter_10 kX10_115 (Nat.le_of_ble_eq_true rfl) (c_X10_in (by omega) (by omega) (by omega) (fun z => ?_) (fun z => ?_))
  · refine v_if_eq (tgt := 25) dX10_stringLetter_13 (by decide) (by decide) (fun q13 => absurd q13 (by decide)) (fun q13 => ?_)
    refine v_aload_n dX10_stringLetter_16 rfl ?_
    refine v_getR (k1 := 104) dX10_stringLetter_17 s_97 fX10_35 rfl ?_
    refine v_iload_n dX10_stringLetter_20 rfl ?_
    refine v_iaload dX10_stringLetter_21 s_104 (by omega) ?_
    rw [c.tt p (by omega) (by omega)]
    refine v_goto (tgt := 27) dX10_stringLetter_22 (by decide) ?_
    exact v_ireturn dX10_stringLetter_27 rfl (by first | exact h1 (by omega) | exact h0 (by omega))
  · refine v_if_eq (tgt := 25) dX10_stringLetter_13 (by decide) (by decide) (fun q13 => ?_) (fun q13 => absurd q13 (by decide))
    refine v_bipush dX10_stringLetter_25 (by decide) ?_
    exact v_ireturn dX10_stringLetter_27 rfl (by first | exact h1 (by omega) | exact h0 (by omega))
theorem c_X10_stringWeight {P : Int → S9 → Prop} (v : Va n R lf rg wt lev stt ap str) (c : SyMn σ n R lf rg wt lev stt ap str) (h : P (wt9 (gI σ 100) str) σ) : Cc d mX10_stringWeight [.ref 97] σ (QI P) := by
  have ostr := v.2.2.2.2.2
  have hn := v.1
  have lstr := ostr.2
  refine Cc_of (by decide +kernel) (fun _ => Nat.le_of_ble_eq_true rfl) rfl (lv := [_, _, _]) ?_
  have K : ∀ (m : Nat) (k : Int), 0 ≤ k → k + m = str.length → Vv d mX10_stringWeight 4 [.ref 97, .int (iI (wt9 (gI σ 100) (str.take k.toNat))), .int (iI k)] [] σ (QI P) := by
    intro m
    induction m with
    | zero =>
      intro k hk hm
      refine v_iload_n dX10_stringWeight_4 rfl ?_
      refine v_aload_n dX10_stringWeight_5 rfl ?_
      refine v_getI (ji := 11) dX10_stringWeight_6 s_97 fX10_124 rfl ?_
      rw [c.2.2.2.1]
      refine v_icmp_ge (tgt := 32) dX10_stringWeight_9 (by decide) (by omega) (fun q9 => ?_) (fun q9 => absurd q9 (by omega))
      refine v_iload_n dX10_stringWeight_32 rfl ?_
      exact v_ireturn dX10_stringWeight_33 rfl (by rw [List.take_of_length_le (by omega)]; exact h)
    | succ m ih =>
      intro k hk hm
      have ha := ostr.1 _ (at9_mem (xs := str) (p := k) (by omega))
      have ih := ih (k + 1) (by omega) (by omega)
      rw [at9_take (by omega), wt9_snoc] at ih
      refine v_iload_n dX10_stringWeight_4 rfl ?_
      refine v_aload_n dX10_stringWeight_5 rfl ?_
      refine v_getI (ji := 11) dX10_stringWeight_6 s_97 fX10_124 rfl ?_
      rw [c.2.2.2.1]
      refine v_icmp_ge (tgt := 32) dX10_stringWeight_9 (by decide) (by omega) (fun q9 => absurd q9 (by omega)) (fun q9 => ?_)
      refine v_iload_n dX10_stringWeight_12 rfl ?_
      refine v_aload_n dX10_stringWeight_13 rfl ?_
      refine v_getR (k1 := 100) dX10_stringWeight_14 s_97 fX10_22 rfl ?_
      refine v_aload_n dX10_stringWeight_17 rfl ?_
      refine v_getR (k1 := 104) dX10_stringWeight_18 s_97 fX10_35 rfl ?_
      refine v_iload_n dX10_stringWeight_21 rfl ?_
      refine v_iaload dX10_stringWeight_22 s_104 (by omega) ?_
      rw [c.tt k hk (by omega)]
      refine v_iaload dX10_stringWeight_23 s_100 (by omega) ?_
      refine v_iadd dX10_stringWeight_24 ?_
      refine v_istore_n (lv' := [_, _, _]) dX10_stringWeight_25 (Nat.le_of_ble_eq_true rfl) rfl rfl ?_
      refine v_iinc (lv' := [_, _, _]) dX10_stringWeight_26 rfl (Nat.le_of_ble_eq_true rfl) rfl rfl ?_
      refine v_goto (tgt := 4) dX10_stringWeight_29 (by decide) ?_
      exact ih
  refine v_iconst dX10_stringWeight_0 ?_
  refine v_istore_n (lv' := [_, _, _]) dX10_stringWeight_1 (Nat.le_of_ble_eq_true rfl) rfl rfl ?_
  refine v_iconst dX10_stringWeight_2 ?_
  refine v_istore_n (lv' := [_, _, _]) dX10_stringWeight_3 (Nat.le_of_ble_eq_true rfl) rfl rfl ?_
  exact K str.length 0 (by omega) (by omega)
theorem c_X10_loopStep {P : Int → S9 → Prop} {k a b : Int} {f g : Int → Int} (hv : LoV k f g) (hc : LoM σ k f g) (ha : (-2147483648 ≤ a ∧ a < 2147483648)) (hb : (-2147483648 ≤ b ∧ b < 2147483648)) (h1 : ¬ (0 ≤ b ∧ b ≤ 1) → P (-1) σ) (h2 : (0 ≤ b ∧ b ≤ 1) → ¬ (0 ≤ a ∧ a < k) → P (-6) σ) (h3 : (0 ≤ b ∧ b ≤ 1) → (0 ≤ a ∧ a < k) → P (if b = 0 then f a else g a) σ) : Cc (d + 1) mX10_loopStep [.ref 97, .int (iI a), .int (iI b)] σ (QI P) := by
  have hk := hv.1
  refine Cc_of (by decide +kernel) (fun _ => Nat.le_of_ble_eq_true rfl) rfl (lv := [_, _, _]) ?_
  refine v_iload_n dX10_loopStep_0 rfl ?_
  refine v_i2l dX10_loopStep_1 (by omega) ?_
  refine v_lconst0 dX10_loopStep_2 ?_
  refine v_lconst1 dX10_loopStep_3 ?_
  refine v_callSi3 dX10_loopStep_4 kX10_115 (Nat.le_of_ble_eq_true rfl) (c_X10_in (by omega) (by omega) (by omega) (fun z => ?_) (fun z => ?_))
  · refine v_if_ne (tgt := 12) dX10_loopStep_7 (by decide) (by decide) (fun q7 => ?_) (fun q7 => absurd q7 (by decide))
    refine v_iload_n dX10_loopStep_12 rfl ?_
    refine v_i2l dX10_loopStep_13 (by omega) ?_
    refine v_lconst0 dX10_loopStep_14 ?_
    refine v_aload_n dX10_loopStep_15 rfl ?_
    refine v_getI (ji := 12) dX10_loopStep_16 s_97 fX10_127 rfl ?_
    rw [hc.1]
    refine v_iconst dX10_loopStep_19 ?_
    refine v_isub dX10_loopStep_20 ?_
    refine v_i2l dX10_loopStep_21 (by omega) ?_
    refine v_callSi3 dX10_loopStep_22 kX10_115 (Nat.le_of_ble_eq_true rfl) (c_X10_in (by omega) (by omega) (by omega) (fun y => ?_) (fun y => ?_))
    · refine v_if_eq (tgt := 50) dX10_loopStep_25 (by decide) (by decide) (fun q25 => absurd q25 (by decide)) (fun q25 => ?_)
      refine v_iload_n dX10_loopStep_28 rfl ?_
      refine v_if_ne (tgt := 41) dX10_loopStep_29 (by decide) (by omega) (fun q29 => ?_) (fun q29 => ?_)
      · refine v_aload_n dX10_loopStep_41 rfl ?_
        refine v_getR (k1 := 106) dX10_loopStep_42 s_97 fX10_41 rfl ?_
        refine v_iload_n dX10_loopStep_45 rfl ?_
        refine v_iaload dX10_loopStep_46 s_106 (by omega) ?_
        rw [(hc.2 a (by omega) (by omega)).2]
        refine v_goto (tgt := 52) dX10_loopStep_47 (by decide) ?_
        exact v_ireturn dX10_loopStep_52 rfl (by first | exact h2 (by omega) (by omega) | (have h := h3 (by omega) (by omega); rw [if_pos q29] at h; exact h) | (have h := h3 (by omega) (by omega); rw [if_neg q29] at h; exact h))
      · refine v_aload_n dX10_loopStep_32 rfl ?_
        refine v_getR (k1 := 105) dX10_loopStep_33 s_97 fX10_38 rfl ?_
        refine v_iload_n dX10_loopStep_36 rfl ?_
        refine v_iaload dX10_loopStep_37 s_105 (by omega) ?_
        rw [(hc.2 a (by omega) (by omega)).1]
        refine v_goto (tgt := 52) dX10_loopStep_38 (by decide) ?_
        exact v_ireturn dX10_loopStep_52 rfl (by first | exact h2 (by omega) (by omega) | (have h := h3 (by omega) (by omega); rw [if_pos q29] at h; exact h) | (have h := h3 (by omega) (by omega); rw [if_neg q29] at h; exact h))
    · refine v_if_eq (tgt := 50) dX10_loopStep_25 (by decide) (by decide) (fun q25 => ?_) (fun q25 => absurd q25 (by decide))
      refine v_bipush dX10_loopStep_50 (by decide) ?_
      exact v_ireturn dX10_loopStep_52 rfl (by first | exact h2 (by omega) (by omega) | (have h := h3 (by omega) (by omega); rw [if_pos q29] at h; exact h) | (have h := h3 (by omega) (by omega); rw [if_neg q29] at h; exact h))
  · refine v_if_ne (tgt := 12) dX10_loopStep_7 (by decide) (by decide) (fun q7 => absurd q7 (by decide)) (fun q7 => ?_)
    refine v_iconst dX10_loopStep_10 ?_
    exact v_ireturn dX10_loopStep_11 rfl (h1 (by omega))
theorem c_X10_reset {P : Int → S9 → Prop} {m : Int} (c : SyMn σ n R lf rg wt lev stt ap str) (hm : (-2147483648 ≤ m ∧ m < 2147483648)) (h1 : ¬ (1 ≤ m ∧ m ≤ 6) → P (-1) σ) (h2 : (1 ≤ m ∧ m ≤ 6) → ∀ τ, eq9 (fun k => k ≠ 97 ∧ k ≠ 100 ∧ k ≠ 101 ∧ k ≠ 102) σ τ → gI τ 97 = up9 (up9 (up9 (up9 (up9 (gI σ 97) 0 m) 1 0) 11 0) 12 0) 6 0 → (∀ x, 0 ≤ x → x < 6 → gI τ 100 x = 1 ∧ gI τ 101 x = 0 ∧ gF τ 102 x = 0x3f800000) → P n τ) : Cc (d + 1) mX10_reset [.ref 97, .int (iI m)] σ (QI P) := by
  refine Cc_of (by decide +kernel) (fun _ => Nat.le_of_ble_eq_true rfl) rfl (lv := [_, _, _, _]) ?_
  have K : (1 ≤ m ∧ m ≤ 6) → ∀ (q : Nat) (k : Int) (τ : S9), 0 ≤ k → k + q = 6 → eq9 (fun k => k ≠ 97 ∧ k ≠ 100 ∧ k ≠ 101 ∧ k ≠ 102) σ τ → gI τ 97 = up9 (up9 (up9 (up9 (up9 (gI σ 97) 0 m) 1 0) 11 0) 12 0) 6 0 → (∀ x, 0 ≤ x → x < k → gI τ 100 x = 1 ∧ gI τ 101 x = 0 ∧ gF τ 102 x = 0x3f800000) → Vv (d + 1) mX10_reset 46 [.ref 97, .int (iI m), .int (iI n), .int (iI k)] [] τ (QI P) := by
    intro hm2 q
    induction q with
    | zero =>
      intro k τ hk hq he h97 hI
      refine v_iload_n dX10_reset_46 rfl ?_
      refine v_bipush dX10_reset_47 (by decide) ?_
      refine v_icmp_ge (tgt := 79) dX10_reset_49 (by decide) (by omega) (fun q49 => ?_) (fun q49 => absurd q49 (by omega))
      refine v_iload_n dX10_reset_79 rfl ?_
      exact v_ireturn dX10_reset_80 rfl (h2 hm2 τ he h97 (fun x a b => hI x a (by omega)))
    | succ q ih =>
      intro k τ hk hq he h97 hI
      refine v_iload_n dX10_reset_46 rfl ?_
      refine v_bipush dX10_reset_47 (by decide) ?_
      refine v_icmp_ge (tgt := 79) dX10_reset_49 (by decide) (by omega) (fun q49 => absurd q49 (by omega)) (fun q49 => ?_)
      refine v_aload_n dX10_reset_52 rfl ?_
      refine v_getR (k1 := 100) dX10_reset_53 s_97 fX10_22 rfl ?_
      refine v_iload_n dX10_reset_56 rfl ?_
      refine v_iconst dX10_reset_57 ?_
      refine v_iastore dX10_reset_58 s_100 (by omega) ?_
      refine v_aload_n dX10_reset_59 rfl ?_
      refine v_getR (k1 := 101) dX10_reset_60 s_97 fX10_25 rfl ?_
      refine v_iload_n dX10_reset_63 rfl ?_
      refine v_iconst dX10_reset_64 ?_
      refine v_iastore dX10_reset_65 s_101 (by omega) ?_
      refine v_aload_n dX10_reset_66 rfl ?_
      refine v_getR (k1 := 102) dX10_reset_67 s_97 fX10_28 rfl ?_
      refine v_iload_n dX10_reset_70 rfl ?_
      refine v_fconst1 dX10_reset_71 ?_
      refine v_fastore dX10_reset_72 s_102 (by omega) ?_
      refine v_iinc (lv' := [_, _, _, _]) dX10_reset_73 rfl (Nat.le_of_ble_eq_true rfl) rfl rfl ?_
      refine v_goto (tgt := 46) dX10_reset_76 (by decide) ?_
      refine ih (k + 1) _ (by omega) (by omega) (he.tr (((eq9.aI (by decide)).tr (eq9.aI (by decide))).tr (eq9.aF (by decide)))) ?_ (fun x a b => ?_)
      · rw [gI_aF, gI_aI_ne (by decide), gI_aI_ne (by decide)]; exact h97
      · rw [gI_aF, gI_aF, gF_aF_eq, gI_aI_ne (by decide), gI_aI_eq, gI_aI_eq, gI_aI_ne (by decide)]
        show up9 (gI τ 100) k 1 x = 1 ∧ up9 (gI τ 101) k 0 x = 0 ∧ up9 (gF τ 102) k 0x3f800000 x = 0x3f800000
        by_cases e : x = k
        · rw [e, up9_eq, up9_eq, up9_eq]; exact ⟨rfl, rfl, rfl⟩
        · rw [up9_ne e, up9_ne e, up9_ne e]; exact hI x a (by omega)
  refine v_iload_n dX10_reset_0 rfl ?_
  refine v_i2l dX10_reset_1 (by omega) ?_
  refine v_lconst1 dX10_reset_2 ?_
  refine v_ldc2 dX10_reset_3 wX10_122 ?_
  refine v_callSi3 dX10_reset_6 kX10_115 (Nat.le_of_ble_eq_true rfl) (c_X10_in (by omega) (by omega) (by omega) (fun z => ?_) (fun z => ?_))
  · refine v_if_ne (tgt := 14) dX10_reset_9 (by decide) (by decide) (fun q9 => ?_) (fun q9 => absurd q9 (by decide))
    refine v_aload_n dX10_reset_14 rfl ?_
    refine v_getI (ji := 0) dX10_reset_15 s_97 fX10_9 rfl ?_
    rw [c.1]
    refine v_istore_n (lv' := [_, _, _, _]) dX10_reset_18 (Nat.le_of_ble_eq_true rfl) rfl rfl ?_
    refine v_aload_n dX10_reset_19 rfl ?_
    refine v_iload_n dX10_reset_20 rfl ?_
    refine v_putI (ji := 0) dX10_reset_21 s_97 pfX10_9 rfl ?_
    refine v_aload_n dX10_reset_24 rfl ?_
    refine v_iconst dX10_reset_25 ?_
    refine v_putI (ji := 1) dX10_reset_26 s_97 pfX10_119 rfl ?_
    refine v_aload_n dX10_reset_29 rfl ?_
    refine v_iconst dX10_reset_30 ?_
    refine v_putI (ji := 11) dX10_reset_31 s_97 pfX10_124 rfl ?_
    refine v_aload_n dX10_reset_34 rfl ?_
    refine v_iconst dX10_reset_35 ?_
    refine v_putI (ji := 12) dX10_reset_36 s_97 pfX10_127 rfl ?_
    refine v_aload_n dX10_reset_39 rfl ?_
    refine v_iconst dX10_reset_40 ?_
    refine v_putI (ji := 6) dX10_reset_41 s_97 pfX10_130 rfl ?_
    refine v_iconst dX10_reset_44 ?_
    refine v_istore_n (lv' := [_, _, _, _]) dX10_reset_45 (Nat.le_of_ble_eq_true rfl) rfl rfl ?_
    refine K (by omega) 6 0 _ (by omega) (by omega) (((((eq9.aI (by decide)).tr (eq9.aI (by decide))).tr (eq9.aI (by decide))).tr (eq9.aI (by decide))).tr (eq9.aI (by decide))) ?_ (fun x a b => by omega)
    rw [gI_aI_eq, gI_aI_eq, gI_aI_eq, gI_aI_eq, gI_aI_eq]
  · refine v_if_ne (tgt := 14) dX10_reset_9 (by decide) (by decide) (fun q9 => absurd q9 (by decide)) (fun q9 => ?_)
    refine v_iconst dX10_reset_12 ?_
    exact v_ireturn dX10_reset_13 rfl (h1 (by omega))
theorem c_X10_addRule {P : Int → S9 → Prop} {k : Int} {f : Int → Int} (v : Va n R lf rg wt lev stt ap str) (c : SyMn σ n R lf rg wt lev stt ap str) (hi : InM σ k f) (hf : InV k f) (h1 : R = 8 → P (-4) (sI σ 97 9 0)) (h2 : R < 8 → (∀ a, ¬ isR k f n a) → P (-5) (sI σ 97 9 0)) (h3 : R < 8 → ∀ a, isR k f n a → ∀ τ, eq9 (fun k => k ≠ 97 ∧ k ≠ 98 ∧ k ≠ 99) σ τ → gI τ 97 = up9 (up9 (gI σ 97) 9 0) 1 (R + 1) → gI τ 98 = up9 (up9 (gI σ 98) (2 * R) a) (2 * R + 1) (k - a - 1) → (∀ j, 0 ≤ j → j < a → gI τ 99 (12 * R + j) = f j - 97) → (∀ j, 0 ≤ j → j < k - a - 1 → gI τ 99 (12 * R + 6 + j) = f (a + 1 + j) - 97) → (∀ i, i < 12 * R → gI τ 99 i = gI σ 99 i) → P R τ) : Cc (d + 4) mX10_addRule [.ref 97] σ (QI P) := by
  have hn := v.1
  have hR := v.2.1
  have hk := hf.1
  have fx : ∀ i, gI (sI σ 97 9 0) 97 i = up9 (gI σ 97) 9 0 i := fun i => by rw [gI_aI_eq]
  have f103 : ∀ z, gI (sI σ 97 9 z) 103 = gI σ 103 := fun z => gI_aI_ne (by decide)
  have eK : sI (sI σ 97 9 0) 97 9 k = σ := by
    rw [sI_sI]
    refine S9ext (fun i => ?_) (fun _ => rfl) (fun _ => rfl) (fun _ => rfl)
    by_cases e1 : i = 97
    · subst e1
      rw [gI_aI_eq]
      funext y
      by_cases e2 : y = 9
      · rw [e2, up9_eq, hi.1]
      · rw [up9_ne e2]
    · rw [gI_aI_ne e1]
  refine Cc_of (by decide +kernel) (fun _ => Nat.le_of_ble_eq_true rfl) rfl (lv := [_, _, _, _, _]) ?_
  have uniq : ∀ b, 0 ≤ b → (∀ j, 0 ≤ j → j < b → 0 ≤ f j - 97 ∧ f j - 97 < n) → (k ≤ b ∨ ¬ (0 ≤ f b - 97 ∧ f b - 97 < n)) → ∀ a, isR k f n a → a = b := fun b b0 b1 b2 a ha => by
    obtain ⟨a1, a2, a3, a4, a5, a6, a7⟩ := ha
    refine Classical.byContradiction (fun q => ?_)
    by_cases e : a < b
    · have := b1 a (by omega) e
      omega
    · rcases b2 with b2 | b2
      · omega
      · exact b2 (a6 b b0 (by omega))
  have K2 : R < 8 → ∀ a, isR k f n a → ∀ (m : Nat) (j : Int) (τ : S9), 0 ≤ j → j + m = k - a - 1 → eq9 (fun k => k ≠ 97 ∧ k ≠ 98 ∧ k ≠ 99) σ τ → gI τ 97 = up9 (gI σ 97) 9 0 → gI τ 98 = gI σ 98 → (∀ j, 0 ≤ j → j < a → gI τ 99 (12 * R + j) = f j - 97) → (∀ i, 0 ≤ i → i < j → gI τ 99 (12 * R + 6 + i) = f (a + 1 + i) - 97) → (∀ i, i < 12 * R → gI τ 99 i = gI σ 99 i) → Vv (d + 4) mX10_addRule 143 [.ref 97, .int (iI k), .int (iI a), .int (iI (k - a - 1)), .int (iI j)] [] τ (QI P) := by
    intro hR8 a ha m
    have haa := ha
    obtain ⟨a1, a2, a3, a4, a5, a6, a7⟩ := haa
    induction m with
    | zero =>
      intro j τ hj hm he h97 h98 hA hB hC
      have z1 : gI τ 97 1 = R := by rw [h97, up9_ne (by decide)]; exact c.2.1
      refine v_iload dX10_addRule_143 rfl ?_
      refine v_iload_n dX10_addRule_145 rfl ?_
      refine v_icmp_ge (tgt := 187) dX10_addRule_146 (by decide) (by omega) (fun q146 => ?_) (fun q146 => absurd q146 (by omega))
      refine v_aload_n dX10_addRule_187 rfl ?_
      refine v_getR (k1 := 98) dX10_addRule_188 s_97 fX10_15 rfl ?_
      refine v_iconst dX10_addRule_191 ?_
      refine v_aload_n dX10_addRule_192 rfl ?_
      refine v_getI (ji := 1) dX10_addRule_193 s_97 fX10_119 rfl ?_
      rw [z1]
      refine v_imul dX10_addRule_196 ?_
      refine v_iload_n dX10_addRule_197 rfl ?_
      refine v_iastore dX10_addRule_198 s_98 (by omega) ?_
      refine v_aload_n dX10_addRule_199 rfl ?_
      refine v_getR (k1 := 98) dX10_addRule_200 s_97 fX10_15 rfl ?_
      refine v_iconst dX10_addRule_203 ?_
      refine v_aload_n dX10_addRule_204 rfl ?_
      refine v_getI (ji := 1) dX10_addRule_205 s_97 fX10_119 rfl ?_
      rw [gI_aI_ne (by decide), z1]
      refine v_imul dX10_addRule_208 ?_
      refine v_iconst dX10_addRule_209 ?_
      refine v_iadd dX10_addRule_210 ?_
      refine v_iload_n dX10_addRule_211 rfl ?_
      refine v_iastore dX10_addRule_212 s_98 (by omega) ?_
      refine v_aload_n dX10_addRule_213 rfl ?_
      refine v_dup dX10_addRule_214 rfl ?_
      refine v_getI (ji := 1) dX10_addRule_215 s_97 fX10_119 rfl ?_
      rw [gI_aI_ne (by decide), gI_aI_ne (by decide), z1]
      refine v_iconst dX10_addRule_218 ?_
      refine v_iadd dX10_addRule_219 ?_
      refine v_putI (ji := 1) dX10_addRule_220 s_97 pfX10_119 rfl ?_
      refine v_aload_n dX10_addRule_223 rfl ?_
      refine v_getI (ji := 1) dX10_addRule_224 s_97 fX10_119 rfl ?_
      rw [gI_aI_eq, up9_eq]
      refine v_iconst dX10_addRule_227 ?_
      refine v_isub dX10_addRule_228 ?_
      refine v_ireturn dX10_addRule_229 rfl (by
        rw [show R + 1 - 1 = R by omega]
        refine h3 hR8 a ha _ (((he.tr (eq9.aI (by decide))).tr (eq9.aI (by decide))).tr (eq9.aI (by decide))) ?_ ?_ ?_ ?_ ?_
        · rw [gI_aI_eq, gI_aI_ne (by decide), gI_aI_ne (by decide), h97]
        · rw [gI_aI_ne (by decide), gI_aI_eq, gI_aI_eq, h98]
        · intro i x y
          rw [gI_aI_ne (by decide), gI_aI_ne (by decide), gI_aI_ne (by decide)]; exact hA i x y
        · intro i x y
          rw [gI_aI_ne (by decide), gI_aI_ne (by decide), gI_aI_ne (by decide)]; exact hB i x (by omega)
        · intro i x
          rw [gI_aI_ne (by decide), gI_aI_ne (by decide), gI_aI_ne (by decide)]; exact hC i x)
    | succ m ih =>
      intro j τ hj hm he h97 h98 hA hB hC
      have z1 : gI τ 97 1 = R := by rw [h97, up9_ne (by decide)]; exact c.2.1
      have zf : gI τ 103 (a + 1 + j) = f (a + 1 + j) := by rw [(he 103 (by decide)).1]; exact hi.2 _ (by omega) (by omega)
      refine v_iload dX10_addRule_143 rfl ?_
      refine v_iload_n dX10_addRule_145 rfl ?_
      refine v_icmp_ge (tgt := 187) dX10_addRule_146 (by decide) (by omega) (fun q146 => absurd q146 (by omega)) (fun q146 => ?_)
      refine v_aload_n dX10_addRule_149 rfl ?_
      refine v_getR (k1 := 99) dX10_addRule_150 s_97 fX10_19 rfl ?_
      refine v_bipush dX10_addRule_153 (by decide) ?_
      refine v_aload_n dX10_addRule_155 rfl ?_
      refine v_getI (ji := 1) dX10_addRule_156 s_97 fX10_119 rfl ?_
      rw [z1]
      refine v_imul dX10_addRule_159 ?_
      refine v_bipush dX10_addRule_160 (by decide) ?_
      refine v_iadd dX10_addRule_162 ?_
      refine v_iload dX10_addRule_163 rfl ?_
      refine v_iadd dX10_addRule_165 ?_
      refine v_aload_n dX10_addRule_166 rfl ?_
      refine v_getR (k1 := 103) dX10_addRule_167 s_97 fX10_32 rfl ?_
      refine v_iload_n dX10_addRule_170 rfl ?_
      refine v_iconst dX10_addRule_171 ?_
      refine v_iadd dX10_addRule_172 ?_
      refine v_iload dX10_addRule_173 rfl ?_
      refine v_iadd dX10_addRule_175 ?_
      refine v_iaload dX10_addRule_176 s_103 (by omega) ?_
      rw [zf]
      refine v_bipush dX10_addRule_177 (by decide) ?_
      refine v_isub dX10_addRule_179 ?_
      refine v_iastore dX10_addRule_180 s_99 (by omega) ?_
      refine v_iinc (lv' := [_, _, _, _, _]) dX10_addRule_181 rfl (Nat.le_of_ble_eq_true rfl) rfl rfl ?_
      refine v_goto (tgt := 143) dX10_addRule_184 (by decide) ?_
      refine ih (j + 1) _ (by omega) (by omega) (he.tr (eq9.aI (by decide))) (by rw [gI_aI_ne (by decide)]; exact h97) (by rw [gI_aI_ne (by decide)]; exact h98) (fun i x y => ?_) (fun i x y => ?_) (fun i x => ?_)
      · rw [gI_aI_eq, up9_ne (by omega)]; exact hA i x y
      · rw [gI_aI_eq]
        by_cases e : i = j
        · rw [e, up9_eq]
        · rw [up9_ne (by omega)]; exact hB i x (by omega)
      · rw [gI_aI_eq, up9_ne (by omega)]; exact hC i x
  have K1 : R < 8 → ∀ a, isR k f n a → ∀ (m : Nat) (j : Int) (τ : S9), 0 ≤ j → j + m = a → eq9 (fun k => k ≠ 97 ∧ k ≠ 98 ∧ k ≠ 99) σ τ → gI τ 97 = up9 (gI σ 97) 9 0 → gI τ 98 = gI σ 98 → (∀ i, 0 ≤ i → i < j → gI τ 99 (12 * R + i) = f i - 97) → (∀ i, i < 12 * R → gI τ 99 i = gI σ 99 i) → Vv (d + 4) mX10_addRule 103 [.ref 97, .int (iI k), .int (iI a), .int (iI (k - a - 1)), .int (iI j)] [] τ (QI P) := by
    intro hR8 a ha m
    have haa := ha
    obtain ⟨a1, a2, a3, a4, a5, a6, a7⟩ := haa
    induction m with
    | zero =>
      intro j τ hj hm he h97 h98 hA hC
      refine v_iload dX10_addRule_103 rfl ?_
      refine v_iload_n dX10_addRule_105 rfl ?_
      refine v_icmp_ge (tgt := 140) dX10_addRule_106 (by decide) (by omega) (fun q106 => ?_) (fun q106 => absurd q106 (by omega))
      refine v_iconst dX10_addRule_140 ?_
      refine v_istore (lv' := [_, _, _, _, _]) dX10_addRule_141 (Nat.le_of_ble_eq_true rfl) rfl rfl ?_
      exact K2 hR8 a ha (k - a - 1).toNat 0 τ (by omega) (by omega) he h97 h98 (fun i x y => hA i x (by omega)) (fun i x y => by omega) hC
    | succ m ih =>
      intro j τ hj hm he h97 h98 hA hC
      have z1 : gI τ 97 1 = R := by rw [h97, up9_ne (by decide)]; exact c.2.1
      have zf : gI τ 103 j = f j := by rw [(he 103 (by decide)).1]; exact hi.2 _ (by omega) (by omega)
      refine v_iload dX10_addRule_103 rfl ?_
      refine v_iload_n dX10_addRule_105 rfl ?_
      refine v_icmp_ge (tgt := 140) dX10_addRule_106 (by decide) (by omega) (fun q106 => absurd q106 (by omega)) (fun q106 => ?_)
      refine v_aload_n dX10_addRule_109 rfl ?_
      refine v_getR (k1 := 99) dX10_addRule_110 s_97 fX10_19 rfl ?_
      refine v_bipush dX10_addRule_113 (by decide) ?_
      refine v_aload_n dX10_addRule_115 rfl ?_
      refine v_getI (ji := 1) dX10_addRule_116 s_97 fX10_119 rfl ?_
      rw [z1]
      refine v_imul dX10_addRule_119 ?_
      refine v_iload dX10_addRule_120 rfl ?_
      refine v_iadd dX10_addRule_122 ?_
      refine v_aload_n dX10_addRule_123 rfl ?_
      refine v_getR (k1 := 103) dX10_addRule_124 s_97 fX10_32 rfl ?_
      refine v_iload dX10_addRule_127 rfl ?_
      refine v_iaload dX10_addRule_129 s_103 (by omega) ?_
      rw [zf]
      refine v_bipush dX10_addRule_130 (by decide) ?_
      refine v_isub dX10_addRule_132 ?_
      refine v_iastore dX10_addRule_133 s_99 (by omega) ?_
      refine v_iinc (lv' := [_, _, _, _, _]) dX10_addRule_134 rfl (Nat.le_of_ble_eq_true rfl) rfl rfl ?_
      refine v_goto (tgt := 103) dX10_addRule_137 (by decide) ?_
      refine ih (j + 1) _ (by omega) (by omega) (he.tr (eq9.aI (by decide))) (by rw [gI_aI_ne (by decide)]; exact h97) (by rw [gI_aI_ne (by decide)]; exact h98) (fun i x y => ?_) (fun i x => ?_)
      · rw [gI_aI_eq]
        by_cases e : i = j
        · rw [e, up9_eq]
        · rw [up9_ne (by omega)]; exact hA i x (by omega)
      · rw [gI_aI_eq, up9_ne (by omega)]; exact hC i x
  have fin9 : ∀ b b4 : Int, (∀ j, 0 ≤ j → j < b → 0 ≤ f j - 97 ∧ f j - 97 < n) → (∀ j, b + 1 ≤ j → j < b4 → 0 ≤ f j - 97 ∧ f j - 97 < n) → (R < 8 ∧ 1 ≤ b ∧ b ≤ 6 ∧ b < k ∧ f b = 62) → (0 ≤ b4 - (b + 1) ∧ b4 - (b + 1) ≤ 6 ∧ b + 1 + (b4 - (b + 1)) = k) → Vv (d + 4) mX10_addRule 103 [.ref 97, .int (iI k), .int (iI b), .int (iI (b4 - (b + 1))), .int (iI 0)] [] (sI σ 97 9 0) (QI P) := fun b b4 b2 b7 hb hb4 => by
    have ha : isR k f n b := ⟨by omega, by omega, by omega, by omega, by omega, b2, fun j x w => b7 j (by omega) (by omega)⟩
    rw [show b4 - (b + 1) = k - b - 1 by omega]
    exact K1 (by omega) b ha b.toNat 0 (sI σ 97 9 0) (by omega) (by omega) (eq9.aI (by decide)) (gI_aI_eq _ _ _) (gI_aI_ne (by decide)) (fun i x w => by omega) (fun i x => by rw [gI_aI_ne (by decide)])
  have hfe : ∀ b, 0 ≤ b → b < k → gI σ 103 b = f b ∧ 0 ≤ f b ∧ f b ≤ 127 := fun b x y => ⟨hi.2 b x y, hf.2 b x y⟩
  refine v_aload_n dX10_addRule_0 rfl ?_
  refine v_callVi0 dX10_addRule_1 kX10_144 s_97 (Nat.le_of_ble_eq_true rfl) (c_X10_clearInput hi.1 ?_)
  refine v_istore_n (lv' := [_, _, _, _, _]) dX10_addRule_4 (Nat.le_of_ble_eq_true rfl) rfl rfl ?_
  refine v_aload_n dX10_addRule_5 rfl ?_
  refine v_getI (ji := 1) dX10_addRule_6 s_97 fX10_119 rfl ?_
  rw [gI_aI_ne9 (by decide), c.2.1]
  refine v_bipush dX10_addRule_9 (by decide) ?_
  refine v_icmp_ne (tgt := 17) dX10_addRule_11 (by decide) (by omega) (fun q11 => ?_) (fun q11 => ?_)
  · refine v_aload_n dX10_addRule_17 rfl ?_
    refine v_iload_n dX10_addRule_18 rfl ?_
    refine v_putI (ji := 9) dX10_addRule_19 s_97 pfX10_137 rfl ?_
    rw [eK]
    refine v_aload_n dX10_addRule_22 rfl ?_
    refine v_iconst dX10_addRule_23 ?_
    refine v_callVi1 dX10_addRule_24 kX10_148 s_97 (Nat.le_of_ble_eq_true rfl) (c_X10_lettersFrom c.1 (by omega) hi hf (by omega) (fun b b0 b1 b2 b3 => ?_))
    rw [Int.sub_zero]
    refine v_istore_n (lv' := [_, _, _, _, _]) dX10_addRule_27 (Nat.le_of_ble_eq_true rfl) rfl rfl ?_
    refine v_iload_n dX10_addRule_28 rfl ?_
    refine v_aload_n dX10_addRule_29 rfl ?_
    refine v_getI (ji := 9) dX10_addRule_30 s_97 fX10_137 rfl ?_
    rw [hi.1]
    refine v_icmp_ge (tgt := 57) dX10_addRule_33 (by decide) (by omega) (fun q33 => ?_) (fun q33 => ?_)
    · refine v_iconst dX10_addRule_57 ?_
      refine v_istore_n (lv' := [_, _, _, _, _]) dX10_addRule_58 (Nat.le_of_ble_eq_true rfl) rfl rfl ?_
      refine v_aload_n dX10_addRule_59 rfl ?_
      refine v_iconst dX10_addRule_60 ?_
      refine v_putI (ji := 9) dX10_addRule_61 s_97 pfX10_137 rfl ?_
      refine v_iload_n dX10_addRule_64 rfl ?_
      refine v_i2l dX10_addRule_65 (by omega) ?_
      refine v_lconst1 dX10_addRule_66 ?_
      refine v_ldc2 dX10_addRule_67 wX10_122 ?_
      refine v_callSi3 dX10_addRule_70 kX10_115 (Nat.le_of_ble_eq_true rfl) (c_X10_in (by omega) (by omega) (by omega) (fun y => ?_) (fun y => ?_))
      · refine v_if_eq (tgt := 97) dX10_addRule_73 (by decide) (by decide) (fun q73 => absurd q73 (by decide)) (fun q73 => ?_)
        refine v_iload_n dX10_addRule_76 rfl ?_
        refine v_i2l dX10_addRule_77 (by omega) ?_
        refine v_lconst0 dX10_addRule_78 ?_
        refine v_ldc2 dX10_addRule_79 wX10_122 ?_
        refine v_callSi3 dX10_addRule_82 kX10_115 (Nat.le_of_ble_eq_true rfl) (c_X10_in (by omega) (by omega) (by omega) (fun x => ?_) (fun x => ?_))
        · refine v_if_eq (tgt := 97) dX10_addRule_85 (by decide) (by decide) (fun q85 => absurd q85 (by decide)) (fun q85 => ?_)
          refine v_iload_n dX10_addRule_88 rfl ?_
          refine v_iconst dX10_addRule_89 ?_
          refine v_iadd dX10_addRule_90 ?_
          refine v_iload_n dX10_addRule_91 rfl ?_
          refine v_iadd dX10_addRule_92 ?_
          refine v_iload_n dX10_addRule_93 rfl ?_
          refine v_icmp_eq (tgt := 100) dX10_addRule_94 (by decide) (by omega) (fun q94 => ?_) (fun q94 => ?_)
          · refine v_iconst dX10_addRule_100 ?_
            refine v_istore (lv' := [_, _, _, _, _]) dX10_addRule_101 (Nat.le_of_ble_eq_true rfl) rfl rfl ?_
            first
            | (exfalso; omega)
            | exact fin9 b b4 b2 b7 (by omega) (by omega)
          · refine v_bipush dX10_addRule_97 (by decide) ?_
            exact v_ireturn dX10_addRule_99 rfl (h2 (by omega) (fun a ha => by
      have e := uniq b b0 b2 b3 a ha
      obtain ⟨a1, a2, a3, a4, a5, a6, a7⟩ := ha
      subst e
      first
      | omega
      | (rcases b8 with b8 | b8
         · omega
         · by_cases q : b4 < k
           · exact b8 (a7 b4 (by omega) q)
           · omega)))
        · refine v_if_eq (tgt := 97) dX10_addRule_85 (by decide) (by decide) (fun q85 => ?_) (fun q85 => absurd q85 (by decide))
          refine v_bipush dX10_addRule_97 (by decide) ?_
          exact v_ireturn dX10_addRule_99 rfl (h2 (by omega) (fun a ha => by
      have e := uniq b b0 b2 b3 a ha
      obtain ⟨a1, a2, a3, a4, a5, a6, a7⟩ := ha
      subst e
      first
      | omega
      | (rcases b8 with b8 | b8
         · omega
         · by_cases q : b4 < k
           · exact b8 (a7 b4 (by omega) q)
           · omega)))
      · refine v_if_eq (tgt := 97) dX10_addRule_73 (by decide) (by decide) (fun q73 => ?_) (fun q73 => absurd q73 (by decide))
        refine v_bipush dX10_addRule_97 (by decide) ?_
        exact v_ireturn dX10_addRule_99 rfl (h2 (by omega) (fun a ha => by
      have e := uniq b b0 b2 b3 a ha
      obtain ⟨a1, a2, a3, a4, a5, a6, a7⟩ := ha
      subst e
      first
      | omega
      | (rcases b8 with b8 | b8
         · omega
         · by_cases q : b4 < k
           · exact b8 (a7 b4 (by omega) q)
           · omega)))
    · refine v_aload_n dX10_addRule_36 rfl ?_
      refine v_getR (k1 := 103) dX10_addRule_37 s_97 fX10_32 rfl ?_
      refine v_iload_n dX10_addRule_40 rfl ?_
      refine v_iaload dX10_addRule_41 s_103 (by omega) ?_
      rw [(hfe b b0 (by omega)).1]
      have hfb := (hfe b b0 (by omega)).2
      refine v_bipush dX10_addRule_42 (by decide) ?_
      refine v_icmp_ne (tgt := 57) dX10_addRule_44 (by decide) (by omega) (fun q44 => ?_) (fun q44 => ?_)
      · refine v_iconst dX10_addRule_57 ?_
        refine v_istore_n (lv' := [_, _, _, _, _]) dX10_addRule_58 (Nat.le_of_ble_eq_true rfl) rfl rfl ?_
        refine v_aload_n dX10_addRule_59 rfl ?_
        refine v_iconst dX10_addRule_60 ?_
        refine v_putI (ji := 9) dX10_addRule_61 s_97 pfX10_137 rfl ?_
        refine v_iload_n dX10_addRule_64 rfl ?_
        refine v_i2l dX10_addRule_65 (by omega) ?_
        refine v_lconst1 dX10_addRule_66 ?_
        refine v_ldc2 dX10_addRule_67 wX10_122 ?_
        refine v_callSi3 dX10_addRule_70 kX10_115 (Nat.le_of_ble_eq_true rfl) (c_X10_in (by omega) (by omega) (by omega) (fun y => ?_) (fun y => ?_))
        · refine v_if_eq (tgt := 97) dX10_addRule_73 (by decide) (by decide) (fun q73 => absurd q73 (by decide)) (fun q73 => ?_)
          refine v_iload_n dX10_addRule_76 rfl ?_
          refine v_i2l dX10_addRule_77 (by omega) ?_
          refine v_lconst0 dX10_addRule_78 ?_
          refine v_ldc2 dX10_addRule_79 wX10_122 ?_
          refine v_callSi3 dX10_addRule_82 kX10_115 (Nat.le_of_ble_eq_true rfl) (c_X10_in (by omega) (by omega) (by omega) (fun x => ?_) (fun x => ?_))
          · refine v_if_eq (tgt := 97) dX10_addRule_85 (by decide) (by decide) (fun q85 => absurd q85 (by decide)) (fun q85 => ?_)
            refine v_iload_n dX10_addRule_88 rfl ?_
            refine v_iconst dX10_addRule_89 ?_
            refine v_iadd dX10_addRule_90 ?_
            refine v_iload_n dX10_addRule_91 rfl ?_
            refine v_iadd dX10_addRule_92 ?_
            refine v_iload_n dX10_addRule_93 rfl ?_
            refine v_icmp_eq (tgt := 100) dX10_addRule_94 (by decide) (by omega) (fun q94 => ?_) (fun q94 => ?_)
            · refine v_iconst dX10_addRule_100 ?_
              refine v_istore (lv' := [_, _, _, _, _]) dX10_addRule_101 (Nat.le_of_ble_eq_true rfl) rfl rfl ?_
              first
              | (exfalso; omega)
              | exact fin9 b b4 b2 b7 (by omega) (by omega)
            · refine v_bipush dX10_addRule_97 (by decide) ?_
              exact v_ireturn dX10_addRule_99 rfl (h2 (by omega) (fun a ha => by
      have e := uniq b b0 b2 b3 a ha
      obtain ⟨a1, a2, a3, a4, a5, a6, a7⟩ := ha
      subst e
      first
      | omega
      | (rcases b8 with b8 | b8
         · omega
         · by_cases q : b4 < k
           · exact b8 (a7 b4 (by omega) q)
           · omega)))
          · refine v_if_eq (tgt := 97) dX10_addRule_85 (by decide) (by decide) (fun q85 => ?_) (fun q85 => absurd q85 (by decide))
            refine v_bipush dX10_addRule_97 (by decide) ?_
            exact v_ireturn dX10_addRule_99 rfl (h2 (by omega) (fun a ha => by
      have e := uniq b b0 b2 b3 a ha
      obtain ⟨a1, a2, a3, a4, a5, a6, a7⟩ := ha
      subst e
      first
      | omega
      | (rcases b8 with b8 | b8
         · omega
         · by_cases q : b4 < k
           · exact b8 (a7 b4 (by omega) q)
           · omega)))
        · refine v_if_eq (tgt := 97) dX10_addRule_73 (by decide) (by decide) (fun q73 => ?_) (fun q73 => absurd q73 (by decide))
          refine v_bipush dX10_addRule_97 (by decide) ?_
          exact v_ireturn dX10_addRule_99 rfl (h2 (by omega) (fun a ha => by
      have e := uniq b b0 b2 b3 a ha
      obtain ⟨a1, a2, a3, a4, a5, a6, a7⟩ := ha
      subst e
      first
      | omega
      | (rcases b8 with b8 | b8
         · omega
         · by_cases q : b4 < k
           · exact b8 (a7 b4 (by omega) q)
           · omega)))
      · refine v_aload_n dX10_addRule_47 rfl ?_
        refine v_iload_n dX10_addRule_48 rfl ?_
        refine v_iconst dX10_addRule_49 ?_
        refine v_iadd dX10_addRule_50 ?_
        refine v_callVi1 dX10_addRule_51 kX10_148 s_97 (Nat.le_of_ble_eq_true rfl) (c_X10_lettersFrom c.1 (by omega) hi hf (by omega) (fun b4 b5 b6 b7 b8 => ?_))
        refine v_goto (tgt := 58) dX10_addRule_54 (by decide) ?_
        refine v_istore_n (lv' := [_, _, _, _, _]) dX10_addRule_58 (Nat.le_of_ble_eq_true rfl) rfl rfl ?_
        refine v_aload_n dX10_addRule_59 rfl ?_
        refine v_iconst dX10_addRule_60 ?_
        refine v_putI (ji := 9) dX10_addRule_61 s_97 pfX10_137 rfl ?_
        refine v_iload_n dX10_addRule_64 rfl ?_
        refine v_i2l dX10_addRule_65 (by omega) ?_
        refine v_lconst1 dX10_addRule_66 ?_
        refine v_ldc2 dX10_addRule_67 wX10_122 ?_
        refine v_callSi3 dX10_addRule_70 kX10_115 (Nat.le_of_ble_eq_true rfl) (c_X10_in (by omega) (by omega) (by omega) (fun y => ?_) (fun y => ?_))
        · refine v_if_eq (tgt := 97) dX10_addRule_73 (by decide) (by decide) (fun q73 => absurd q73 (by decide)) (fun q73 => ?_)
          refine v_iload_n dX10_addRule_76 rfl ?_
          refine v_i2l dX10_addRule_77 (by omega) ?_
          refine v_lconst0 dX10_addRule_78 ?_
          refine v_ldc2 dX10_addRule_79 wX10_122 ?_
          refine v_callSi3 dX10_addRule_82 kX10_115 (Nat.le_of_ble_eq_true rfl) (c_X10_in (by omega) (by omega) (by omega) (fun x => ?_) (fun x => ?_))
          · refine v_if_eq (tgt := 97) dX10_addRule_85 (by decide) (by decide) (fun q85 => absurd q85 (by decide)) (fun q85 => ?_)
            refine v_iload_n dX10_addRule_88 rfl ?_
            refine v_iconst dX10_addRule_89 ?_
            refine v_iadd dX10_addRule_90 ?_
            refine v_iload_n dX10_addRule_91 rfl ?_
            refine v_iadd dX10_addRule_92 ?_
            refine v_iload_n dX10_addRule_93 rfl ?_
            refine v_icmp_eq (tgt := 100) dX10_addRule_94 (by decide) (by omega) (fun q94 => ?_) (fun q94 => ?_)
            · refine v_iconst dX10_addRule_100 ?_
              refine v_istore (lv' := [_, _, _, _, _]) dX10_addRule_101 (Nat.le_of_ble_eq_true rfl) rfl rfl ?_
              first
              | (exfalso; omega)
              | exact fin9 b b4 b2 b7 (by omega) (by omega)
            · refine v_bipush dX10_addRule_97 (by decide) ?_
              exact v_ireturn dX10_addRule_99 rfl (h2 (by omega) (fun a ha => by
      have e := uniq b b0 b2 b3 a ha
      obtain ⟨a1, a2, a3, a4, a5, a6, a7⟩ := ha
      subst e
      first
      | omega
      | (rcases b8 with b8 | b8
         · omega
         · by_cases q : b4 < k
           · exact b8 (a7 b4 (by omega) q)
           · omega)))
          · refine v_if_eq (tgt := 97) dX10_addRule_85 (by decide) (by decide) (fun q85 => ?_) (fun q85 => absurd q85 (by decide))
            refine v_bipush dX10_addRule_97 (by decide) ?_
            exact v_ireturn dX10_addRule_99 rfl (h2 (by omega) (fun a ha => by
      have e := uniq b b0 b2 b3 a ha
      obtain ⟨a1, a2, a3, a4, a5, a6, a7⟩ := ha
      subst e
      first
      | omega
      | (rcases b8 with b8 | b8
         · omega
         · by_cases q : b4 < k
           · exact b8 (a7 b4 (by omega) q)
           · omega)))
        · refine v_if_eq (tgt := 97) dX10_addRule_73 (by decide) (by decide) (fun q73 => ?_) (fun q73 => absurd q73 (by decide))
          refine v_bipush dX10_addRule_97 (by decide) ?_
          exact v_ireturn dX10_addRule_99 rfl (h2 (by omega) (fun a ha => by
      have e := uniq b b0 b2 b3 a ha
      obtain ⟨a1, a2, a3, a4, a5, a6, a7⟩ := ha
      subst e
      first
      | omega
      | (rcases b8 with b8 | b8
         · omega
         · by_cases q : b4 < k
           · exact b8 (a7 b4 (by omega) q)
           · omega)))
  · refine v_bipush dX10_addRule_14 (by decide) ?_
    exact v_ireturn dX10_addRule_16 rfl (h1 (by omega))
end
