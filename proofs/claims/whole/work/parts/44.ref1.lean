/-! ===== the reference ===== -/
section
variable {d : Nat} {n R : Int} {lf rg : Int → List Int} {wt lev : Int → Int} {stt : Int} {ap : Int → UInt32} {str : List Int} {σ : S9}
theorem c_X10_in {x lo hi : Int} {P : Int → S9 → Prop} (hx : (-9223372036854775808 ≤ x ∧ x < 9223372036854775808)) (hlo : (-9223372036854775808 ≤ lo ∧ lo < 9223372036854775808)) (hhi : (-9223372036854775808 ≤ hi ∧ hi < 9223372036854775808)) (h1 : lo ≤ x ∧ x ≤ hi → P 1 σ) (h0 : ¬ (lo ≤ x ∧ x ≤ hi) → P 0 σ) : Cc d mX10_in [.long (lI x), .long (lI lo), .long (lI hi)] σ (QI P) := by
  refine Cc_of (by decide +kernel) (fun _ => Nat.le_of_ble_eq_true rfl) rfl (lv := [_, _, _, _, _, _]) ?_
  refine v_lload_n dX10_in_0 rfl ?_
  refine v_lload_n dX10_in_1 rfl ?_
  refine v_lcmp_lt (tgt := 17) dX10_in_2 dX10_in_3 (by decide) (by omega) (fun q2 => ?_) (fun q2 => ?_)
  · refine v_iconst dX10_in_17 ?_
    exact v_zreturn dX10_in_18 rfl (by decide) (by first | exact h1 (by omega) | exact h0 (by omega))
  · refine v_lload_n dX10_in_6 rfl ?_
    refine v_lload dX10_in_7 rfl ?_
    refine v_lcmp_gt (tgt := 17) dX10_in_9 dX10_in_10 (by decide) (by omega) (fun q9 => ?_) (fun q9 => ?_)
    · refine v_iconst dX10_in_17 ?_
      exact v_zreturn dX10_in_18 rfl (by decide) (by first | exact h1 (by omega) | exact h0 (by omega))
    · refine v_iconst dX10_in_13 ?_
      refine v_goto (tgt := 18) dX10_in_14 (by decide) ?_
      exact v_zreturn dX10_in_18 rfl (by decide) (by first | exact h1 (by omega) | exact h0 (by omega))
theorem c_X10_isLetter {x : Int} {P : Int → S9 → Prop} (g0 : gI σ 97 0 = n) (hn : 0 ≤ n ∧ n ≤ 6) (hx : (-2147483648 ≤ x ∧ x < 2147483648)) (h1 : 0 ≤ x ∧ x < n → P 1 σ) (h0 : ¬ (0 ≤ x ∧ x < n) → P 0 σ) : Cc (d + 1) mX10_isLetter [.ref 97, .int (iI x)] σ (QI P) := by
  refine Cc_of (by decide +kernel) (fun _ => Nat.le_of_ble_eq_true rfl) rfl (lv := [_, _]) ?_
  refine v_iload_n dX10_isLetter_0 rfl ?_
  refine v_i2l dX10_isLetter_1 (by omega) ?_
  refine v_lconst0 dX10_isLetter_2 ?_
  refine v_aload_n dX10_isLetter_3 rfl ?_
  refine v_getI (ji := 0) dX10_isLetter_4 s_97 fX10_9 rfl ?_
  rw [g0]
  refine v_iconst dX10_isLetter_7 ?_
  refine v_isub dX10_isLetter_8 ?_
  refine v_i2l dX10_isLetter_9 (by omega) ?_
  refine v_callSi3 dX10_isLetter_10 kX10_115 (Nat.le_of_ble_eq_true rfl) (c_X10_in (by omega) (by omega) (by omega) (fun z => ?_) (fun z => ?_))
  · exact v_zreturn dX10_isLetter_13 rfl (by decide) (by first | exact h1 (by omega) | exact h0 (by omega))
  · exact v_zreturn dX10_isLetter_13 rfl (by decide) (by first | exact h1 (by omega) | exact h0 (by omega))
theorem c_X10_isRule {x : Int} {P : Int → S9 → Prop} (g1 : gI σ 97 1 = R) (hR : 0 ≤ R ∧ R ≤ 8) (hx : (-2147483648 ≤ x ∧ x < 2147483648)) (h1 : 0 ≤ x ∧ x < R → P 1 σ) (h0 : ¬ (0 ≤ x ∧ x < R) → P 0 σ) : Cc (d + 1) mX10_isRule [.ref 97, .int (iI x)] σ (QI P) := by
  refine Cc_of (by decide +kernel) (fun _ => Nat.le_of_ble_eq_true rfl) rfl (lv := [_, _]) ?_
  refine v_iload_n dX10_isRule_0 rfl ?_
  refine v_i2l dX10_isRule_1 (by omega) ?_
  refine v_lconst0 dX10_isRule_2 ?_
  refine v_aload_n dX10_isRule_3 rfl ?_
  refine v_getI (ji := 1) dX10_isRule_4 s_97 fX10_119 rfl ?_
  rw [g1]
  refine v_iconst dX10_isRule_7 ?_
  refine v_isub dX10_isRule_8 ?_
  refine v_i2l dX10_isRule_9 (by omega) ?_
  refine v_callSi3 dX10_isRule_10 kX10_115 (Nat.le_of_ble_eq_true rfl) (c_X10_in (by omega) (by omega) (by omega) (fun z => ?_) (fun z => ?_))
  · exact v_zreturn dX10_isRule_13 rfl (by decide) (by first | exact h1 (by omega) | exact h0 (by omega))
  · exact v_zreturn dX10_isRule_13 rfl (by decide) (by first | exact h1 (by omega) | exact h0 (by omega))
theorem c_X10_letters {P : Int → S9 → Prop} (c : SyMn σ n R lf rg wt lev stt ap str) (h : P n σ) : Cc d mX10_letters [.ref 97] σ (QI P) := by
  refine Cc_of (by decide +kernel) (fun _ => Nat.le_of_ble_eq_true rfl) rfl (lv := [_]) ?_
  refine v_aload_n dX10_letters_0 rfl ?_
  refine v_getI (ji := 0) dX10_letters_1 s_97 fX10_9 rfl ?_
  rw [c.1]
  exact v_ireturn dX10_letters_4 rfl (h)
theorem c_X10_ruleCount {P : Int → S9 → Prop} (c : SyMn σ n R lf rg wt lev stt ap str) (h : P R σ) : Cc d mX10_ruleCount [.ref 97] σ (QI P) := by
  refine Cc_of (by decide +kernel) (fun _ => Nat.le_of_ble_eq_true rfl) rfl (lv := [_]) ?_
  refine v_aload_n dX10_ruleCount_0 rfl ?_
  refine v_getI (ji := 1) dX10_ruleCount_1 s_97 fX10_119 rfl ?_
  rw [c.2.1]
  exact v_ireturn dX10_ruleCount_4 rfl (h)
theorem c_X10_clearInput {P : Int → S9 → Prop} {k : Int} (hk : gI σ 97 9 = k) (h : P k (sI σ 97 9 0)) : Cc d mX10_clearInput [.ref 97] σ (QI P) := by
  refine Cc_of (by decide +kernel) (fun _ => Nat.le_of_ble_eq_true rfl) rfl (lv := [_, _]) ?_
  refine v_aload_n dX10_clearInput_0 rfl ?_
  refine v_getI (ji := 9) dX10_clearInput_1 s_97 fX10_137 rfl ?_
  rw [hk]
  refine v_istore_n (lv' := [_, _]) dX10_clearInput_4 (Nat.le_of_ble_eq_true rfl) rfl rfl ?_
  refine v_aload_n dX10_clearInput_5 rfl ?_
  refine v_iconst dX10_clearInput_6 ?_
  refine v_putI (ji := 9) dX10_clearInput_7 s_97 pfX10_137 rfl ?_
  refine v_iload_n dX10_clearInput_10 rfl ?_
  exact v_ireturn dX10_clearInput_11 rfl (h)
theorem c_X10_append {P : Int → S9 → Prop} {k x m : Int} (hk : gI σ 97 9 = k) (hkb : 0 ≤ k ∧ k ≤ 40) (hx : (-2147483648 ≤ x ∧ x < 2147483648)) (hm : (-2147483648 ≤ m ∧ m < 2147483648)) (h1 : ¬ ((0 ≤ x ∧ x ≤ 127) ∧ 1 ≤ m ∧ m ≤ 40) → P (-1) σ) (h2 : ((0 ≤ x ∧ x ≤ 127) ∧ 1 ≤ m ∧ m ≤ 40) → ¬ k + m ≤ 40 → P (-4) σ) (h3 : ((0 ≤ x ∧ x ≤ 127) ∧ 1 ≤ m ∧ m ≤ 40) → k + m ≤ 40 → P (k + m) (sI (aI σ 103 (fil9 (gI σ 103) k m x)) 97 9 (k + m))) : Cc (d + 1) mX10_append [.ref 97, .int (iI x), .int (iI m)] σ (QI P) := by
  refine Cc_of (by decide +kernel) (fun _ => Nat.le_of_ble_eq_true rfl) rfl (lv := [_, _, _, _]) ?_
  have K : ((0 ≤ x ∧ x ≤ 127) ∧ 1 ≤ m ∧ m ≤ 40) → k + m ≤ 40 → ∀ (q : Nat) (j : Int), 0 ≤ j → j + q = m → Vv (d + 1) mX10_append 42 [.ref 97, .int (iI x), .int (iI m), .int (iI j)] [] (sI (aI σ 103 (fil9 (gI σ 103) k j x)) 97 9 (k + j)) (QI P) := by
    intro hc1 hc2 q
    induction q with
    | zero =>
      intro j hj hq
      refine v_iload_n dX10_append_42 rfl ?_
      refine v_iload_n dX10_append_43 rfl ?_
      refine v_icmp_ge (tgt := 73) dX10_append_44 (by decide) (by omega) (fun q44 => ?_) (fun q44 => absurd q44 (by omega))
      refine v_aload_n dX10_append_73 rfl ?_
      refine v_getI (ji := 9) dX10_append_74 s_97 fX10_137 rfl ?_
      rw [gI_aI_eq, up9_eq]
      exact v_ireturn dX10_append_77 rfl (by rw [show j = m by omega]; exact h3 hc1 hc2)
    | succ q ih =>
      intro j hj hq
      have es : sI (sI (sI (aI σ 103 (fil9 (gI σ 103) k j x)) 97 9 (k + j)) 103 (k + j) x) 97 9 (k + j + 1) = sI (aI σ 103 (fil9 (gI σ 103) k (j + 1) x)) 97 9 (k + (j + 1)) := by
        refine S9ext (fun i => ?_) (fun _ => rfl) (fun _ => rfl) (fun _ => rfl)
        by_cases e1 : i = 97
        · subst e1
          rw [gI_aI_eq, gI_aI_ne (by decide), gI_aI_eq, gI_aI_eq, gI_aI_ne (by decide), gI_aI_ne (by decide)]
          funext y
          by_cases e2 : y = 9
          · rw [e2, up9_eq, up9_eq]; omega
          · rw [up9_ne e2, up9_ne e2, up9_ne e2]
        · by_cases e2 : i = 103
          · subst e2
            rw [gI_aI_ne (by decide), gI_aI_eq, gI_aI_ne (by decide), gI_aI_eq, gI_aI_ne (by decide), gI_aI_eq]
            funext y
            unfold fil9
            by_cases e3 : y = k + j
            · rw [e3, up9_eq, if_pos (by omega)]
            · rw [up9_ne e3]
              by_cases e4 : k ≤ y ∧ y < k + j
              · rw [if_pos (by omega), if_pos (by omega)]
              · rw [if_neg (by omega), if_neg (by omega)]
          · rw [gI_aI_ne e1, gI_aI_ne e2, gI_aI_ne e1, gI_aI_ne e2, gI_aI_ne e1, gI_aI_ne e2]
      refine v_iload_n dX10_append_42 rfl ?_
      refine v_iload_n dX10_append_43 rfl ?_
      refine v_icmp_ge (tgt := 73) dX10_append_44 (by decide) (by omega) (fun q44 => absurd q44 (by omega)) (fun q44 => ?_)
      refine v_aload_n dX10_append_47 rfl ?_
      refine v_getR (k1 := 103) dX10_append_48 s_97 fX10_32 rfl ?_
      refine v_aload_n dX10_append_51 rfl ?_
      refine v_getI (ji := 9) dX10_append_52 s_97 fX10_137 rfl ?_
      rw [gI_aI_eq, up9_eq]
      refine v_iload_n dX10_append_55 rfl ?_
      refine v_iastore dX10_append_56 s_103 (by omega) ?_
      refine v_aload_n dX10_append_57 rfl ?_
      refine v_dup dX10_append_58 rfl ?_
      refine v_getI (ji := 9) dX10_append_59 s_97 fX10_137 rfl ?_
      rw [gI_aI_ne (by decide), gI_aI_eq, up9_eq]
      refine v_iconst dX10_append_62 ?_
      refine v_iadd dX10_append_63 ?_
      refine v_putI (ji := 9) dX10_append_64 s_97 pfX10_137 rfl ?_
      refine v_iinc (lv' := [_, _, _, _]) dX10_append_67 rfl (Nat.le_of_ble_eq_true rfl) rfl rfl ?_
      refine v_goto (tgt := 42) dX10_append_70 (by decide) ?_
      rw [es]
      exact ih (j + 1) (by omega) (by omega)
  have z0 : sI (aI σ 103 (fil9 (gI σ 103) k 0 x)) 97 9 (k + 0) = σ := by
    have e : fil9 (gI σ 103) k 0 x = gI σ 103 := by funext y; exact if_neg (by omega)
    rw [e, aI_id]
    refine S9ext (fun i => ?_) (fun _ => rfl) (fun _ => rfl) (fun _ => rfl)
    by_cases e1 : i = 97
    · subst e1
      rw [gI_aI_eq]
      funext y
      by_cases e2 : y = 9
      · rw [e2, up9_eq, hk]; omega
      · rw [up9_ne e2]
    · rw [gI_aI_ne e1]
  refine v_iload_n dX10_append_0 rfl ?_
  refine v_i2l dX10_append_1 (by omega) ?_
  refine v_lconst0 dX10_append_2 ?_
  refine v_ldc2 dX10_append_3 wX10_133 ?_
  refine v_callSi3 dX10_append_6 kX10_115 (Nat.le_of_ble_eq_true rfl) (c_X10_in (by omega) (by omega) (by omega) (fun z => ?_) (fun z => ?_))
  · refine v_if_eq (tgt := 24) dX10_append_9 (by decide) (by decide) (fun q9 => absurd q9 (by decide)) (fun q9 => ?_)
    refine v_iload_n dX10_append_12 rfl ?_
    refine v_i2l dX10_append_13 (by omega) ?_
    refine v_lconst1 dX10_append_14 ?_
    refine v_ldc2 dX10_append_15 wX10_135 ?_
    refine v_callSi3 dX10_append_18 kX10_115 (Nat.le_of_ble_eq_true rfl) (c_X10_in (by omega) (by omega) (by omega) (fun y => ?_) (fun y => ?_))
    · refine v_if_ne (tgt := 26) dX10_append_21 (by decide) (by decide) (fun q21 => ?_) (fun q21 => absurd q21 (by decide))
      refine v_aload_n dX10_append_26 rfl ?_
      refine v_getI (ji := 9) dX10_append_27 s_97 fX10_137 rfl ?_
      refine v_iload_n dX10_append_30 rfl ?_
      refine v_iadd dX10_append_31 ?_
      refine v_bipush dX10_append_32 (by decide) ?_
      refine v_icmp_le (tgt := 40) dX10_append_34 (by decide) (by omega) (fun q34 => ?_) (fun q34 => ?_)
      · refine v_iconst dX10_append_40 ?_
        refine v_istore_n (lv' := [_, _, _, _]) dX10_append_41 (Nat.le_of_ble_eq_true rfl) rfl rfl ?_
        have h8 := K (by omega) (by omega) m.toNat 0 (by omega) (by omega)
        rw [z0] at h8
        exact h8
      · refine v_bipush dX10_append_37 (by decide) ?_
        exact v_ireturn dX10_append_39 rfl (h2 (by omega) (by omega))
    · refine v_if_ne (tgt := 26) dX10_append_21 (by decide) (by decide) (fun q21 => absurd q21 (by decide)) (fun q21 => ?_)
      refine v_iconst dX10_append_24 ?_
      exact v_ireturn dX10_append_25 rfl (h1 (by omega))
  · refine v_if_eq (tgt := 24) dX10_append_9 (by decide) (by decide) (fun q9 => ?_) (fun q9 => absurd q9 (by decide))
    refine v_iconst dX10_append_24 ?_
    exact v_ireturn dX10_append_25 rfl (h1 (by omega))
end
