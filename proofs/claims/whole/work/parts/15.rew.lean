/-- one rewriting step -/
def stp9 (l rr w : List Int) (p : Int) : Option (List Int) := if 0 ≤ p ∧ p + l.length ≤ w.length ∧ (w.drop p.toNat).take l.length = l ∧ (w.length : Int) - l.length + rr.length ≤ 12 then some (rep9 w p l rr) else none
theorem stp9_some {l rr w : List Int} {p : Int} (h : occ9 l w p) (hl : (w.length : Int) - l.length + rr.length ≤ 12) : stp9 l rr w p = some (rep9 w p l rr) := if_pos ⟨h.1, h.2.1, h.2.2, hl⟩
theorem stp9_no {l rr w : List Int} {p : Int} (h : ¬ occ9 l w p) : stp9 l rr w p = none := if_neg (fun q => h ⟨q.1, q.2.1, q.2.2.1⟩)
theorem stp9_long {l rr w : List Int} {p : Int} (h : ¬ (w.length : Int) - l.length + rr.length ≤ 12) : stp9 l rr w p = none := if_neg (fun q => h q.2.2.2)
theorem stp9_St {l rr w ys : List Int} {p : Int} (hw : St w) (hr : St rr) (h : stp9 l rr w p = some ys) : St ys := by
  unfold stp9 at h
  split at h
  · rename_i q
    cases h
    refine ⟨rep9_Lt8 hw.1 hr.1, ?_⟩
    have := rep9_len (part := l) rr ⟨q.1, q.2.1⟩
    omega
  · cases h
theorem stp9_mem {l rr w ys : List Int} {p x : Int} (h : stp9 l rr w p = some ys) (hx : x ∈ ys) : x ∈ w ∨ x ∈ rr := by
  unfold stp9 at h
  split at h
  · cases h
    unfold rep9 at hx
    rcases List.mem_append.mp hx with h1 | h1
    · rcases List.mem_append.mp h1 with h2 | h2
      · exact Or.inl (List.mem_of_mem_take h2)
      · exact Or.inr h2
    · exact Or.inl (List.mem_of_mem_drop h1)
  · cases h
section
variable {d : Nat} {σ : S9}
theorem c_X8_replaced {l rr w : List Int} {p : Int} {R : Int → S9 → Prop} (hw : St w) (hl : St l) (hr : St rr) (ho : occ9 l w p) (h1 : (w.length : Int) - l.length + rr.length ≤ 12 → R (encW (rep9 w p l rr)) σ) (h0 : ¬ (w.length : Int) - l.length + rr.length ≤ 12 → R (-1) σ) : Cc (d + 2) mX8_replaced [.long (lI (encW w)), .int (iI p), .long (lI (encW l)), .long (lI (encW rr))] σ (QL R) := by
  have hlw := hw.2
  have hll := hl.2
  have hlr := hr.2
  obtain ⟨ho1, ho2, ho3⟩ := ho
  have hb := hw.bd
  have hbr := enc8_bd hr.1
  have hbr2 := hr.bd
  refine Cc_of (by decide +kernel) (fun _ => Nat.le_of_ble_eq_true rfl) rfl (lv := [_, _, _, _, _, _, _, _, _, _, _, _, _, _, _]) ?_
  have e1 : enc8 w / 2 ^ (3 * ((w.length : Int) - p)).toNat = enc8 (w.take p.toNat) := by
    rw [p2_8 _ (by omega), ← enc8_div hw.1 p.toNat, List.length_drop]
    congr 2
    omega
  have e2 : enc8 (w.take p.toNat) * 2 ^ (3 * (rr.length : Int)).toNat + enc8 rr = enc8 (w.take p.toNat ++ rr) := by
    rw [p2_8 _ (by omega), enc8_app, Int.toNat_natCast]
  have hld : (w.drop (p.toNat + l.length)).length = ((w.length : Int) - l.length - p).toNat := by rw [List.length_drop]; omega
  have e3 : enc8 (w.take p.toNat ++ rr) * 2 ^ (3 * ((w.length : Int) - l.length - p)).toNat + enc8 w % 8 ^ ((w.length : Int) - l.length - p).toNat = enc8 (rep9 w p l rr) := by
    unfold rep9
    rw [p2_8 _ (by omega), ← hld, enc8_mod hw.1, enc8_app (w.take p.toNat ++ rr)]
  have hbt := enc8_bd (hw.1.take p.toNat)
  have hbtr := enc8_bd ((hw.1.take p.toNat).app hr.1)
  have hlt : (w.take p.toNat ++ rr).length = p.toNat + rr.length := by rw [List.length_append, List.length_take]; omega
  have hrl := rep9_len (w := w) (part := l) (p := p) rr ⟨ho1, ho2⟩
  have hL8 : Lt8 (rep9 w p l rr) := rep9_Lt8 hw.1 hr.1
  have hm := Int.emod_nonneg (enc8 w) (b := 8 ^ ((w.length : Int) - l.length - p).toNat) (by have := p8_pos ((w.length : Int) - l.length - p).toNat; omega)
  have hm2 := Int.emod_lt_of_pos (enc8 w) (p8_pos ((w.length : Int) - l.length - p).toNat)
  have big : ∀ z : Int, (w.length : Int) - l.length + rr.length ≤ 12 → 0 ≤ enc8 (w.take p.toNat ++ rr) ∧ enc8 (w.take p.toNat ++ rr) < 68719476736 ∧ 0 ≤ enc8 (rep9 w p l rr) ∧ enc8 (rep9 w p l rr) < 68719476736 := by
    intro z q
    have q1 := p8_le (n := (w.take p.toNat ++ rr).length) (by rw [hlt]; omega)
    have q2 := p8_le (n := (rep9 w p l rr).length) (by omega)
    have q3 := enc8_bd hL8
    omega
  have hmul1 : 0 ≤ enc8 (w.take p.toNat) * 2 ^ (3 * (rr.length : Int)).toNat := Int.mul_nonneg hbt.1 (Int.le_of_lt (Int.pow_pos (by decide)))
  have hmul2 : 0 ≤ enc8 (w.take p.toNat ++ rr) * 2 ^ (3 * ((w.length : Int) - l.length - p)).toNat := Int.mul_nonneg hbtr.1 (Int.le_of_lt (Int.pow_pos (by decide)))
  refine v_lload_n dX8_replaced_0 rfl ?_
  refine v_callSi1 dX8_replaced_1 kX8_9 (Nat.le_of_ble_eq_true rfl) (c_X8_sizeOf hw ?_)
  refine v_lload_n dX8_replaced_4 rfl ?_
  refine v_callSi1 dX8_replaced_5 kX8_9 (Nat.le_of_ble_eq_true rfl) (c_X8_sizeOf hl ?_)
  refine v_isub dX8_replaced_8 ?_
  refine v_iload_n dX8_replaced_9 rfl ?_
  refine v_isub dX8_replaced_10 ?_
  refine v_istore (lv' := [_, _, _, _, _, _, _, _, _, _, _, _, _, _, _]) dX8_replaced_11 (Nat.le_of_ble_eq_true rfl) rfl rfl ?_
  refine v_iload_n dX8_replaced_13 rfl ?_
  refine v_lload dX8_replaced_14 rfl ?_
  refine v_callSi1 dX8_replaced_16 kX8_9 (Nat.le_of_ble_eq_true rfl) (c_X8_sizeOf hr ?_)
  refine v_iadd dX8_replaced_19 ?_
  refine v_iload dX8_replaced_20 rfl ?_
  refine v_iadd dX8_replaced_22 ?_
  refine v_istore (lv' := [_, _, _, _, _, _, _, _, _, _, _, _, _, _, _]) dX8_replaced_23 (Nat.le_of_ble_eq_true rfl) rfl rfl ?_
  refine v_iload dX8_replaced_25 rfl ?_
  refine v_bipush dX8_replaced_27 (by decide) ?_
  refine v_icmp_le (tgt := 36) dX8_replaced_29 (by decide) (by omega) (fun h29 => ?_) (fun h29 => ?_)
  · have big := big 0 (by omega)
    refine v_lload_n dX8_replaced_36 rfl ?_
    refine v_callSl1 dX8_replaced_37 kX8_19 (Nat.le_of_ble_eq_true rfl) (c_X8_lettersOf hw ?_)
    refine v_lstore (lv' := [_, _, _, _, _, _, _, _, _, _, _, _, _, _, _]) dX8_replaced_40 (Nat.le_of_ble_eq_true rfl) rfl rfl ?_
    refine v_lload dX8_replaced_42 rfl ?_
    refine v_iconst dX8_replaced_44 ?_
    refine v_lload_n dX8_replaced_45 rfl ?_
    refine v_callSi1 dX8_replaced_46 kX8_9 (Nat.le_of_ble_eq_true rfl) (c_X8_sizeOf hw ?_)
    refine v_iload_n dX8_replaced_49 rfl ?_
    refine v_isub dX8_replaced_50 ?_
    refine v_imul dX8_replaced_51 ?_
    refine v_lushr dX8_replaced_52 (lushr9 (by omega) (by omega)) ?_
    refine v_lstore (lv' := [_, _, _, _, _, _, _, _, _, _, _, _, _, _, _]) dX8_replaced_53 (Nat.le_of_ble_eq_true rfl) rfl rfl ?_
    refine v_lload dX8_replaced_55 rfl ?_
    refine v_iconst dX8_replaced_57 ?_
    refine v_lload dX8_replaced_58 rfl ?_
    refine v_callSi1 dX8_replaced_60 kX8_9 (Nat.le_of_ble_eq_true rfl) (c_X8_sizeOf hr ?_)
    refine v_imul dX8_replaced_63 ?_
    refine v_lshl dX8_replaced_64 (lshl9 (by rw [e1]; omega) (by omega)) ?_
    refine v_lload dX8_replaced_65 rfl ?_
    refine v_callSl1 dX8_replaced_67 kX8_19 (Nat.le_of_ble_eq_true rfl) (c_X8_lettersOf hr ?_)
    refine v_lor dX8_replaced_70 (lor9 (3 * (rr.length : Int)).toNat (by omega) (by rw [e1]; exact hmul1) (by rw [p2_8 _ (by omega), Int.toNat_natCast]; exact hbr) (by rw [Int.mul_emod_left]) (by rw [e1, e2]; omega)) ?_
    refine v_lstore (lv' := [_, _, _, _, _, _, _, _, _, _, _, _, _, _, _]) dX8_replaced_71 (Nat.le_of_ble_eq_true rfl) rfl rfl ?_
    refine v_iload dX8_replaced_73 rfl ?_
    refine v_lload dX8_replaced_75 rfl ?_
    refine v_iconst dX8_replaced_77 ?_
    refine v_iload dX8_replaced_78 rfl ?_
    refine v_imul dX8_replaced_80 ?_
    refine v_lshl dX8_replaced_81 (lshl9 (by rw [e1, e2]; omega) (by omega)) ?_
    refine v_lload dX8_replaced_82 rfl ?_
    refine v_iload dX8_replaced_84 rfl ?_
    refine v_callSl2 dX8_replaced_86 kX8_15 (Nat.le_of_ble_eq_true rfl) (c_X8_lowest (by omega) (by omega) ?_)
    refine v_lor dX8_replaced_89 (lor9 (3 * ((w.length : Int) - l.length - p)).toNat (by omega) (by rw [e1, e2]; exact hmul2) (by rw [p2_8 _ (by omega)]; exact ⟨hm, hm2⟩) (by rw [Int.mul_emod_left]) (by rw [e1, e2, e3]; omega)) ?_
    refine v_callSl2 dX8_replaced_90 kX8_23 (Nat.le_of_ble_eq_true rfl) (c_X8_make (by omega) (by rw [e1, e2, e3]; omega) ?_)
    exact v_lreturn dX8_replaced_93 rfl (by rw [e1, e2, e3]; have h := h1 (by omega); unfold encW at h; rw [show ((rep9 w p l rr).length : Int) = p + rr.length + ((w.length : Int) - l.length - p) by omega] at h; exact h)
  · refine v_ldc2 dX8_replaced_32 wX8_35 ?_
    exact v_lreturn dX8_replaced_35 rfl (h0 (by omega))
theorem c_X5_stepped {l rr w : List Int} {r p : Int} {R : Int → S9 → Prop} (hr : 0 ≤ r ∧ r < 8) (el : gL σ 2 r = encW l) (er : gL σ 3 r = encW rr) (hw : St w) (hl : St l) (hrr : St rr) (hp : -2147483648 ≤ p ∧ p < 2147483648) (h1 : ∀ ys, stp9 l rr w p = some ys → R (encW ys) σ) (h0 : stp9 l rr w p = none → R (-1) σ) : Cc (d + 3) mX5_stepped [.ref 1, .long (lI (encW w)), .int (iI r), .int (iI p)] σ (QL R) := by
  refine Cc_of (by decide +kernel) (fun _ => Nat.le_of_ble_eq_true rfl) rfl (lv := [_, _, _, _, _]) ?_
  refine v_aload_n dX5_stepped_0 rfl ?_
  refine v_getR (k1 := 2) dX5_stepped_1 s_1 fX5_9 rfl ?_
  refine v_iload_n dX5_stepped_4 rfl ?_
  refine v_laload dX5_stepped_5 s_2 (by omega) ?_
  rw [el]
  refine v_lload_n dX5_stepped_6 rfl ?_
  refine v_iload dX5_stepped_7 rfl ?_
  refine v_callSi3 dX5_stepped_9 kX5_91 (Nat.le_of_ble_eq_true rfl) (c_X8_occursAt hw hl hp (fun ho => ?_) (fun ho => ?_))
  · refine v_if_ne (tgt := 19) dX5_stepped_12 (by decide) (by decide) (fun h => ?_) (fun h => absurd h (by decide))
    refine v_lload_n dX5_stepped_19 rfl ?_
    refine v_iload dX5_stepped_20 rfl ?_
    refine v_aload_n dX5_stepped_22 rfl ?_
    refine v_getR (k1 := 2) dX5_stepped_23 s_1 fX5_9 rfl ?_
    refine v_iload_n dX5_stepped_26 rfl ?_
    refine v_laload dX5_stepped_27 s_2 (by omega) ?_
    rw [el]
    refine v_aload_n dX5_stepped_28 rfl ?_
    refine v_getR (k1 := 3) dX5_stepped_29 s_1 fX5_15 rfl ?_
    refine v_iload_n dX5_stepped_32 rfl ?_
    refine v_laload dX5_stepped_33 s_3 (by omega) ?_
    rw [er]
    refine v_callSl4 dX5_stepped_34 kX5_97 (Nat.le_of_ble_eq_true rfl) (c_X8_replaced hw hl hrr ho (fun q => ?_) (fun q => v_lreturn dX5_stepped_37 rfl (h0 (stp9_long q))))
    exact v_lreturn dX5_stepped_37 rfl (h1 _ (stp9_some ho q))
  · refine v_if_ne (tgt := 19) dX5_stepped_12 (by decide) (by decide) (fun h => absurd rfl h) (fun h => ?_)
    refine v_ldc2 dX5_stepped_15 wX5_95 ?_
    exact v_lreturn dX5_stepped_18 rfl (h0 (stp9_no ho))
/-- the weight of a string, by the letters' weights -/
def wt9 (f : Int → Int) (xs : List Int) : Int := (xs.map f).foldl (· + ·) 0
theorem wt9_snoc (f : Int → Int) (xs : List Int) (x : Int) : wt9 f (xs ++ [x]) = wt9 f xs + f x := by unfold wt9; rw [List.map_append, List.foldl_append]; rfl
theorem at9_take {xs : List Int} {k : Int} (h : 0 ≤ k ∧ k < xs.length) : xs.take (k + 1).toNat = xs.take k.toNat ++ [at9 xs k] := by
  have hlt : k.toNat < xs.length := by omega
  rw [show (k + 1).toNat = k.toNat + 1 by omega, List.take_succ_eq_append_getElem hlt]
  unfold at9
  rw [List.getD_eq_getElem?_getD, List.getElem?_eq_getElem hlt]
  rfl
theorem c_X5_weightOf {w : List Int} {R : Int → S9 → Prop} (hw : St w) (h : R (wt9 (gI σ 13) w) σ) : Cc (d + 2) mX5_weightOf [.ref 1, .long (lI (encW w))] σ (QI R) := by
  have hl := hw.2
  refine Cc_of (by decide +kernel) (fun _ => Nat.le_of_ble_eq_true rfl) rfl (lv := [_, _, _, _, _]) ?_
  have K : ∀ (m : Nat) (k : Int), 0 ≤ k → k + m = w.length → Vv (d + 2) mX5_weightOf 5 [.ref 1, .long (lI (encW w)), .null, .int (iI (wt9 (gI σ 13) (w.take k.toNat))), .int (iI k)] [] σ (QI R) := by
    intro m
    induction m with
    | zero =>
      intro k h0 hk
      refine v_iload dX5_weightOf_5 rfl ?_
      refine v_lload_n dX5_weightOf_7 rfl ?_
      refine v_callSi1 dX5_weightOf_8 kX5_64 (Nat.le_of_ble_eq_true rfl) (c_X8_sizeOf hw ?_)
      refine v_icmp_ge (tgt := 34) dX5_weightOf_11 (by decide) (by omega) (fun h11 => ?_) (fun h11 => absurd h11 (by omega))
      refine v_iload_n dX5_weightOf_34 rfl ?_
      exact v_ireturn dX5_weightOf_35 rfl (by rw [List.take_of_length_le (by omega)]; exact h)
    | succ m ih =>
      intro k h0 hk
      have ha := at9_bd hw.1 k
      refine v_iload dX5_weightOf_5 rfl ?_
      refine v_lload_n dX5_weightOf_7 rfl ?_
      refine v_callSi1 dX5_weightOf_8 kX5_64 (Nat.le_of_ble_eq_true rfl) (c_X8_sizeOf hw ?_)
      refine v_icmp_ge (tgt := 34) dX5_weightOf_11 (by decide) (by omega) (fun h11 => absurd h11 (by omega)) (fun h11 => ?_)
      refine v_iload_n dX5_weightOf_14 rfl ?_
      refine v_aload_n dX5_weightOf_15 rfl ?_
      refine v_getR (k1 := 13) dX5_weightOf_16 s_1 fX5_23 rfl ?_
      refine v_lload_n dX5_weightOf_19 rfl ?_
      refine v_iload dX5_weightOf_20 rfl ?_
      refine v_callSi2 dX5_weightOf_22 kX5_70 (Nat.le_of_ble_eq_true rfl) (c_X8_letterAt hw (by omega) ?_)
      refine v_iaload dX5_weightOf_25 s_13 (by omega) ?_
      refine v_iadd dX5_weightOf_26 ?_
      refine v_istore_n (lv' := [_, _, _, _, _]) dX5_weightOf_27 (Nat.le_of_ble_eq_true rfl) rfl rfl ?_
      refine v_iinc (lv' := [_, _, _, _, _]) dX5_weightOf_28 rfl (Nat.le_of_ble_eq_true rfl) rfl rfl ?_
      refine v_goto (tgt := 5) dX5_weightOf_31 (by decide) ?_
      have := ih (k + 1) (by omega) (by omega)
      rw [at9_take (by omega), wt9_snoc] at this
      exact this
  refine v_iconst dX5_weightOf_0 ?_
  refine v_istore_n (lv' := [_, _, _, _, _]) dX5_weightOf_1 (Nat.le_of_ble_eq_true rfl) rfl rfl ?_
  refine v_iconst dX5_weightOf_2 ?_
  refine v_istore (lv' := [_, _, _, _, _]) dX5_weightOf_3 (Nat.le_of_ble_eq_true rfl) rfl rfl ?_
  exact K w.length 0 (by omega) (by omega)
theorem c_X5_hasLetter {n x : Int} {R : Int → S9 → Prop} (hn : gI σ 1 0 = n) (hn8 : 0 ≤ n ∧ n ≤ 8) (hx : -2147483648 ≤ x ∧ x < 2147483648) (h1 : 0 ≤ x ∧ x < n → R 1 σ) (h0 : ¬ (0 ≤ x ∧ x < n) → R 0 σ) : Cc d mX5_hasLetter [.ref 1, .int (iI x)] σ (QI R) := by
  refine Cc_of (by decide +kernel) (fun _ => Nat.le_of_ble_eq_true rfl) rfl (lv := [_, _]) ?_
  refine v_iload_n dX5_hasLetter_0 rfl ?_
  refine v_if_lt (tgt := 16) dX5_hasLetter_1 (by decide) (by omega) (fun q1 => ?_) (fun q1 => ?_)
  · refine v_iconst dX5_hasLetter_16 ?_
    exact v_zreturn dX5_hasLetter_17 rfl (by decide) (by first | exact h1 (by omega) | exact h0 (by omega))
  · refine v_iload_n dX5_hasLetter_4 rfl ?_
    refine v_aload_n dX5_hasLetter_5 rfl ?_
    refine v_getI (ji := 0) dX5_hasLetter_6 s_1 fX5_38 rfl ?_
    rw [hn]
    refine v_icmp_ge (tgt := 16) dX5_hasLetter_9 (by decide) (by omega) (fun q9 => ?_) (fun q9 => ?_)
    · refine v_iconst dX5_hasLetter_16 ?_
      exact v_zreturn dX5_hasLetter_17 rfl (by decide) (by first | exact h1 (by omega) | exact h0 (by omega))
    · refine v_iconst dX5_hasLetter_12 ?_
      refine v_goto (tgt := 17) dX5_hasLetter_13 (by decide) ?_
      exact v_zreturn dX5_hasLetter_17 rfl (by decide) (by first | exact h1 (by omega) | exact h0 (by omega))
theorem c_X5_hasRule {n x : Int} {R : Int → S9 → Prop} (hn : gI σ 1 1 = n) (hn8 : 0 ≤ n ∧ n ≤ 8) (hx : -2147483648 ≤ x ∧ x < 2147483648) (h1 : 0 ≤ x ∧ x < n → R 1 σ) (h0 : ¬ (0 ≤ x ∧ x < n) → R 0 σ) : Cc d mX5_hasRule [.ref 1, .int (iI x)] σ (QI R) := by
  refine Cc_of (by decide +kernel) (fun _ => Nat.le_of_ble_eq_true rfl) rfl (lv := [_, _]) ?_
  refine v_iload_n dX5_hasRule_0 rfl ?_
  refine v_if_lt (tgt := 16) dX5_hasRule_1 (by decide) (by omega) (fun q1 => ?_) (fun q1 => ?_)
  · refine v_iconst dX5_hasRule_16 ?_
    exact v_zreturn dX5_hasRule_17 rfl (by decide) (by first | exact h1 (by omega) | exact h0 (by omega))
  · refine v_iload_n dX5_hasRule_4 rfl ?_
    refine v_aload_n dX5_hasRule_5 rfl ?_
    refine v_getI (ji := 1) dX5_hasRule_6 s_1 fX5_42 rfl ?_
    rw [hn]
    refine v_icmp_ge (tgt := 16) dX5_hasRule_9 (by decide) (by omega) (fun q9 => ?_) (fun q9 => ?_)
    · refine v_iconst dX5_hasRule_16 ?_
      exact v_zreturn dX5_hasRule_17 rfl (by decide) (by first | exact h1 (by omega) | exact h0 (by omega))
    · refine v_iconst dX5_hasRule_12 ?_
      refine v_goto (tgt := 17) dX5_hasRule_13 (by decide) ?_
      exact v_zreturn dX5_hasRule_17 rfl (by decide) (by first | exact h1 (by omega) | exact h0 (by omega))
end
