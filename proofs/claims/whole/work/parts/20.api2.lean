theorem eqI {σ : S9} {k : Nat} {f : Int → Int} {j : Nat} (h : j ≠ k) : gI (aI σ k f) j = gI σ j := gI_aI_ne h
theorem SyC.inp {σ : S9} {n R : Int} {lf rg : Int → List Int} {wt lev : Int → Int} {stt : Int} {ap : Int → UInt32} {str : List Int} (c : SyC σ 1 n R lf rg wt lev stt ap str) (hR : R ≤ 8) (x : Int) : SyC (sI σ 31 0 x) 1 n R lf rg wt lev stt ap str := c.eq hR (eq9.aI (by omega))
/-- the bytes spell a string over n letters -/
def isT (k : Int) (f : Int → Int) (n : Int) : Prop := k ≤ 12 ∧ ∀ j, 0 ≤ j → j < k → 0 ≤ f j - 97 ∧ f j - 97 < n
theorem isT_ok {k : Int} {f : Int → Int} {n : Int} (h : isT k f n) (hk : 0 ≤ k) : OkL n 12 (seg9 f 0 k.toNat) := by
  refine ⟨fun x hx => ?_, by rw [seg9_len]; have := h.1; omega⟩
  obtain ⟨i, hi, rfl⟩ := seg9_mem hx
  exact h.2 (0 + i) (by omega) (by omega)
section
variable {d : Nat} {n R : Int} {lf rg : Int → List Int} {wt lev : Int → Int} {stt : Int} {ap : Int → UInt32} {str : List Int} {σ : S9}
theorem c_X9_compareWithInput {P : Int → S9 → Prop} {k : Int} {f : Int → Int} (v : Va n R lf rg wt lev stt ap str) (c : SyC σ 1 n R lf rg wt lev stt ap str) (hi : InC σ k f) (hf : InV k f) (h1 : isT k f n → P (cmp9 (gI σ 13) (gI σ 14) (gI σ 1 7) str (seg9 f 0 k.toNat)) (sI σ 31 0 0)) (h0 : ¬ isT k f n → P (-5) (sI σ 31 0 0)) : Cc (d + 5) mX9_compareWithInput [.ref 0] σ (QI P) := by
  have hn := v.1
  have hR := v.2.1
  have hk := hf.1
  have c2 := c.inp hR.2 0
  have e13 : gI (sI σ 31 0 0) 13 = gI σ 13 := gI_aI_ne (by decide)
  have e14 : gI (sI σ 31 0 0) 14 = gI σ 14 := gI_aI_ne (by decide)
  have e1 : gI (sI σ 31 0 0) 1 = gI σ 1 := gI_aI_ne (by decide)
  refine Cc_of (by decide +kernel) (fun _ => Nat.le_of_ble_eq_true rfl) rfl (lv := [_, _, _]) ?_
  refine v_aload_n dX9_compareWithInput_0 rfl ?_
  refine v_callVl0 dX9_compareWithInput_1 kX9_151 s_0 (Nat.le_of_ble_eq_true rfl) (c_X9_takeString v c hi hf (fun z1 z2 => ?_) (fun z => ?_))
  · have hT : isT k f n := ⟨z1, z2⟩
    have hst := (isT_ok hT hk.1).st (by omega) (by decide)
    have hbw := hst.bdW
    refine v_lstore_n (lv' := [_, _, _]) dX9_compareWithInput_4 (Nat.le_of_ble_eq_true rfl) rfl rfl ?_
    refine v_lload_n dX9_compareWithInput_5 rfl ?_
    refine v_ldc2 dX9_compareWithInput_6 wX9_104 ?_
    refine v_lcmp_ne (tgt := 18) dX9_compareWithInput_9 dX9_compareWithInput_10 (by decide) (by omega) (fun q9 => ?_) (fun q9 => absurd q9 (by omega))
    refine v_aload_n dX9_compareWithInput_18 rfl ?_
    refine v_getR (k1 := 1) dX9_compareWithInput_19 s_0 fX9_14 rfl ?_
    refine v_aload_n dX9_compareWithInput_22 rfl ?_
    refine v_getR (k1 := 1) dX9_compareWithInput_23 s_0 fX9_14 rfl ?_
    refine v_getL (ji := 9) dX9_compareWithInput_26 s_1 fX9_155 rfl ?_
    rw [show gL (sI σ 31 0 0) 1 9 = encW str from c.2.2.2.1]
    refine v_lload_n dX9_compareWithInput_29 rfl ?_
    refine v_callVi2 dX9_compareWithInput_30 kX9_148 s_1 (Nat.le_of_ble_eq_true rfl) (c_X5_compareWords v.st hst (c2.w v) (c2.v v) (c2.s v) ?_)
    exact v_ireturn dX9_compareWithInput_33 rfl (by rw [e13, e14, e1]; exact h1 hT)
  · refine v_lstore_n (lv' := [_, _, _]) dX9_compareWithInput_4 (Nat.le_of_ble_eq_true rfl) rfl rfl ?_
    refine v_lload_n dX9_compareWithInput_5 rfl ?_
    refine v_ldc2 dX9_compareWithInput_6 wX9_104 ?_
    refine v_lcmp_ne (tgt := 18) dX9_compareWithInput_9 dX9_compareWithInput_10 (by decide) (by omega) (fun q9 => absurd rfl q9) (fun q9 => ?_)
    refine v_bipush dX9_compareWithInput_13 (by decide) ?_
    refine v_goto (tgt := 33) dX9_compareWithInput_15 (by decide) ?_
    exact v_ireturn dX9_compareWithInput_33 rfl (h0 z)
theorem c_X9_setString {P : Int → S9 → Prop} {k : Int} {f : Int → Int} (v : Va n R lf rg wt lev stt ap str) (c : SyC σ 1 n R lf rg wt lev stt ap str) (hi : InC σ k f) (hf : InV k f) (h1 : isT k f n → P (seg9 f 0 k.toNat).length (sL (sI σ 31 0 0) 1 9 (encW (seg9 f 0 k.toNat)))) (h0 : ¬ isT k f n → P (-5) (sI σ 31 0 0)) : Cc (d + 5) mX9_setString [.ref 0] σ (QI P) := by
  have hn := v.1
  have hR := v.2.1
  have hk := hf.1
  refine Cc_of (by decide +kernel) (fun _ => Nat.le_of_ble_eq_true rfl) rfl (lv := [_, _, _]) ?_
  refine v_aload_n dX9_setString_0 rfl ?_
  refine v_callVl0 dX9_setString_1 kX9_151 s_0 (Nat.le_of_ble_eq_true rfl) (c_X9_takeString v c hi hf (fun z1 z2 => ?_) (fun z => ?_))
  · have hT : isT k f n := ⟨z1, z2⟩
    have hst := (isT_ok hT hk.1).st (by omega) (by decide)
    have hbw := hst.bdW
    refine v_lstore_n (lv' := [_, _, _]) dX9_setString_4 (Nat.le_of_ble_eq_true rfl) rfl rfl ?_
    refine v_lload_n dX9_setString_5 rfl ?_
    refine v_ldc2 dX9_setString_6 wX9_104 ?_
    refine v_lcmp_ne (tgt := 16) dX9_setString_9 dX9_setString_10 (by decide) (by omega) (fun q9 => ?_) (fun q9 => absurd q9 (by omega))
    refine v_aload_n dX9_setString_16 rfl ?_
    refine v_getR (k1 := 1) dX9_setString_17 s_0 fX9_14 rfl ?_
    refine v_lload_n dX9_setString_20 rfl ?_
    refine v_putL (ji := 9) dX9_setString_21 s_1 pfX9_155 rfl ?_
    refine v_lload_n dX9_setString_24 rfl ?_
    refine v_callSi1 dX9_setString_25 kX9_194 (Nat.le_of_ble_eq_true rfl) (c_X8_sizeOf hst ?_)
    exact v_ireturn dX9_setString_28 rfl (h1 hT)
  · refine v_lstore_n (lv' := [_, _, _]) dX9_setString_4 (Nat.le_of_ble_eq_true rfl) rfl rfl ?_
    refine v_lload_n dX9_setString_5 rfl ?_
    refine v_ldc2 dX9_setString_6 wX9_104 ?_
    refine v_lcmp_ne (tgt := 16) dX9_setString_9 dX9_setString_10 (by decide) (by omega) (fun q9 => absurd rfl q9) (fun q9 => ?_)
    refine v_bipush dX9_setString_13 (by decide) ?_
    exact v_ireturn dX9_setString_15 rfl (h0 z)
theorem c_X9_stringLength {P : Int → S9 → Prop} (v : Va n R lf rg wt lev stt ap str) (c : SyC σ 1 n R lf rg wt lev stt ap str) (h : P str.length σ) : Cc (d + 1) mX9_stringLength [.ref 0] σ (QI P) := by
  refine Cc_of (by decide +kernel) (fun _ => Nat.le_of_ble_eq_true rfl) rfl (lv := [_]) ?_
  refine v_aload_n dX9_stringLength_0 rfl ?_
  refine v_getR (k1 := 1) dX9_stringLength_1 s_0 fX9_14 rfl ?_
  refine v_getL (ji := 9) dX9_stringLength_4 s_1 fX9_155 rfl ?_
  rw [c.2.2.2.1]
  refine v_callSi1 dX9_stringLength_7 kX9_194 (Nat.le_of_ble_eq_true rfl) (c_X8_sizeOf v.st ?_)
  exact v_ireturn dX9_stringLength_10 rfl (h)
theorem c_X9_stringLetter {P : Int → S9 → Prop} {p : Int} (v : Va n R lf rg wt lev stt ap str) (c : SyC σ 1 n R lf rg wt lev stt ap str) (hp : (-2147483648 ≤ p ∧ p < 2147483648)) (h1 : 0 ≤ p ∧ p < str.length → P (at9 str p) σ) (h0 : ¬ (0 ≤ p ∧ p < str.length) → P (-6) σ) : Cc (d + 3) mX9_stringLetter [.ref 0, .int (iI p)] σ (QI P) := by
  refine Cc_of (by decide +kernel) (fun _ => Nat.le_of_ble_eq_true rfl) rfl (lv := [_, _]) ?_
  refine v_aload_n dX9_stringLetter_0 rfl ?_
  refine v_getR (k1 := 1) dX9_stringLetter_1 s_0 fX9_14 rfl ?_
  refine v_getL (ji := 9) dX9_stringLetter_4 s_1 fX9_155 rfl ?_
  rw [c.2.2.2.1]
  refine v_iload_n dX9_stringLetter_7 rfl ?_
  refine v_callSi2 dX9_stringLetter_8 kX9_124 (Nat.le_of_ble_eq_true rfl) (c_X9_letterOrNone v.st hp (fun y => ?_) (fun y => ?_))
  · exact v_ireturn dX9_stringLetter_11 rfl (h1 y)
  · exact v_ireturn dX9_stringLetter_11 rfl (h0 y)
theorem c_X9_stringWeight {P : Int → S9 → Prop} (v : Va n R lf rg wt lev stt ap str) (c : SyC σ 1 n R lf rg wt lev stt ap str) (h : P (wt9 (gI σ 13) str) σ) : Cc (d + 3) mX9_stringWeight [.ref 0] σ (QI P) := by
  refine Cc_of (by decide +kernel) (fun _ => Nat.le_of_ble_eq_true rfl) rfl (lv := [_]) ?_
  refine v_aload_n dX9_stringWeight_0 rfl ?_
  refine v_getR (k1 := 1) dX9_stringWeight_1 s_0 fX9_14 rfl ?_
  refine v_aload_n dX9_stringWeight_4 rfl ?_
  refine v_getR (k1 := 1) dX9_stringWeight_5 s_0 fX9_14 rfl ?_
  refine v_getL (ji := 9) dX9_stringWeight_8 s_1 fX9_155 rfl ?_
  rw [c.2.2.2.1]
  refine v_callVi1 dX9_stringWeight_11 kX9_197 s_1 (Nat.le_of_ble_eq_true rfl) (c_X5_weightOf v.st ?_)
  exact v_ireturn dX9_stringWeight_14 rfl (h)
theorem c_X9_rewrite {P : Int → S9 → Prop} {r p : Int} (v : Va n R lf rg wt lev stt ap str) (c : SyC σ 1 n R lf rg wt lev stt ap str) (hr : (-2147483648 ≤ r ∧ r < 2147483648)) (hp : (-2147483648 ≤ p ∧ p < 2147483648)) (h1 : ¬ (0 ≤ r ∧ r < R) → P (-3) σ) (h2 : (0 ≤ r ∧ r < R) → stp9 (lf r) (rg r) str p = none → P (-9) σ) (h3 : (0 ≤ r ∧ r < R) → ∀ ys, stp9 (lf r) (rg r) str p = some ys → P ys.length (sL σ 1 9 (encW ys))) : Cc (d + 4) mX9_rewrite [.ref 0, .int (iI r), .int (iI p)] σ (QI P) := by
  have hn := v.1
  have hR := v.2.1
  refine Cc_of (by decide +kernel) (fun _ => Nat.le_of_ble_eq_true rfl) rfl (lv := [_, _, _, _, _]) ?_
  refine v_aload_n dX9_rewrite_0 rfl ?_
  refine v_getR (k1 := 1) dX9_rewrite_1 s_0 fX9_14 rfl ?_
  refine v_iload_n dX9_rewrite_4 rfl ?_
  refine v_callVi1 dX9_rewrite_5 kX9_110 s_1 (Nat.le_of_ble_eq_true rfl) (c_X5_hasRule c.2.1 (by omega) hr (fun z => ?_) (fun z => ?_))
  · refine v_if_ne (tgt := 14) dX9_rewrite_8 (by decide) (by decide) (fun q8 => ?_) (fun q8 => absurd q8 (by decide))
    refine v_aload_n dX9_rewrite_14 rfl ?_
    refine v_getR (k1 := 1) dX9_rewrite_15 s_0 fX9_14 rfl ?_
    refine v_aload_n dX9_rewrite_18 rfl ?_
    refine v_getR (k1 := 1) dX9_rewrite_19 s_0 fX9_14 rfl ?_
    refine v_getL (ji := 9) dX9_rewrite_22 s_1 fX9_155 rfl ?_
    rw [c.2.2.2.1]
    refine v_iload_n dX9_rewrite_25 rfl ?_
    refine v_iload_n dX9_rewrite_26 rfl ?_
    refine v_callVl3 dX9_rewrite_27 kX9_200 s_1 (Nat.le_of_ble_eq_true rfl) (c_X5_stepped (by omega) (c.l z) (c.r z) v.st (v.sl z) (v.sr z) hp (fun ys hy => ?_) (fun hy => ?_))
    · have hst := stp9_St v.st (v.sr z) hy
      have hbw := hst.bdW
      refine v_lstore_n (lv' := [_, _, _, _, _]) dX9_rewrite_30 (Nat.le_of_ble_eq_true rfl) rfl rfl ?_
      refine v_lload_n dX9_rewrite_31 rfl ?_
      refine v_ldc2 dX9_rewrite_32 wX9_104 ?_
      refine v_lcmp_ne (tgt := 42) dX9_rewrite_35 dX9_rewrite_36 (by decide) (by omega) (fun q35 => ?_) (fun q35 => absurd q35 (by omega))
      refine v_aload_n dX9_rewrite_42 rfl ?_
      refine v_getR (k1 := 1) dX9_rewrite_43 s_0 fX9_14 rfl ?_
      refine v_lload_n dX9_rewrite_46 rfl ?_
      refine v_putL (ji := 9) dX9_rewrite_47 s_1 pfX9_155 rfl ?_
      refine v_lload_n dX9_rewrite_50 rfl ?_
      refine v_callSi1 dX9_rewrite_51 kX9_194 (Nat.le_of_ble_eq_true rfl) (c_X8_sizeOf hst ?_)
      exact v_ireturn dX9_rewrite_54 rfl (h3 z ys hy)
    · refine v_lstore_n (lv' := [_, _, _, _, _]) dX9_rewrite_30 (Nat.le_of_ble_eq_true rfl) rfl rfl ?_
      refine v_lload_n dX9_rewrite_31 rfl ?_
      refine v_ldc2 dX9_rewrite_32 wX9_104 ?_
      refine v_lcmp_ne (tgt := 42) dX9_rewrite_35 dX9_rewrite_36 (by decide) (by omega) (fun q35 => absurd rfl q35) (fun q35 => ?_)
      refine v_bipush dX9_rewrite_39 (by decide) ?_
      exact v_ireturn dX9_rewrite_41 rfl (h2 z hy)
  · refine v_if_ne (tgt := 14) dX9_rewrite_8 (by decide) (by decide) (fun q8 => absurd q8 (by decide)) (fun q8 => ?_)
    refine v_bipush dX9_rewrite_11 (by decide) ?_
    exact v_ireturn dX9_rewrite_13 rfl (h1 z)
/-- the first step that is possible, by positions, then rules -/
def fsr9 (lf rg : Int → List Int) (w : List Int) (p : Int) : Nat → Int → Option (List Int)
  | 0, _ => none
  | m + 1, r => match stp9 (lf r) (rg r) w p with
    | some y => some y
    | none => fsr9 lf rg w p m (r + 1)
def fsp9 (lf rg : Int → List Int) (R : Nat) (w : List Int) : Nat → Int → Option (List Int)
  | 0, _ => none
  | m + 1, p => match fsr9 lf rg w p R 0 with
    | some y => some y
    | none => fsp9 lf rg R w m (p + 1)
def fst9 (lf rg : Int → List Int) (R : Int) (w : List Int) : Option (List Int) := fsp9 lf rg R.toNat w w.length 0
theorem fsr9_ok {w ys : List Int} {p : Int} (hr : ∀ r, 0 ≤ r → r < R → OkL n 6 (lf r) ∧ 1 ≤ (lf r).length ∧ OkL n 6 (rg r)) (hw : OkL n 12 w) (hn : n ≤ 8) : ∀ (m : Nat) (r : Int), 0 ≤ r → r + m = R → fsr9 lf rg w p m r = some ys → OkL n 12 ys
  | 0, _, _, _, h => by cases h
  | m + 1, r, h0, h1, h => by
    unfold fsr9 at h
    split at h
    · rename_i y hy
      cases h
      have h2 := hr r h0 (by omega)
      refine ⟨fun x hx => ?_, (stp9_St (hw.st hn (by decide)) (h2.2.2.st hn (by decide)) hy).2⟩
      rcases stp9_mem hy hx with q | q
      · exact hw.1 x q
      · exact h2.2.2.1 x q
    · exact fsr9_ok hr hw hn m (r + 1) (by omega) (by omega) h
theorem fsp9_ok {w ys : List Int} (hr : ∀ r, 0 ≤ r → r < R → OkL n 6 (lf r) ∧ 1 ≤ (lf r).length ∧ OkL n 6 (rg r)) (hw : OkL n 12 w) (hn : n ≤ 8) (hR : 0 ≤ R) : ∀ (m : Nat) (p : Int), fsp9 lf rg R.toNat w m p = some ys → OkL n 12 ys
  | 0, _, h => by cases h
  | m + 1, p, h => by
    unfold fsp9 at h
    split at h
    · rename_i y hy
      cases h
      exact fsr9_ok hr hw hn _ 0 (by omega) (by omega) hy
    · exact fsp9_ok hr hw hn hR m (p + 1) h
theorem fst9_ok {w ys : List Int} (v : Va n R lf rg wt lev stt ap str) (hw : OkL n 12 w) (h : fst9 lf rg R w = some ys) : OkL n 12 ys := fsp9_ok v.2.2.1 hw (by have := v.1; omega) v.2.1.1 _ 0 h
theorem c_X5_firstStep {P : Int → S9 → Prop} {w : List Int} (v : Va n R lf rg wt lev stt ap str) (c : SyC σ 1 n R lf rg wt lev stt ap str) (hw : OkL n 12 w) (h1 : ∀ ys, fst9 lf rg R w = some ys → P (encW ys) σ) (h0 : fst9 lf rg R w = none → P (-1) σ) : Cc (d + 4) mX5_firstStep [.ref 1, .long (lI (encW w))] σ (QL P) := by
  have hn := v.1
  have hR := v.2.1
  have hst := hw.st (by omega) (by decide)
  have hl := hst.2
  refine Cc_of (by decide +kernel) (fun _ => Nat.le_of_ble_eq_true rfl) rfl (lv := [_, _, _, _, _, _, _]) ?_
  have J : ∀ (m : Nat) (r p : Int) (u : Value), 0 ≤ r → r + m = R → 0 ≤ p → p < w.length → (∀ ys, fsr9 lf rg w p m r = some ys → P (encW ys) σ) → (fsr9 lf rg w p m r = none → ∀ (x4 : Int) (u : Value), Vv (d + 4) mX5_firstStep 50 [.ref 1, .long (lI (encW w)), .null, .int (iI p), .int (iI x4), u, .null] [] σ (QL P)) → Vv (d + 4) mX5_firstStep 13 [.ref 1, .long (lI (encW w)), .null, .int (iI p), .int (iI r), u, .null] [] σ (QL P) := by
    intro m
    induction m with
    | zero =>
      intro r p u hr hm hp hp2 g1 g0
      refine v_iload dX5_firstStep_13 rfl ?_
      refine v_aload_n dX5_firstStep_15 rfl ?_
      refine v_getI (ji := 1) dX5_firstStep_16 s_1 fX5_42 rfl ?_
      rw [c.2.1]
      refine v_icmp_ge (tgt := 50) dX5_firstStep_19 (by decide) (by omega) (fun q19 => ?_) (fun q19 => absurd q19 (by omega))
      exact g0 rfl _ _
    | succ m ih =>
      intro r p u hr hm hp hp2 g1 g0
      have z : 0 ≤ r ∧ r < R := by omega
      refine v_iload dX5_firstStep_13 rfl ?_
      refine v_aload_n dX5_firstStep_15 rfl ?_
      refine v_getI (ji := 1) dX5_firstStep_16 s_1 fX5_42 rfl ?_
      rw [c.2.1]
      refine v_icmp_ge (tgt := 50) dX5_firstStep_19 (by decide) (by omega) (fun q19 => absurd q19 (by omega)) (fun q19 => ?_)
      refine v_aload_n dX5_firstStep_22 rfl ?_
      refine v_lload_n dX5_firstStep_23 rfl ?_
      refine v_iload dX5_firstStep_24 rfl ?_
      refine v_iload_n dX5_firstStep_26 rfl ?_
      refine v_callVl3 dX5_firstStep_27 kX5_101 s_1 (Nat.le_of_ble_eq_true rfl) (c_X5_stepped (by omega) (c.l z) (c.r z) hst (v.sl z) (v.sr z) (by omega) (fun ys hy => ?_) (fun hy => ?_))
      · have hbw := (stp9_St hst (v.sr z) hy).bdW
        refine v_lstore (lv' := [_, _, _, _, _, _, _]) dX5_firstStep_30 (Nat.le_of_ble_eq_true rfl) rfl rfl ?_
        refine v_lload dX5_firstStep_32 rfl ?_
        refine v_ldc2 dX5_firstStep_34 wX5_95 ?_
        refine v_lcmp_eq (tgt := 44) dX5_firstStep_37 dX5_firstStep_38 (by decide) (by omega) (fun q37 => absurd q37 (by omega)) (fun q37 => ?_)
        refine v_lload dX5_firstStep_41 rfl ?_
        exact v_lreturn dX5_firstStep_43 rfl (g1 ys (by unfold fsr9; rw [hy]))
      · refine v_lstore (lv' := [_, _, _, _, _, _, _]) dX5_firstStep_30 (Nat.le_of_ble_eq_true rfl) rfl rfl ?_
        refine v_lload dX5_firstStep_32 rfl ?_
        refine v_ldc2 dX5_firstStep_34 wX5_95 ?_
        refine v_lcmp_eq (tgt := 44) dX5_firstStep_37 dX5_firstStep_38 (by decide) (by omega) (fun q37 => ?_) (fun q37 => absurd rfl q37)
        refine v_iinc (lv' := [_, _, _, _, _, _, _]) dX5_firstStep_44 rfl (Nat.le_of_ble_eq_true rfl) rfl rfl ?_
        refine v_goto (tgt := 13) dX5_firstStep_47 (by decide) ?_
        refine ih (r + 1) p _ (by omega) (by omega) hp hp2 (fun ys h => g1 ys ?_) (fun h => g0 ?_)
        · unfold fsr9; rw [hy]; exact h
        · unfold fsr9; rw [hy]; exact h
  have K : ∀ (m : Nat) (p : Int) (x4 u : Value), 0 ≤ p → p + m = w.length → (∀ ys, fsp9 lf rg R.toNat w m p = some ys → P (encW ys) σ) → (fsp9 lf rg R.toNat w m p = none → P (-1) σ) → Vv (d + 4) mX5_firstStep 2 [.ref 1, .long (lI (encW w)), .null, .int (iI p), x4, u, .null] [] σ (QL P) := by
    intro m
    induction m with
    | zero =>
      intro p x4 u hp hm g1 g0
      refine v_iload_n dX5_firstStep_2 rfl ?_
      refine v_lload_n dX5_firstStep_3 rfl ?_
      refine v_callSi1 dX5_firstStep_4 kX5_64 (Nat.le_of_ble_eq_true rfl) (c_X8_sizeOf hst ?_)
      refine v_icmp_ge (tgt := 56) dX5_firstStep_7 (by decide) (by omega) (fun q7 => ?_) (fun q7 => absurd q7 (by omega))
      refine v_ldc2 dX5_firstStep_56 wX5_95 ?_
      exact v_lreturn dX5_firstStep_59 rfl (g0 rfl)
    | succ m ih =>
      intro p x4 u hp hm g1 g0
      refine v_iload_n dX5_firstStep_2 rfl ?_
      refine v_lload_n dX5_firstStep_3 rfl ?_
      refine v_callSi1 dX5_firstStep_4 kX5_64 (Nat.le_of_ble_eq_true rfl) (c_X8_sizeOf hst ?_)
      refine v_icmp_ge (tgt := 56) dX5_firstStep_7 (by decide) (by omega) (fun q7 => absurd q7 (by omega)) (fun q7 => ?_)
      refine v_iconst dX5_firstStep_10 ?_
      refine v_istore (lv' := [_, _, _, _, _, _, _]) dX5_firstStep_11 (Nat.le_of_ble_eq_true rfl) rfl rfl ?_
      refine J R.toNat 0 p u (by omega) (by omega) hp (by omega) (fun ys h => g1 ys ?_) (fun h x4 u => ?_)
      · unfold fsp9; rw [h]
      · refine v_iinc (lv' := [_, _, _, _, _, _, _]) dX5_firstStep_50 rfl (Nat.le_of_ble_eq_true rfl) rfl rfl ?_
        refine v_goto (tgt := 2) dX5_firstStep_53 (by decide) ?_
        refine ih (p + 1) _ _ (by omega) (by omega) (fun ys h2 => g1 ys ?_) (fun h2 => g0 ?_)
        · unfold fsp9; rw [h]; exact h2
        · unfold fsp9; rw [h]; exact h2
  refine v_iconst dX5_firstStep_0 ?_
  refine v_istore_n (lv' := [_, _, _, _, _, _, _]) dX5_firstStep_1 (Nat.le_of_ble_eq_true rfl) rfl rfl ?_
  exact K w.length 0 _ _ (by omega) (by omega) h1 h0
/-- a string after so many steps, and how many were made -/
def nrm9 (lf rg : Int → List Int) (R : Int) : Nat → List Int → List Int × Int
  | 0, w => (w, 0)
  | m + 1, w => match fst9 lf rg R w with
    | some y => ((nrm9 lf rg R m y).1, (nrm9 lf rg R m y).2 + 1)
    | none => (w, 0)
theorem nrm9_ok (v : Va n R lf rg wt lev stt ap str) : ∀ (m : Nat) {w : List Int}, OkL n 12 w → OkL n 12 (nrm9 lf rg R m w).1
  | 0, _, h => h
  | m + 1, w, h => by
    unfold nrm9
    split
    · rename_i y hy
      exact nrm9_ok v m (fst9_ok v h hy)
    · exact h
theorem SyC.stg {w : List Int} (c : SyC σ 1 n R lf rg wt lev stt ap str) : SyC (sL σ 1 9 (encW w)) 1 n R lf rg wt lev stt ap w := by
  obtain ⟨h1, h2, h3, h4, h5, h6⟩ := c
  refine ⟨h1, h2, h3, by rw [gL_aL_eq, up9_eq], fun r a b => ?_, h6⟩
  rw [gL_aL_ne (by decide), gL_aL_ne (by decide)]
  exact h5 r a b
theorem Va.stg {w : List Int} (v : Va n R lf rg wt lev stt ap str) (h : OkL n 12 w) : Va n R lf rg wt lev stt ap w := ⟨v.1, v.2.1, v.2.2.1, v.2.2.2.1, v.2.2.2.2.1, h⟩
theorem c_X9_normalize {P : Int → S9 → Prop} {s : Int} (v : Va n R lf rg wt lev stt ap str) (c : SyC σ 1 n R lf rg wt lev stt ap str) (hs : (-2147483648 ≤ s ∧ s < 2147483648)) (h1 : ¬ (0 ≤ s ∧ s ≤ 1000) → P (-1) σ) (h2 : (0 ≤ s ∧ s ≤ 1000) → P (nrm9 lf rg R s.toNat str).2 (sL σ 1 9 (encW (nrm9 lf rg R s.toNat str).1))) : Cc (d + 5) mX9_normalize [.ref 0, .int (iI s)] σ (QI P) := by
  have hn := v.1
  have hR := v.2.1
  refine Cc_of (by decide +kernel) (fun _ => Nat.le_of_ble_eq_true rfl) rfl (lv := [_, _, _, _, _]) ?_
  have K : ∀ (m : Nat) (k : Int) (w : List Int) (u : Value), 0 ≤ k → k + m = s → s ≤ 1000 → OkL n 12 w → P (k + (nrm9 lf rg R m w).2) (sL σ 1 9 (encW (nrm9 lf rg R m w).1)) → Vv (d + 5) mX9_normalize 15 [.ref 0, .int (iI s), .int (iI k), u, .null] [] (sL σ 1 9 (encW w)) (QI P) := by
    intro m
    induction m with
    | zero =>
      intro k w u hk hm hs2 hw h
      have e : k + (nrm9 lf rg R 0 w).2 = s := by show k + 0 = s; omega
      rw [e] at h
      refine v_iload_n dX9_normalize_15 rfl ?_
      refine v_iload_n dX9_normalize_16 rfl ?_
      refine v_icmp_ge (tgt := 59) dX9_normalize_17 (by decide) (by omega) (fun q17 => ?_) (fun q17 => absurd q17 (by omega))
      refine v_iload_n dX9_normalize_59 rfl ?_
      exact v_ireturn dX9_normalize_60 rfl (h)
    | succ m ih =>
      intro k w u hk hm hs2 hw h
      have c2 := c.stg (w := w)
      have v2 := v.stg hw
      refine v_iload_n dX9_normalize_15 rfl ?_
      refine v_iload_n dX9_normalize_16 rfl ?_
      refine v_icmp_ge (tgt := 59) dX9_normalize_17 (by decide) (by omega) (fun q17 => absurd q17 (by omega)) (fun q17 => ?_)
      refine v_aload_n dX9_normalize_20 rfl ?_
      refine v_getR (k1 := 1) dX9_normalize_21 s_0 fX9_14 rfl ?_
      refine v_aload_n dX9_normalize_24 rfl ?_
      refine v_getR (k1 := 1) dX9_normalize_25 s_0 fX9_14 rfl ?_
      refine v_getL (ji := 9) dX9_normalize_28 s_1 fX9_155 rfl ?_
      rw [c2.2.2.2.1]
      refine v_callVl1 dX9_normalize_31 kX9_204 s_1 (Nat.le_of_ble_eq_true rfl) (c_X5_firstStep v2 c2 hw (fun ys hy => ?_) (fun hy => ?_))
      · have ho := fst9_ok v hw hy
        have hbw := (ho.st (by omega) (by decide)).bdW
        unfold nrm9 at h
        rw [hy] at h
        refine v_lstore_n (lv' := [_, _, _, _, _]) dX9_normalize_34 (Nat.le_of_ble_eq_true rfl) rfl rfl ?_
        refine v_lload_n dX9_normalize_35 rfl ?_
        refine v_ldc2 dX9_normalize_36 wX9_104 ?_
        refine v_lcmp_ne (tgt := 45) dX9_normalize_39 dX9_normalize_40 (by decide) (by omega) (fun q39 => ?_) (fun q39 => absurd q39 (by omega))
        refine v_aload_n dX9_normalize_45 rfl ?_
        refine v_getR (k1 := 1) dX9_normalize_46 s_0 fX9_14 rfl ?_
        refine v_lload_n dX9_normalize_49 rfl ?_
        refine v_putL (ji := 9) dX9_normalize_50 s_1 pfX9_155 rfl ?_
        refine v_iinc (lv' := [_, _, _, _, _]) dX9_normalize_53 rfl (Nat.le_of_ble_eq_true rfl) rfl rfl ?_
        refine v_goto (tgt := 15) dX9_normalize_56 (by decide) ?_
        have e : ∀ a b : Int, sL (sL σ 1 9 a) 1 9 b = sL σ 1 9 b := fun a b => by unfold sL; rw [aL_aL, gL_aL_eq, up9_up9]
        rw [e]
        exact ih (k + 1) ys _ (by omega) (by omega) hs2 ho (by rw [show k + 1 + (nrm9 lf rg R m ys).2 = k + ((nrm9 lf rg R m ys).2 + 1) by omega]; exact h)
      · unfold nrm9 at h
        rw [hy] at h
        refine v_lstore_n (lv' := [_, _, _, _, _]) dX9_normalize_34 (Nat.le_of_ble_eq_true rfl) rfl rfl ?_
        refine v_lload_n dX9_normalize_35 rfl ?_
        refine v_ldc2 dX9_normalize_36 wX9_104 ?_
        refine v_lcmp_ne (tgt := 45) dX9_normalize_39 dX9_normalize_40 (by decide) (by omega) (fun q39 => absurd rfl q39) (fun q39 => ?_)
        refine v_iload_n dX9_normalize_43 rfl ?_
        exact v_ireturn dX9_normalize_44 rfl (by rw [show k + (0 : Int) = k by omega] at h; exact h)
  refine v_iload_n dX9_normalize_0 rfl ?_
  refine v_if_lt (tgt := 11) dX9_normalize_1 (by decide) (by omega) (fun q1 => ?_) (fun q1 => ?_)
  · refine v_iconst dX9_normalize_11 ?_
    exact v_ireturn dX9_normalize_12 rfl (h1 (by omega))
  · refine v_iload_n dX9_normalize_4 rfl ?_
    refine v_sipush dX9_normalize_5 (by decide) ?_
    refine v_icmp_le (tgt := 13) dX9_normalize_8 (by decide) (by omega) (fun q8 => ?_) (fun q8 => ?_)
    · refine v_iconst dX9_normalize_13 ?_
      refine v_istore_n (lv' := [_, _, _, _, _]) dX9_normalize_14 (Nat.le_of_ble_eq_true rfl) rfl rfl ?_
      have e : sL σ 1 9 (encW str) = σ := by
        have e2 : up9 (gL σ 1) 9 (encW str) = gL σ 1 := by
          funext j
          unfold up9
          split
          · rename_i hj; rw [hj]; exact c.2.2.2.1.symm
          · rfl
        unfold sL
        rw [e2, aL_same]
      have := K s.toNat 0 str .null (by omega) (by omega) (by omega) v.2.2.2.2.2 (by rw [Int.zero_add]; exact h2 (by omega))
      rw [e] at this
      exact this
    · refine v_iconst dX9_normalize_11 ?_
      exact v_ireturn dX9_normalize_12 rfl (h1 (by omega))
theorem c_X9_loopStep {P : Int → S9 → Prop} {k a b : Int} {f g : Int → Int} (hv : LoV k f g) (hc : LoC σ k f g) (ha : (-2147483648 ≤ a ∧ a < 2147483648)) (hb : (-2147483648 ≤ b ∧ b < 2147483648)) (h1 : ¬ (0 ≤ b ∧ b ≤ 1) → P (-1) σ) (h2 : (0 ≤ b ∧ b ≤ 1) → ¬ (0 ≤ a ∧ a < k) → P (-6) σ) (h3 : (0 ≤ b ∧ b ≤ 1) → (0 ≤ a ∧ a < k) → P (if b = 0 then f a else g a) σ) : Cc d mX9_loopStep [.ref 0, .int (iI a), .int (iI b)] σ (QI P) := by
  have hk := hv.1
  refine Cc_of (by decide +kernel) (fun _ => Nat.le_of_ble_eq_true rfl) rfl (lv := [_, _, _]) ?_
  refine v_iload_n dX9_loopStep_0 rfl ?_
  refine v_if_lt (tgt := 9) dX9_loopStep_1 (by decide) (by omega) (fun q1 => ?_) (fun q1 => ?_)
  · refine v_iconst dX9_loopStep_9 ?_
    exact v_ireturn dX9_loopStep_10 rfl (h1 (by omega))
  · refine v_iload_n dX9_loopStep_4 rfl ?_
    refine v_iconst dX9_loopStep_5 ?_
    refine v_icmp_le (tgt := 11) dX9_loopStep_6 (by decide) (by omega) (fun q6 => ?_) (fun q6 => ?_)
    · refine v_iload_n dX9_loopStep_11 rfl ?_
      refine v_if_lt (tgt := 26) dX9_loopStep_12 (by decide) (by omega) (fun q12 => ?_) (fun q12 => ?_)
      · refine v_bipush dX9_loopStep_26 (by decide) ?_
        exact v_ireturn dX9_loopStep_28 rfl (h2 (by omega) (by omega))
      · refine v_iload_n dX9_loopStep_15 rfl ?_
        refine v_aload_n dX9_loopStep_16 rfl ?_
        refine v_getR (k1 := 33) dX9_loopStep_17 s_0 fX9_35 rfl ?_
        refine v_getI (ji := 0) dX9_loopStep_20 s_33 fX9_79 rfl ?_
        rw [hc.1]
        refine v_icmp_lt (tgt := 29) dX9_loopStep_23 (by decide) (by omega) (fun q23 => ?_) (fun q23 => ?_)
        · refine v_iload_n dX9_loopStep_29 rfl ?_
          refine v_if_ne (tgt := 45) dX9_loopStep_30 (by decide) (by omega) (fun q30 => ?_) (fun q30 => ?_)
          · refine v_aload_n dX9_loopStep_45 rfl ?_
            refine v_getR (k1 := 33) dX9_loopStep_46 s_0 fX9_35 rfl ?_
            refine v_getR (k1 := 35) dX9_loopStep_49 s_33 fX9_222 rfl ?_
            refine v_iload_n dX9_loopStep_52 rfl ?_
            refine v_iaload dX9_loopStep_53 s_35 (by omega) ?_
            (try rw [(hc.2 a (by omega) (by omega)).2])
            exact v_ireturn dX9_loopStep_54 rfl (by have h := h3 (by omega) (by omega); first | (rw [if_pos q30] at h; exact h) | (rw [if_neg q30] at h; exact h))
          · refine v_aload_n dX9_loopStep_33 rfl ?_
            refine v_getR (k1 := 33) dX9_loopStep_34 s_0 fX9_35 rfl ?_
            refine v_getR (k1 := 34) dX9_loopStep_37 s_33 fX9_220 rfl ?_
            refine v_iload_n dX9_loopStep_40 rfl ?_
            refine v_iaload dX9_loopStep_41 s_34 (by omega) ?_
            rw [(hc.2 a (by omega) (by omega)).1]
            refine v_goto (tgt := 54) dX9_loopStep_42 (by decide) ?_
            (try rw [(hc.2 a (by omega) (by omega)).2])
            exact v_ireturn dX9_loopStep_54 rfl (by have h := h3 (by omega) (by omega); first | (rw [if_pos q30] at h; exact h) | (rw [if_neg q30] at h; exact h))
        · refine v_bipush dX9_loopStep_26 (by decide) ?_
          exact v_ireturn dX9_loopStep_28 rfl (h2 (by omega) (by omega))
    · refine v_iconst dX9_loopStep_9 ?_
      exact v_ireturn dX9_loopStep_10 rfl (h1 (by omega))
end
