section
variable {d : Nat} {n R : Int} {lf rg : Int → List Int} {wt lev : Int → Int} {stt : Int} {ap : Int → UInt32} {str : List Int} {σ : S9}
theorem c_X5_putRule {P : Int → S9 → Prop} {l r : List Int} (v : Va n R lf rg wt lev stt ap str) (c : SyC σ 1 n R lf rg wt lev stt ap str) (hR8 : R < 8) (hl : St l) (hr : St r) (h : ∀ σ', SyC σ' 1 n (R + 1) (up9 lf R l) (up9 rg R r) wt lev stt ap str → eq9 (fun k => ¬ (1 ≤ k ∧ k ≤ 15)) σ σ' → P R σ') : Cc (d + 2) mX5_putRule [.ref 1, .long (lI (encW l)), .long (lI (encW r))] σ (QI P) := by
  have hn := v.1
  have hR := v.2.1
  have hll := hl.2
  have hlr := hr.2
  obtain ⟨c1, c2, c3, c4, c5, c6⟩ := c
  refine Cc_of (by decide +kernel) (fun _ => Nat.le_of_ble_eq_true rfl) rfl (lv := [_, _, _, _, _, _, _]) ?_
  have K2 : ∀ (q : Nat) (k : Int) (τ : S9), 0 ≤ k → k + q = r.length → eq9 (fun k => ¬ (1 ≤ k ∧ k ≤ 15)) σ τ → gI τ 1 = gI σ 1 → gL τ 1 = gL σ 1 → gL τ 2 = up9 (gL σ 2) R (encW l) → gL τ 3 = up9 (gL σ 3) R (encW r) → (∀ j, 4 ≤ j → j ≤ 15 → j ≠ 5 + R.toNat → gI τ j = gI σ j ∧ gF τ j = gF σ j) → (∀ x, 0 ≤ x → x < 8 → gI τ (5 + R.toNat) x = cnt9 x l - cnt9 x (r.take k.toNat)) → Vv (d + 2) mX5_putRule 83 [.ref 1, .long (lI (encW l)), .null, .long (lI (encW r)), .null, .ref (5 + R.toNat), .int (iI k)] [] τ (QI P) := by
    intro q
    induction q with
    | zero =>
      intro k τ hk hq he t1 t2 t3 t4 t5 t6
      refine v_iload dX5_putRule_83 rfl ?_
      refine v_lload_n dX5_putRule_85 rfl ?_
      refine v_callSi1 dX5_putRule_86 kX5_64 (Nat.le_of_ble_eq_true rfl) (c_X8_sizeOf hr ?_)
      refine v_icmp_ge (tgt := 111) dX5_putRule_89 (by decide) (by omega) (fun q89 => ?_) (fun q89 => absurd q89 (by omega))
      refine v_aload_n dX5_putRule_111 rfl ?_
      refine v_dup dX5_putRule_112 rfl ?_
      refine v_getI (ji := 1) dX5_putRule_113 s_1 fX5_42 rfl ?_
      refine v_iconst dX5_putRule_116 ?_
      rw [t1, c2]
      refine v_iadd dX5_putRule_117 ?_
      refine v_putI (ji := 1) dX5_putRule_118 s_1 pfX5_42 rfl ?_
      refine v_aload_n dX5_putRule_121 rfl ?_
      refine v_getI (ji := 1) dX5_putRule_122 s_1 fX5_42 rfl ?_
      refine v_iconst dX5_putRule_125 ?_
      refine v_isub dX5_putRule_126 ?_
      rw [gI_aI_eq, up9_eq, show R + 1 - 1 = R by omega]
      refine v_ireturn dX5_putRule_127 rfl ?_
      refine h _ ⟨?_, ?_, ?_, by rw [gL_aI, t2]; exact c4, fun s s0 s1 => ⟨?_, ?_, fun x x0 x1 => ?_⟩, fun x x0 x1 => ⟨?_, ?_, ?_⟩⟩ (he.tr (eq9.aI (by omega)))
      · rw [gI_aI_eq, up9_ne (by decide), t1]; exact c1
      · rw [gI_aI_eq, up9_eq]
      · rw [gI_aI_eq, up9_ne (by decide), t1]; exact c3
      · rw [gL_aI, t3]
        unfold up9
        split
        · rfl
        · exact (c5 s s0 (by omega)).1
      · rw [gL_aI, t4]
        unfold up9
        split
        · rfl
        · exact (c5 s s0 (by omega)).2.1
      · rw [gI_aI_ne (by omega)]
        by_cases e : s = R
        · subst e
          rw [up9_eq, up9_eq, t6 x x0 x1, List.take_of_length_le (by omega)]
          rfl
        · rw [up9_ne e, up9_ne e, (t5 (1 + 4 + s.toNat) (by omega) (by omega) (by omega)).1]
          exact (c5 s s0 (by omega)).2.2 x x0 x1
      · rw [gI_aI_ne (by decide), (t5 13 (by omega) (by omega) (by omega)).1]; exact (c6 x x0 x1).1
      · rw [gI_aI_ne (by decide), (t5 14 (by omega) (by omega) (by omega)).1]; exact (c6 x x0 x1).2.1
      · rw [gF_aI, (t5 15 (by omega) (by omega) (by omega)).2]; exact (c6 x x0 x1).2.2
    | succ q ih =>
      intro k τ hk hq he t1 t2 t3 t4 t5 t6
      have ha := at9_bd hr.1 k
      have hb1 := cnt9_bd (at9 r k) l
      have hb2 := cnt9_bd (at9 r k) (r.take k.toNat)
      have hlt : (r.take k.toNat).length ≤ 12 := by rw [List.length_take]; omega
      refine v_iload dX5_putRule_83 rfl ?_
      refine v_lload_n dX5_putRule_85 rfl ?_
      refine v_callSi1 dX5_putRule_86 kX5_64 (Nat.le_of_ble_eq_true rfl) (c_X8_sizeOf hr ?_)
      refine v_icmp_ge (tgt := 111) dX5_putRule_89 (by decide) (by omega) (fun q89 => absurd q89 (by omega)) (fun q89 => ?_)
      refine v_aload dX5_putRule_92 rfl ?_
      refine v_lload_n dX5_putRule_94 rfl ?_
      refine v_iload dX5_putRule_95 rfl ?_
      refine v_callSi2 dX5_putRule_97 kX5_70 (Nat.le_of_ble_eq_true rfl) (c_X8_letterAt hr (by omega) ?_)
      refine v_dup2 dX5_putRule_100 rfl rfl ?_
      refine v_iaload dX5_putRule_101 (shB9 (r := R) (by omega)) (by omega) ?_
      refine v_iconst dX5_putRule_102 ?_
      refine v_isub dX5_putRule_103 ?_
      refine v_iastore dX5_putRule_104 (shB9 (r := R) (by omega)) (by omega) ?_
      refine v_iinc (lv' := [_, _, _, _, _, _, _]) dX5_putRule_105 rfl (Nat.le_of_ble_eq_true rfl) rfl rfl ?_
      refine v_goto (tgt := 83) dX5_putRule_108 (by decide) ?_
      refine ih (k + 1) _ (by omega) (by omega) (he.tr (eq9.aI (by omega))) (by rw [gI_aI_ne (by omega)]; exact t1) t2 t3 t4 (fun j j0 j1 j2 => by rw [gI_aI_ne (by omega)]; exact t5 j j0 j1 j2) (fun x x0 x1 => ?_)
      rw [at9_take (by omega), cnt9_s, gI_aI_eq]
      unfold up9
      have t6x := t6 x x0 x1
      by_cases e : x = at9 r k
      · rw [if_pos e, if_pos e, t6 _ (by omega) (by omega), ← e]; (try omega)
      · rw [if_neg e, if_neg e]; omega
  have K1 : ∀ (q : Nat) (k : Int) (τ : S9), 0 ≤ k → k + q = l.length → eq9 (fun k => ¬ (1 ≤ k ∧ k ≤ 15)) σ τ → gI τ 1 = gI σ 1 → gL τ 1 = gL σ 1 → gL τ 2 = up9 (gL σ 2) R (encW l) → gL τ 3 = up9 (gL σ 3) R (encW r) → (∀ j, 4 ≤ j → j ≤ 15 → j ≠ 5 + R.toNat → gI τ j = gI σ j ∧ gF τ j = gF σ j) → (∀ x, 0 ≤ x → x < 8 → gI τ (5 + R.toNat) x = cnt9 x (l.take k.toNat)) → Vv (d + 2) mX5_putRule 52 [.ref 1, .long (lI (encW l)), .null, .long (lI (encW r)), .null, .ref (5 + R.toNat), .int (iI k)] [] τ (QI P) := by
    intro q
    induction q with
    | zero =>
      intro k τ hk hq he t1 t2 t3 t4 t5 t6
      refine v_iload dX5_putRule_52 rfl ?_
      refine v_lload_n dX5_putRule_54 rfl ?_
      refine v_callSi1 dX5_putRule_55 kX5_64 (Nat.le_of_ble_eq_true rfl) (c_X8_sizeOf hl ?_)
      refine v_icmp_ge (tgt := 80) dX5_putRule_58 (by decide) (by omega) (fun q58 => ?_) (fun q58 => absurd q58 (by omega))
      refine v_iconst dX5_putRule_80 ?_
      refine v_istore (lv' := [_, _, _, _, _, _, _]) dX5_putRule_81 (Nat.le_of_ble_eq_true rfl) rfl rfl ?_
      exact K2 r.length 0 τ (by omega) (by omega) he t1 t2 t3 t4 t5 (fun x x0 x1 => by rw [t6 x x0 x1, List.take_of_length_le (by omega)]; show _ = _ - 0; omega)
    | succ q ih =>
      intro k τ hk hq he t1 t2 t3 t4 t5 t6
      have ha := at9_bd hl.1 k
      have hb2 := cnt9_bd (at9 l k) (l.take k.toNat)
      have hlt : (l.take k.toNat).length ≤ 12 := by rw [List.length_take]; omega
      refine v_iload dX5_putRule_52 rfl ?_
      refine v_lload_n dX5_putRule_54 rfl ?_
      refine v_callSi1 dX5_putRule_55 kX5_64 (Nat.le_of_ble_eq_true rfl) (c_X8_sizeOf hl ?_)
      refine v_icmp_ge (tgt := 80) dX5_putRule_58 (by decide) (by omega) (fun q58 => absurd q58 (by omega)) (fun q58 => ?_)
      refine v_aload dX5_putRule_61 rfl ?_
      refine v_lload_n dX5_putRule_63 rfl ?_
      refine v_iload dX5_putRule_64 rfl ?_
      refine v_callSi2 dX5_putRule_66 kX5_70 (Nat.le_of_ble_eq_true rfl) (c_X8_letterAt hl (by omega) ?_)
      refine v_dup2 dX5_putRule_69 rfl rfl ?_
      refine v_iaload dX5_putRule_70 (shB9 (r := R) (by omega)) (by omega) ?_
      refine v_iconst dX5_putRule_71 ?_
      refine v_iadd dX5_putRule_72 ?_
      refine v_iastore dX5_putRule_73 (shB9 (r := R) (by omega)) (by omega) ?_
      refine v_iinc (lv' := [_, _, _, _, _, _, _]) dX5_putRule_74 rfl (Nat.le_of_ble_eq_true rfl) rfl rfl ?_
      refine v_goto (tgt := 52) dX5_putRule_77 (by decide) ?_
      refine ih (k + 1) _ (by omega) (by omega) (he.tr (eq9.aI (by omega))) (by rw [gI_aI_ne (by omega)]; exact t1) t2 t3 t4 (fun j j0 j1 j2 => by rw [gI_aI_ne (by omega)]; exact t5 j j0 j1 j2) (fun x x0 x1 => ?_)
      rw [at9_take (by omega), cnt9_s, gI_aI_eq]
      unfold up9
      have t6x := t6 x x0 x1
      by_cases e : x = at9 l k
      · rw [if_pos e, if_pos e, t6 _ (by omega) (by omega), ← e]; (try omega)
      · rw [if_neg e, if_neg e]; omega
  refine v_aload_n dX5_putRule_0 rfl ?_
  refine v_getI (ji := 1) dX5_putRule_1 s_1 fX5_42 rfl ?_
  rw [c2]
  refine v_bipush dX5_putRule_4 (by decide) ?_
  refine v_icmp_lt (tgt := 12) dX5_putRule_6 (by decide) (by omega) (fun h6 => ?_) (fun h6 => absurd h6 (by omega))
  refine v_aload_n dX5_putRule_12 rfl ?_
  refine v_getR (k1 := 2) dX5_putRule_13 s_1 fX5_9 rfl ?_
  refine v_aload_n dX5_putRule_16 rfl ?_
  refine v_getI (ji := 1) dX5_putRule_17 s_1 fX5_42 rfl ?_
  rw [c2]
  refine v_lload_n dX5_putRule_20 rfl ?_
  refine v_lastore dX5_putRule_21 s_2 (by omega) ?_
  refine v_aload_n dX5_putRule_22 rfl ?_
  refine v_getR (k1 := 3) dX5_putRule_23 s_1 fX5_15 rfl ?_
  refine v_aload_n dX5_putRule_26 rfl ?_
  refine v_getI (ji := 1) dX5_putRule_27 s_1 fX5_42 rfl ?_
  rw [gI_aL, c2]
  refine v_lload_n dX5_putRule_30 rfl ?_
  refine v_lastore dX5_putRule_31 s_3 (by omega) ?_
  refine v_aload_n dX5_putRule_32 rfl ?_
  refine v_getR (k1 := 4) dX5_putRule_33 s_1 fX5_20 rfl ?_
  refine v_aload_n dX5_putRule_36 rfl ?_
  refine v_getI (ji := 1) dX5_putRule_37 s_1 fX5_42 rfl ?_
  rw [gI_aL, gI_aL, c2]
  refine v_aaloadR (k1 := 5 + R.toNat) dX5_putRule_40 s_4 (by omega) (rfB9 (by omega)) ?_
  refine v_astore (lv' := [_, _, _, _, _, _, _]) dX5_putRule_41 (Nat.le_of_ble_eq_true rfl) rfl rfl ?_
  refine v_aload dX5_putRule_43 rfl ?_
  refine v_iconst dX5_putRule_45 ?_
  refine v_callSv2 dX5_putRule_46 kX5_58 (Nat.le_of_ble_eq_true rfl) (c_J7_fill_53178 (shB9 (r := R) (by omega)) ?_)
  refine v_iconst dX5_putRule_49 ?_
  refine v_istore (lv' := [_, _, _, _, _, _, _]) dX5_putRule_50 (Nat.le_of_ble_eq_true rfl) rfl rfl ?_
  refine K1 l.length 0 _ (by omega) (by omega) ?_ ?_ ?_ ?_ ?_ (fun j j0 j1 j2 => ⟨?_, rfl⟩) (fun x x0 x1 => ?_)
  · exact (((eq9.aL (by omega)).tr (eq9.aL (by omega))).tr (eq9.aI (by omega)))
  · rw [gI_aI_ne (by omega)]; rfl
  · rw [gL_aI, gL_aL_ne (by decide), gL_aL_ne (by decide)]
  · rw [gL_aI, gL_aL_ne (by decide), gL_aL_eq]
  · rw [gL_aI, gL_aL_eq, gL_aL_ne (by decide)]
  · rw [gI_aI_ne j2]; rfl
  · rw [gI_aI_eq]; unfold fil9; rw [if_pos (by omega)]; rfl
/-- the bytes spell a rule whose sides part at place a -/
def isR (k : Int) (f : Int → Int) (n a : Int) : Prop := 1 ≤ a ∧ a ≤ 6 ∧ a < k ∧ k - a - 1 ≤ 6 ∧ f a = 62 ∧ (∀ j, 0 ≤ j → j < a → 0 ≤ f j - 97 ∧ f j - 97 < n) ∧ ∀ j, a < j → j < k → 0 ≤ f j - 97 ∧ f j - 97 < n
theorem seg_ok {f : Int → Int} {a : Int} {m : Nat} {n : Int} {b : Nat} (hm : m ≤ b) (h : ∀ j, a ≤ j → j < a + m → 0 ≤ f j - 97 ∧ f j - 97 < n) : OkL n b (seg9 f a m) := by
  refine ⟨fun x hx => ?_, by rw [seg9_len]; exact hm⟩
  obtain ⟨i, hi, rfl⟩ := seg9_mem hx
  exact h (a + i) (by omega) (by omega)
theorem c_X9_addRule {P : Int → S9 → Prop} {k : Int} {f : Int → Int} (v : Va n R lf rg wt lev stt ap str) (c : SyC σ 1 n R lf rg wt lev stt ap str) (hi : InC σ k f) (hf : InV k f) (h1 : R = 8 → P (-4) (sI σ 31 0 0)) (h2 : R < 8 → (∀ a, ¬ isR k f n a) → P (-5) (sI σ 31 0 0)) (h3 : R < 8 → ∀ a, isR k f n a → ∀ σ', SyC σ' 1 n (R + 1) (up9 lf R (seg9 f 0 a.toNat)) (up9 rg R (seg9 f (a + 1) (k - a - 1).toNat)) wt lev stt ap str → eq9 (fun k => ¬ (1 ≤ k ∧ k ≤ 15) ∧ k ≠ 31) σ σ' → gI σ' 31 = up9 (gI σ 31) 0 0 → P R σ') : Cc (d + 4) mX9_addRule [.ref 0] σ (QI P) := by
  have hn := v.1
  have hR := v.2.1
  have hk := hf.1
  have c2 := c.inp hR.2 0
  have g32 : gI (sI σ 31 0 0) 32 = gI σ 32 := gI_aI_ne (by decide)
  have gb : ∀ j, 0 ≤ j → j < k → 0 ≤ gI (sI σ 31 0 0) 32 j ∧ gI (sI σ 31 0 0) 32 j ≤ 127 := fun j a b => by rw [g32, hi.2 j a b]; exact hf.2 j a b
  refine Cc_of (by decide +kernel) (fun _ => Nat.le_of_ble_eq_true rfl) rfl (lv := [_, _, _, _, _, _, _]) ?_
  refine v_aload_n dX9_addRule_0 rfl ?_
  refine v_getR (k1 := 31) dX9_addRule_1 s_0 fX9_28 rfl ?_
  refine v_callVi0 dX9_addRule_4 kX9_89 s_31 (Nat.le_of_ble_eq_true rfl) (c_X1_consume hi.1 ?_)
  refine v_istore_n (lv' := [_, _, _, _, _, _, _]) dX9_addRule_7 (Nat.le_of_ble_eq_true rfl) rfl rfl ?_
  refine v_aload_n dX9_addRule_8 rfl ?_
  refine v_getR (k1 := 1) dX9_addRule_9 s_0 fX9_14 rfl ?_
  refine v_getI (ji := 1) dX9_addRule_12 s_1 fX9_93 rfl ?_
  rw [gI_aI_ne (by decide), c.2.1]
  refine v_bipush dX9_addRule_15 (by decide) ?_
  refine v_icmp_lt (tgt := 23) dX9_addRule_17 (by decide) (by omega) (fun q17 => ?_) (fun q17 => ?_)
  · refine v_aload_n dX9_addRule_23 rfl ?_
    refine v_getR (k1 := 31) dX9_addRule_24 s_0 fX9_28 rfl ?_
    refine v_bipush dX9_addRule_27 (by decide) ?_
    refine v_iload_n dX9_addRule_29 rfl ?_
    refine v_callVi2 dX9_addRule_30 kX9_96 s_31 (Nat.le_of_ble_eq_true rfl) (c_X1_find (by omega) (by decide) gb (fun x x0 x1 y1 y2 => ?_) (fun y0 => ?_))
    · refine v_istore_n (lv' := [_, _, _, _, _, _, _]) dX9_addRule_33 (Nat.le_of_ble_eq_true rfl) rfl rfl ?_
      refine v_iload_n dX9_addRule_34 rfl ?_
      refine v_iconst dX9_addRule_35 ?_
      refine v_icmp_ge (tgt := 42) dX9_addRule_36 (by decide) (by omega) (fun q36 => ?_) (fun q36 => ?_)
      · refine v_aload_n dX9_addRule_42 rfl ?_
        refine v_getR (k1 := 31) dX9_addRule_43 s_0 fX9_28 rfl ?_
        refine v_iconst dX9_addRule_46 ?_
        refine v_iload_n dX9_addRule_47 rfl ?_
        refine v_bipush dX9_addRule_48 (by decide) ?_
        refine v_aload_n dX9_addRule_50 rfl ?_
        refine v_getR (k1 := 1) dX9_addRule_51 s_0 fX9_14 rfl ?_
        refine v_getI (ji := 0) dX9_addRule_54 s_1 fX9_71 rfl ?_
        rw [show gI (sI σ 31 0 0) 1 0 = n from c2.1]
        refine v_callVl4 dX9_addRule_57 kX9_100 s_31 (Nat.le_of_ble_eq_true rfl) (c_X1_read (by omega) (by decide) (by omega) (fun j a b => gb j (by omega) (by omega)) (fun z1 z2 => ?_) (fun z0 => ?_))
        · have hbl := (OkL.st (n := n) (m := 6) (xs := seg9 (gI (sI σ 31 0 0) 32) 0 (x - 0).toNat) (seg_ok (by omega) (fun j a b => z2 j (by omega) (by omega))) (by omega) (by decide))
          have hbw := hbl.bdW
          refine v_lstore_n (lv' := [_, _, _, _, _, _, _]) dX9_addRule_60 (Nat.le_of_ble_eq_true rfl) rfl rfl ?_
          refine v_aload_n dX9_addRule_61 rfl ?_
          refine v_getR (k1 := 31) dX9_addRule_62 s_0 fX9_28 rfl ?_
          refine v_iload_n dX9_addRule_65 rfl ?_
          refine v_iconst dX9_addRule_66 ?_
          refine v_iadd dX9_addRule_67 ?_
          refine v_iload_n dX9_addRule_68 rfl ?_
          refine v_bipush dX9_addRule_69 (by decide) ?_
          refine v_aload_n dX9_addRule_71 rfl ?_
          refine v_getR (k1 := 1) dX9_addRule_72 s_0 fX9_14 rfl ?_
          refine v_getI (ji := 0) dX9_addRule_75 s_1 fX9_71 rfl ?_
          rw [show gI (sI σ 31 0 0) 1 0 = n from c2.1]
          refine v_callVl4 dX9_addRule_78 kX9_100 s_31 (Nat.le_of_ble_eq_true rfl) (c_X1_read (by omega) (by decide) (by omega) (fun j a b => gb j (by omega) (by omega)) (fun w1 w2 => ?_) (fun w0 => ?_))
          · have hbr := (OkL.st (n := n) (m := 6) (xs := seg9 (gI (sI σ 31 0 0) 32) (x + 1) (k - (x + 1)).toNat) (seg_ok (by omega) (fun j a b => w2 j (by omega) (by omega))) (by omega) (by decide))
            have hbw2 := hbr.bdW
            refine v_lstore (lv' := [_, _, _, _, _, _, _]) dX9_addRule_81 (Nat.le_of_ble_eq_true rfl) rfl rfl ?_
            refine v_lload_n dX9_addRule_83 rfl ?_
            refine v_ldc2 dX9_addRule_84 wX9_104 ?_
            refine v_lcmp_eq (tgt := 100) dX9_addRule_87 dX9_addRule_88 (by decide) (by omega) (fun q87 => absurd q87 (by omega)) (fun q87 => ?_)
            refine v_lload dX9_addRule_91 rfl ?_
            refine v_ldc2 dX9_addRule_93 wX9_104 ?_
            refine v_lcmp_ne (tgt := 103) dX9_addRule_96 dX9_addRule_97 (by decide) (by omega) (fun q96 => ?_) (fun q96 => absurd q96 (by omega))
            refine v_aload_n dX9_addRule_103 rfl ?_
            refine v_getR (k1 := 1) dX9_addRule_104 s_0 fX9_14 rfl ?_
            refine v_lload_n dX9_addRule_107 rfl ?_
            refine v_lload dX9_addRule_108 rfl ?_
            refine v_callVi2 dX9_addRule_110 kX9_106 s_1 (Nat.le_of_ble_eq_true rfl) (c_X5_putRule v c2 (by omega) hbl hbr (fun σ' hc he => ?_))
            have ir : isR k f n x := ⟨by omega, by omega, by omega, by omega, by rw [← hi.2 x (by omega) (by omega), ← g32]; exact y1, fun j a b => by have := z2 j a b; rw [g32, hi.2 j a (by omega)] at this; exact this, fun j a b => by have := w2 j (by omega) b; rw [g32, hi.2 j (by omega) b] at this; exact this⟩
            have e1 : seg9 (gI (sI σ 31 0 0) 32) 0 (x - 0).toNat = seg9 f 0 x.toNat := by rw [Int.sub_zero, g32]; exact seg9_congr (fun i hi2 => hi.2 _ (by omega) (by omega))
            have e2 : seg9 (gI (sI σ 31 0 0) 32) (x + 1) (k - (x + 1)).toNat = seg9 f (x + 1) (k - x - 1).toNat := by rw [g32, show k - (x + 1) = k - x - 1 by omega]; exact seg9_congr (fun i hi2 => hi.2 _ (by omega) (by omega))
            rw [e1, e2] at hc
            exact v_ireturn dX9_addRule_113 rfl (h3 (by omega) x ir _ hc ((eq9.aI (S := fun k => ¬ (1 ≤ k ∧ k ≤ 15) ∧ k ≠ 31) (by omega)).tr (he.mono (fun k hk => hk.1))) (by rw [(he 31 (by omega)).1, gI_aI_eq]))
          · refine v_lstore (lv' := [_, _, _, _, _, _, _]) dX9_addRule_81 (Nat.le_of_ble_eq_true rfl) rfl rfl ?_
            refine v_lload_n dX9_addRule_83 rfl ?_
            refine v_ldc2 dX9_addRule_84 wX9_104 ?_
            refine v_lcmp_eq (tgt := 100) dX9_addRule_87 dX9_addRule_88 (by decide) (by omega) (fun q87 => absurd q87 (by omega)) (fun q87 => ?_)
            refine v_lload dX9_addRule_91 rfl ?_
            refine v_ldc2 dX9_addRule_93 wX9_104 ?_
            refine v_lcmp_ne (tgt := 103) dX9_addRule_96 dX9_addRule_97 (by decide) (by omega) (fun q96 => absurd rfl q96) (fun q96 => ?_)
            refine v_bipush dX9_addRule_100 (by decide) ?_
            exact v_ireturn dX9_addRule_102 rfl (h2 (by omega) (fun a ha => by obtain ⟨a1, a2, a3, a4, a5, a6, a7⟩ := ha; have ea : a = x := Classical.byContradiction (fun ne => (Int.lt_or_gt_of_ne ne).elim (fun q => y2 a (by omega) q (by rw [g32, hi.2 a (by omega) (by omega)]; exact a5)) (fun q => by have := a6 x (by omega) q; rw [g32, hi.2 x (by omega) (by omega)] at y1; omega)); subst ea; exact w0 ⟨by omega, fun j b1 b2 => by rw [g32, hi.2 j (by omega) (by omega)]; exact a7 j (by omega) (by omega)⟩))
        · refine v_lstore_n (lv' := [_, _, _, _, _, _, _]) dX9_addRule_60 (Nat.le_of_ble_eq_true rfl) rfl rfl ?_
          refine v_aload_n dX9_addRule_61 rfl ?_
          refine v_getR (k1 := 31) dX9_addRule_62 s_0 fX9_28 rfl ?_
          refine v_iload_n dX9_addRule_65 rfl ?_
          refine v_iconst dX9_addRule_66 ?_
          refine v_iadd dX9_addRule_67 ?_
          refine v_iload_n dX9_addRule_68 rfl ?_
          refine v_bipush dX9_addRule_69 (by decide) ?_
          refine v_aload_n dX9_addRule_71 rfl ?_
          refine v_getR (k1 := 1) dX9_addRule_72 s_0 fX9_14 rfl ?_
          refine v_getI (ji := 0) dX9_addRule_75 s_1 fX9_71 rfl ?_
          rw [show gI (sI σ 31 0 0) 1 0 = n from c2.1]
          refine v_callVl4 dX9_addRule_78 kX9_100 s_31 (Nat.le_of_ble_eq_true rfl) (c_X1_read (by omega) (by decide) (by omega) (fun j a b => gb j (by omega) (by omega)) (fun w1 w2 => ?_) (fun w0 => ?_))
          · refine v_lstore (lv' := [_, _, _, _, _, _, _]) dX9_addRule_81 (Nat.le_of_ble_eq_true rfl) rfl rfl ?_
            refine v_lload_n dX9_addRule_83 rfl ?_
            refine v_ldc2 dX9_addRule_84 wX9_104 ?_
            refine v_lcmp_eq (tgt := 100) dX9_addRule_87 dX9_addRule_88 (by decide) (by omega) (fun q87 => ?_) (fun q87 => absurd rfl q87)
            refine v_bipush dX9_addRule_100 (by decide) ?_
            exact v_ireturn dX9_addRule_102 rfl (h2 (by omega) (fun a ha => by obtain ⟨a1, a2, a3, a4, a5, a6, a7⟩ := ha; have ea : a = x := Classical.byContradiction (fun ne => (Int.lt_or_gt_of_ne ne).elim (fun q => y2 a (by omega) q (by rw [g32, hi.2 a (by omega) (by omega)]; exact a5)) (fun q => by have := a6 x (by omega) q; rw [g32, hi.2 x (by omega) (by omega)] at y1; omega)); subst ea; exact z0 ⟨by omega, fun j b1 b2 => by rw [g32, hi.2 j (by omega) (by omega)]; exact a6 j b1 (by omega)⟩))
          · refine v_lstore (lv' := [_, _, _, _, _, _, _]) dX9_addRule_81 (Nat.le_of_ble_eq_true rfl) rfl rfl ?_
            refine v_lload_n dX9_addRule_83 rfl ?_
            refine v_ldc2 dX9_addRule_84 wX9_104 ?_
            refine v_lcmp_eq (tgt := 100) dX9_addRule_87 dX9_addRule_88 (by decide) (by omega) (fun q87 => ?_) (fun q87 => absurd rfl q87)
            refine v_bipush dX9_addRule_100 (by decide) ?_
            exact v_ireturn dX9_addRule_102 rfl (h2 (by omega) (fun a ha => by obtain ⟨a1, a2, a3, a4, a5, a6, a7⟩ := ha; have ea : a = x := Classical.byContradiction (fun ne => (Int.lt_or_gt_of_ne ne).elim (fun q => y2 a (by omega) q (by rw [g32, hi.2 a (by omega) (by omega)]; exact a5)) (fun q => by have := a6 x (by omega) q; rw [g32, hi.2 x (by omega) (by omega)] at y1; omega)); subst ea; exact z0 ⟨by omega, fun j b1 b2 => by rw [g32, hi.2 j (by omega) (by omega)]; exact a6 j b1 (by omega)⟩))
      · refine v_bipush dX9_addRule_39 (by decide) ?_
        exact v_ireturn dX9_addRule_41 rfl (h2 (by omega) (fun a ha => by obtain ⟨a1, a2, a3, a4, a5, a6, a7⟩ := ha; have ea : a = x := Classical.byContradiction (fun ne => (Int.lt_or_gt_of_ne ne).elim (fun q => y2 a (by omega) q (by rw [g32, hi.2 a (by omega) (by omega)]; exact a5)) (fun q => by have := a6 x (by omega) q; rw [g32, hi.2 x (by omega) (by omega)] at y1; omega)); omega))
    · refine v_istore_n (lv' := [_, _, _, _, _, _, _]) dX9_addRule_33 (Nat.le_of_ble_eq_true rfl) rfl rfl ?_
      refine v_iload_n dX9_addRule_34 rfl ?_
      refine v_iconst dX9_addRule_35 ?_
      refine v_icmp_ge (tgt := 42) dX9_addRule_36 (by decide) (by decide) (fun q36 => absurd q36 (by decide)) (fun q36 => ?_)
      refine v_bipush dX9_addRule_39 (by decide) ?_
      exact v_ireturn dX9_addRule_41 rfl (h2 (by omega) (fun a ha => by obtain ⟨a1, a2, a3, a4, a5, a6, a7⟩ := ha; exact y0 a (by omega) (by omega) (by rw [g32, hi.2 a (by omega) (by omega)]; exact a5)))
  · refine v_bipush dX9_addRule_20 (by decide) ?_
    exact v_ireturn dX9_addRule_22 rfl (h1 (by omega))
/-- the rules behind a dropped one -/
def shf9 (r j : Int) : Int := if j < r then j else j + 1
theorem c_X5_dropRule {P : S9 → Prop} {r : Int} (v : Va n R lf rg wt lev stt ap str) (c : SyC σ 1 n R lf rg wt lev stt ap str) (hr : 0 ≤ r ∧ r < R) (h : ∀ σ', SyC σ' 1 n (R - 1) (fun j => lf (shf9 r j)) (fun j => rg (shf9 r j)) wt lev stt ap str → eq9 (fun k => ¬ (1 ≤ k ∧ k ≤ 15)) σ σ' → P σ') : Cc (d + 1) mX5_dropRule [.ref 1, .int (iI r)] σ (QV P) := by
  have hn := v.1
  have hR := v.2.1
  obtain ⟨c1, c2, c3, c4, c5, c6⟩ := c
  refine Cc_of (by decide +kernel) (fun _ => Nat.le_of_ble_eq_true rfl) rfl (lv := [_, _, _]) ?_
  have K : ∀ (q : Nat) (k : Int) (τ : S9), r + 1 ≤ k → k + q = R → eq9 (fun k => ¬ (1 ≤ k ∧ k ≤ 15)) σ τ → gI τ 1 = gI σ 1 → gL τ 1 = gL σ 1 → (∀ j, 13 ≤ j → j ≤ 15 → gI τ j = gI σ j ∧ gF τ j = gF σ j) → (∀ j, 0 ≤ j → j < R → (j < k - 1 → gL τ 2 j = gL σ 2 (shf9 r j) ∧ gL τ 3 j = gL σ 3 (shf9 r j)) ∧ (k - 1 ≤ j → gL τ 2 j = gL σ 2 j ∧ gL τ 3 j = gL σ 3 j)) → (∀ j x, 0 ≤ j → j < R → 0 ≤ x → x < 8 → (j < k - 1 → gI τ (5 + j.toNat) x = gI σ (5 + (shf9 r j).toNat) x) ∧ (k - 1 ≤ j → gI τ (5 + j.toNat) x = gI σ (5 + j.toNat) x)) → Vv (d + 1) mX5_dropRule 4 [.ref 1, .int (iI r), .int (iI k)] [] τ (QV P) := by
    intro q
    induction q with
    | zero =>
      intro k τ hk hq he t1 t2 t3 t4 t5
      have sb : ∀ j, 0 ≤ j → j < R - 1 → 0 ≤ shf9 r j ∧ shf9 r j < R := fun j a b => by unfold shf9; split <;> omega
      refine v_iload_n dX5_dropRule_4 rfl ?_
      refine v_aload_n dX5_dropRule_5 rfl ?_
      refine v_getI (ji := 1) dX5_dropRule_6 s_1 fX5_42 rfl ?_
      rw [t1, c2]
      refine v_icmp_ge (tgt := 67) dX5_dropRule_9 (by decide) (by omega) (fun q9 => ?_) (fun q9 => absurd q9 (by omega))
      refine v_aload_n dX5_dropRule_67 rfl ?_
      refine v_dup dX5_dropRule_68 rfl ?_
      refine v_getI (ji := 1) dX5_dropRule_69 s_1 fX5_42 rfl ?_
      refine v_iconst dX5_dropRule_72 ?_
      rw [t1, c2]
      refine v_isub dX5_dropRule_73 ?_
      refine v_putI (ji := 1) dX5_dropRule_74 s_1 pfX5_42 rfl ?_
      refine v_return dX5_dropRule_77 rfl ?_
      refine h _ ⟨?_, ?_, ?_, by rw [gL_aI, t2]; exact c4, fun s s0 s1 => ⟨?_, ?_, fun x x0 x1 => ?_⟩, fun x x0 x1 => ⟨?_, ?_, ?_⟩⟩ (he.tr (eq9.aI (by omega)))
      · rw [gI_aI_eq, up9_ne (by decide), t1]; exact c1
      · rw [gI_aI_eq, up9_eq]
      · rw [gI_aI_eq, up9_ne (by decide), t1]; exact c3
      · rw [gL_aI]; exact ((t4 s s0 (by omega)).1 (by omega)).1.trans (c5 _ (sb s s0 s1).1 (sb s s0 s1).2).1
      · rw [gL_aI]; exact ((t4 s s0 (by omega)).1 (by omega)).2.trans (c5 _ (sb s s0 s1).1 (sb s s0 s1).2).2.1
      · rw [gI_aI_ne (by omega)]; exact ((t5 s x s0 (by omega) x0 x1).1 (by omega)).trans ((c5 _ (sb s s0 s1).1 (sb s s0 s1).2).2.2 x x0 x1)
      · rw [gI_aI_ne (by decide), (t3 13 (by omega) (by omega)).1]; exact (c6 x x0 x1).1
      · rw [gI_aI_ne (by decide), (t3 14 (by omega) (by omega)).1]; exact (c6 x x0 x1).2.1
      · rw [gF_aI, (t3 15 (by omega) (by omega)).2]; exact (c6 x x0 x1).2.2
    | succ q ih =>
      intro k τ hk hq he t1 t2 t3 t4 t5
      refine v_iload_n dX5_dropRule_4 rfl ?_
      refine v_aload_n dX5_dropRule_5 rfl ?_
      refine v_getI (ji := 1) dX5_dropRule_6 s_1 fX5_42 rfl ?_
      rw [t1, c2]
      refine v_icmp_ge (tgt := 67) dX5_dropRule_9 (by decide) (by omega) (fun q9 => absurd q9 (by omega)) (fun q9 => ?_)
      refine v_aload_n dX5_dropRule_12 rfl ?_
      refine v_getR (k1 := 2) dX5_dropRule_13 s_1 fX5_9 rfl ?_
      refine v_iload_n dX5_dropRule_16 rfl ?_
      refine v_iconst dX5_dropRule_17 ?_
      refine v_isub dX5_dropRule_18 ?_
      refine v_aload_n dX5_dropRule_19 rfl ?_
      refine v_getR (k1 := 2) dX5_dropRule_20 s_1 fX5_9 rfl ?_
      refine v_iload_n dX5_dropRule_23 rfl ?_
      refine v_laload dX5_dropRule_24 s_2 (by omega) ?_
      refine v_lastore dX5_dropRule_25 s_2 (by omega) ?_
      refine v_aload_n dX5_dropRule_26 rfl ?_
      refine v_getR (k1 := 3) dX5_dropRule_27 s_1 fX5_15 rfl ?_
      refine v_iload_n dX5_dropRule_30 rfl ?_
      refine v_iconst dX5_dropRule_31 ?_
      refine v_isub dX5_dropRule_32 ?_
      refine v_aload_n dX5_dropRule_33 rfl ?_
      refine v_getR (k1 := 3) dX5_dropRule_34 s_1 fX5_15 rfl ?_
      refine v_iload_n dX5_dropRule_37 rfl ?_
      refine v_laload dX5_dropRule_38 s_3 (by omega) ?_
      refine v_lastore dX5_dropRule_39 s_3 (by omega) ?_
      refine v_aload_n dX5_dropRule_40 rfl ?_
      refine v_getR (k1 := 4) dX5_dropRule_41 s_1 fX5_20 rfl ?_
      refine v_iload_n dX5_dropRule_44 rfl ?_
      refine v_aaloadR (k1 := 5 + k.toNat) dX5_dropRule_45 s_4 (by omega) (rfB9 (by omega)) ?_
      refine v_iconst dX5_dropRule_46 ?_
      refine v_aload_n dX5_dropRule_47 rfl ?_
      refine v_getR (k1 := 4) dX5_dropRule_48 s_1 fX5_20 rfl ?_
      refine v_iload_n dX5_dropRule_51 rfl ?_
      refine v_iconst dX5_dropRule_52 ?_
      refine v_isub dX5_dropRule_53 ?_
      refine v_aaloadR (k1 := 5 + (k - 1).toNat) dX5_dropRule_54 s_4 (by omega) (rfB9 (by omega)) ?_
      refine v_iconst dX5_dropRule_55 ?_
      refine v_bipush dX5_dropRule_56 (by decide) ?_
      refine v_copyI dX5_dropRule_58 acX5_52 (shB9 (r := k) (by omega)) (shB9 (r := k - 1) (by omega)) (by omega) (Nat.le_of_ble_eq_true rfl) ?_
      refine v_iinc (lv' := [_, _, _]) dX5_dropRule_61 rfl (Nat.le_of_ble_eq_true rfl) rfl rfl ?_
      refine v_goto (tgt := 4) dX5_dropRule_64 (by decide) ?_
      refine ih (k + 1) _ (by omega) (by omega) (he.tr (((eq9.aL (by omega)).tr (eq9.aL (by omega))).tr (eq9.aI (by omega)))) ?_ ?_ (fun j j0 j1 => ⟨?_, (t3 j j0 j1).2⟩) (fun j j0 j1 => ?_) (fun j x j0 j1 x0 x1 => ?_)
      · rw [gI_aI_ne (by omega)]; exact t1
      · rw [gL_aI, gL_aL_ne (by decide), gL_aL_ne (by decide)]; exact t2
      · rw [gI_aI_ne (by omega)]; exact (t3 j j0 j1).1
      · have sk : shf9 r (k - 1) = k := by unfold shf9; rw [if_neg (by omega)]; omega
        have e2 : ∀ i, gL (aI (sL (sL τ 2 (k - 1) (gL τ 2 k)) 3 (k - 1) (gL (sL τ 2 (k - 1) (gL τ 2 k)) 3 k)) (5 + (k - 1).toNat) (cpy9 (gI (sL (sL τ 2 (k - 1) (gL τ 2 k)) 3 (k - 1) (gL (sL τ 2 (k - 1) (gL τ 2 k)) 3 k)) (5 + k.toNat)) (gI (sL (sL τ 2 (k - 1) (gL τ 2 k)) 3 (k - 1) (gL (sL τ 2 (k - 1) (gL τ 2 k)) 3 k)) (5 + (k - 1).toNat)) 0 0 8)) 2 i = up9 (gL τ 2) (k - 1) (gL τ 2 k) i := fun i => by rw [gL_aI, gL_aL_ne (by decide), gL_aL_eq]
        have e3 : ∀ i, gL (aI (sL (sL τ 2 (k - 1) (gL τ 2 k)) 3 (k - 1) (gL (sL τ 2 (k - 1) (gL τ 2 k)) 3 k)) (5 + (k - 1).toNat) (cpy9 (gI (sL (sL τ 2 (k - 1) (gL τ 2 k)) 3 (k - 1) (gL (sL τ 2 (k - 1) (gL τ 2 k)) 3 k)) (5 + k.toNat)) (gI (sL (sL τ 2 (k - 1) (gL τ 2 k)) 3 (k - 1) (gL (sL τ 2 (k - 1) (gL τ 2 k)) 3 k)) (5 + (k - 1).toNat)) 0 0 8)) 3 i = up9 (gL τ 3) (k - 1) (gL τ 3 k) i := fun i => by rw [gL_aI, gL_aL_eq, gL_aL_ne (by decide)]
        rw [e2, e3]
        have tk := (t4 k (by omega) (by omega)).2 (by omega)
        have tj := t4 j j0 j1
        unfold up9
        by_cases e : j = k - 1
        · rw [if_pos e, if_pos e, e, sk, tk.1, tk.2]
          exact ⟨fun _ => ⟨rfl, rfl⟩, fun q => by omega⟩
        · rw [if_neg e, if_neg e]
          exact ⟨fun q => tj.1 (by omega), fun q => tj.2 (by omega)⟩
      · have sk : shf9 r (k - 1) = k := by unfold shf9; rw [if_neg (by omega)]; omega
        have tk := (t5 k x (by omega) (by omega) x0 x1).2 (by omega)
        have tj := t5 j x j0 j1 x0 x1
        by_cases e : j = k - 1
        · subst e
          rw [gI_aI_eq, cpy9_in (by omega), sk]
          exact ⟨fun _ => tk, fun q => by omega⟩
        · rw [gI_aI_ne (by omega)]
          exact ⟨fun q => tj.1 (by omega), fun q => tj.2 (by omega)⟩
  refine v_iload_n dX5_dropRule_0 rfl ?_
  refine v_iconst dX5_dropRule_1 ?_
  refine v_iadd dX5_dropRule_2 ?_
  refine v_istore_n (lv' := [_, _, _]) dX5_dropRule_3 (Nat.le_of_ble_eq_true rfl) rfl rfl ?_
  exact K (R - (r + 1)).toNat (r + 1) σ (by omega) (by omega) eq9.rf rfl rfl (fun j j0 j1 => ⟨rfl, rfl⟩) (fun j j0 j1 => ⟨fun q => by unfold shf9; rw [if_pos (by omega)]; exact ⟨rfl, rfl⟩, fun _ => ⟨rfl, rfl⟩⟩) (fun j x j0 j1 x0 x1 => ⟨fun q => by unfold shf9; rw [if_pos (by omega)], fun _ => rfl⟩)
theorem c_X9_removeRule {P : Int → S9 → Prop} {r : Int} (v : Va n R lf rg wt lev stt ap str) (c : SyC σ 1 n R lf rg wt lev stt ap str) (hr : (-2147483648 ≤ r ∧ r < 2147483648)) (h1 : ¬ (0 ≤ r ∧ r < R) → P (-3) σ) (h2 : (0 ≤ r ∧ r < R) → ∀ σ', SyC σ' 1 n (R - 1) (fun j => lf (shf9 r j)) (fun j => rg (shf9 r j)) wt lev stt ap str → eq9 (fun k => ¬ (1 ≤ k ∧ k ≤ 15) ∧ k ≠ 33) σ σ' → gI σ' 33 0 = 0 → P (R - 1) σ') : Cc (d + 2) mX9_removeRule [.ref 0, .int (iI r)] σ (QI P) := by
  have hn := v.1
  have hR := v.2.1
  refine Cc_of (by decide +kernel) (fun _ => Nat.le_of_ble_eq_true rfl) rfl (lv := [_, _]) ?_
  refine v_aload_n dX9_removeRule_0 rfl ?_
  refine v_getR (k1 := 1) dX9_removeRule_1 s_0 fX9_14 rfl ?_
  refine v_iload_n dX9_removeRule_4 rfl ?_
  refine v_callVi1 dX9_removeRule_5 kX9_110 s_1 (Nat.le_of_ble_eq_true rfl) (c_X5_hasRule c.2.1 (by omega) hr (fun z => ?_) (fun z => ?_))
  · refine v_if_ne (tgt := 14) dX9_removeRule_8 (by decide) (by decide) (fun q8 => ?_) (fun q8 => absurd q8 (by decide))
    refine v_aload_n dX9_removeRule_14 rfl ?_
    refine v_getR (k1 := 1) dX9_removeRule_15 s_0 fX9_14 rfl ?_
    refine v_iload_n dX9_removeRule_18 rfl ?_
    refine v_callVv1 dX9_removeRule_19 kX9_114 s_1 (Nat.le_of_ble_eq_true rfl) (c_X5_dropRule v c z (fun σ' hc he => ?_))
    refine v_aload_n dX9_removeRule_22 rfl ?_
    refine v_getR (k1 := 33) dX9_removeRule_23 s_0 fX9_35 rfl ?_
    refine v_iconst dX9_removeRule_26 ?_
    refine v_putI (ji := 0) dX9_removeRule_27 s_33 pfX9_79 rfl ?_
    refine v_aload_n dX9_removeRule_30 rfl ?_
    refine v_getR (k1 := 1) dX9_removeRule_31 s_0 fX9_14 rfl ?_
    refine v_getI (ji := 1) dX9_removeRule_34 s_1 fX9_93 rfl ?_
    rw [gI_aI_ne (by decide), hc.2.1]
    exact v_ireturn dX9_removeRule_37 rfl (h2 z _ (hc.eq (by omega) (eq9.aI (by omega))) ((he.mono (fun k hk => hk.1)).tr (eq9.aI (by omega))) (by rw [gI_aI_eq, up9_eq]))
  · refine v_if_ne (tgt := 14) dX9_removeRule_8 (by decide) (by decide) (fun q8 => absurd q8 (by decide)) (fun q8 => ?_)
    refine v_bipush dX9_removeRule_11 (by decide) ?_
    exact v_ireturn dX9_removeRule_13 rfl (h1 z)
end
