theorem eq9.both {S T : Nat → Prop} {a b : S9} (h1 : eq9 S a b) (h2 : eq9 T a b) : eq9 (fun k => S k ∨ T k) a b := fun k hk => hk.elim (h1 k) (h2 k)
section
variable {d : Nat} {n R : Int} {lf rg : Int → List Int} {wt lev : Int → Int} {stt : Int} {ap : Int → UInt32} {str : List Int} {σ : S9}
theorem c_X3_prepareWeights {lim : Int} {P : S9 → Prop} (v : Va n R lf rg wt lev stt ap str) (c : SyC σ 1 n R lf rg wt lev stt ap str) (hl : 0 ≤ lim ∧ lim ≤ 6) (h : ∀ τ, eq9 (fun k => k < 45 ∨ k = 46 ∨ 64 < k) σ τ → Lin9 τ R n 1 (if R = 0 then 1 else 0) lim (bl9 lf rg) → P τ) : Cc (d + 2) mX3_prepareWeights [.ref 45, .ref 1, .int (iI lim)] σ (QV P) := by
  have hn := v.1
  have hR := v.2.1
  have hv : LV9 R n 1 (if R = 0 then 1 else 0) lim (bl9 lf rg) := ⟨by omega, by omega, by decide, by split <;> decide, by omega, fun r a b x y z => v.bal ⟨a, b⟩ x⟩
  refine Cc_of (by decide +kernel) (fun _ => Nat.le_of_ble_eq_true rfl) rfl (lv := [_, _, _, _, _]) ?_
  have K : ∀ (m : Nat) (r : Int) (υ : S9), 0 ≤ r → r + m = R → eq9 (fun k => k < 45 ∨ k = 46 ∨ 55 < k) σ υ → (gI υ 45 1 = R ∧ gI υ 45 2 = n ∧ gI υ 45 3 = 1 ∧ gI υ 45 7 = (if R = 0 then 1 else 0)) → (∀ s, 0 ≤ s → s < r → ∀ x, 0 ≤ x → x < n → gI υ (48 + s.toNat) x = (bl9 lf rg) s x) → ∀ l4, Vv (d + 2) mX3_prepareWeights 39 [.ref 45, .ref 1, .int (iI lim), .int (iI r), l4] [] υ (QV P) := by
    intro m
    induction m with
    | zero =>
      intro r υ hr hm he hw hd l4
      refine v_iload_n dX3_prepareWeights_39 rfl ?_
      refine v_aload_n dX3_prepareWeights_40 rfl ?_
      refine v_getI (ji := 1) dX3_prepareWeights_41 s_45 fX3_26 rfl ?_
      rw [hw.1]
      refine v_icmp_ge (tgt := 89) dX3_prepareWeights_44 (by decide) (by omega) (fun q44 => ?_) (fun q44 => absurd q44 (by omega))
      refine v_aload_n dX3_prepareWeights_89 rfl ?_
      refine v_iload_n dX3_prepareWeights_90 rfl ?_
      refine v_callVv1 dX3_prepareWeights_91 kX3_45 s_45 (Nat.le_of_ble_eq_true rfl) (c_X3_boundRows (le := 1) (zf := (if R = 0 then 1 else 0)) (cf := (bl9 lf rg)) hv hw.1 hw.2.1 (fun s a b => hd s a (by omega)) (fun τ e1 e2 => ?_))
      refine v_return dX3_prepareWeights_94 rfl (by
        have e45 := e1 45 (by omega)
        refine h τ (fun k hk => ?_) ⟨by rw [e45.1]; exact hw.1, by rw [e45.1]; exact hw.2.1, by rw [e45.1]; exact hw.2.2.1, by rw [e45.1]; exact hw.2.2.2, fun s a b => ⟨fun x y z => by rw [(e1 _ (by omega)).1]; exact hd s a (by omega) x y z, e2 s a b⟩⟩
        have h1 := he k (by omega)
        have h2 := e1 k (by omega)
        exact ⟨h2.1.trans h1.1, h2.2.1.trans h1.2.1, h2.2.2.1.trans h1.2.2.1, h2.2.2.2.trans h1.2.2.2⟩)
    | succ m ih =>
      intro r υ hr hm he hw hd l4
      have K2 : ∀ (j : Nat) (x : Int) (υ : S9), 0 ≤ x → x + j = n → eq9 (fun k => k < 45 ∨ k = 46 ∨ 55 < k) σ υ → (gI υ 45 1 = R ∧ gI υ 45 2 = n ∧ gI υ 45 3 = 1 ∧ gI υ 45 7 = (if R = 0 then 1 else 0)) → (∀ s, 0 ≤ s → s < r → ∀ x, 0 ≤ x → x < n → gI υ (48 + s.toNat) x = (bl9 lf rg) s x) → (∀ y, 0 ≤ y → y < x → gI υ (48 + r.toNat) y = (bl9 lf rg) r y) → Vv (d + 2) mX3_prepareWeights 50 [.ref 45, .ref 1, .int (iI lim), .int (iI r), .int (iI x)] [] υ (QV P) := by
        intro j
        induction j with
        | zero =>
          intro x υ hx hj he hw hd hy
          refine v_iload dX3_prepareWeights_50 rfl ?_
          refine v_aload_n dX3_prepareWeights_52 rfl ?_
          refine v_getI (ji := 2) dX3_prepareWeights_53 s_45 fX3_32 rfl ?_
          rw [hw.2.1]
          refine v_icmp_ge (tgt := 83) dX3_prepareWeights_56 (by decide) (by omega) (fun q56 => ?_) (fun q56 => absurd q56 (by omega))
          refine v_iinc (lv' := [_, _, _, _, _]) dX3_prepareWeights_83 rfl (Nat.le_of_ble_eq_true rfl) rfl rfl ?_
          refine v_goto (tgt := 39) dX3_prepareWeights_86 (by decide) ?_
          exact ih (r + 1) υ (by omega) (by omega) he hw (fun s a b y c e => if q : s = r then (by rw [q]; exact hy y c (by omega)) else hd s a (by omega) y c e) _
        | succ j ih2 =>
          intro x υ hx hj he hw hd hy
          have eb : gI υ (5 + (r).toNat) x = bal9 (lf r) (rg r) x := by rw [(he _ (by omega)).1]; exact c.b (by omega) (by omega)
          refine v_iload dX3_prepareWeights_50 rfl ?_
          refine v_aload_n dX3_prepareWeights_52 rfl ?_
          refine v_getI (ji := 2) dX3_prepareWeights_53 s_45 fX3_32 rfl ?_
          rw [hw.2.1]
          refine v_icmp_ge (tgt := 83) dX3_prepareWeights_56 (by decide) (by omega) (fun q56 => absurd q56 (by omega)) (fun q56 => ?_)
          refine v_aload_n dX3_prepareWeights_59 rfl ?_
          refine v_getR (k1 := 47) dX3_prepareWeights_60 s_45 fX3_9 rfl ?_
          refine v_iload_n dX3_prepareWeights_63 rfl ?_
          refine v_aaloadR (k1 := 48 + (r).toNat) dX3_prepareWeights_64 s_47 (by omega) (rfCf (by omega)) ?_
          refine v_iload dX3_prepareWeights_65 rfl ?_
          refine v_aload_n dX3_prepareWeights_67 rfl ?_
          refine v_getR (k1 := 4) dX3_prepareWeights_68 s_1 fX3_42 rfl ?_
          refine v_iload_n dX3_prepareWeights_71 rfl ?_
          refine v_aaloadR (k1 := 5 + (r).toNat) dX3_prepareWeights_72 s_4 (by omega) (rfB9 (by omega)) ?_
          refine v_iload dX3_prepareWeights_73 rfl ?_
          refine v_iaload dX3_prepareWeights_75 (shB9 (r := r) (by omega)) (by omega) ?_
          rw [eb]
          refine v_iastore dX3_prepareWeights_76 (shCf (r := r) (by omega)) (by omega) ?_
          refine v_iinc (lv' := [_, _, _, _, _]) dX3_prepareWeights_77 rfl (Nat.le_of_ble_eq_true rfl) rfl rfl ?_
          refine v_goto (tgt := 50) dX3_prepareWeights_80 (by decide) ?_
          refine ih2 (x + 1) _ (by omega) (by omega) (he.tr (eq9.aI (by omega))) (by rw [gI_aI_ne (by omega)]; exact hw) (fun s a b y c e => ?_) (fun y a b => ?_)
          · rw [gI_aI_ne (by omega)]; exact hd s a b y c e
          · rw [gI_aI_eq]
            by_cases e : y = x
            · rw [e, up9_eq]
            · rw [up9_ne e]; exact hy y a (by omega)
      refine v_iload_n dX3_prepareWeights_39 rfl ?_
      refine v_aload_n dX3_prepareWeights_40 rfl ?_
      refine v_getI (ji := 1) dX3_prepareWeights_41 s_45 fX3_26 rfl ?_
      rw [hw.1]
      refine v_icmp_ge (tgt := 89) dX3_prepareWeights_44 (by decide) (by omega) (fun q44 => absurd q44 (by omega)) (fun q44 => ?_)
      refine v_iconst dX3_prepareWeights_47 ?_
      refine v_istore (lv' := [_, _, _, _, _]) dX3_prepareWeights_48 (Nat.le_of_ble_eq_true rfl) rfl rfl ?_
      exact K2 (n).toNat 0 υ (by omega) (by omega) he hw hd (fun y a b => by omega)
  refine v_aload_n dX3_prepareWeights_0 rfl ?_
  refine v_aload_n dX3_prepareWeights_1 rfl ?_
  refine v_getI (ji := 1) dX3_prepareWeights_2 s_1 fX3_20 rfl ?_
  rw [c.2.1]
  refine v_putI (ji := 1) dX3_prepareWeights_5 s_45 pfX3_26 rfl ?_
  refine v_aload_n dX3_prepareWeights_8 rfl ?_
  refine v_aload_n dX3_prepareWeights_9 rfl ?_
  refine v_getI (ji := 0) dX3_prepareWeights_10 s_1 fX3_29 rfl ?_
  rw [gI_aI_ne (by decide), c.1]
  refine v_putI (ji := 2) dX3_prepareWeights_13 s_45 pfX3_32 rfl ?_
  refine v_aload_n dX3_prepareWeights_16 rfl ?_
  refine v_iconst dX3_prepareWeights_17 ?_
  refine v_putI (ji := 3) dX3_prepareWeights_18 s_45 pfX3_35 rfl ?_
  refine v_aload_n dX3_prepareWeights_21 rfl ?_
  refine v_aload_n dX3_prepareWeights_22 rfl ?_
  refine v_getI (ji := 1) dX3_prepareWeights_23 s_45 fX3_26 rfl ?_
  rw [gI_aI_eq, up9_ne (by decide), gI_aI_eq, up9_ne (by decide), gI_aI_eq, up9_eq]
  refine v_if_ne (tgt := 33) dX3_prepareWeights_26 (by decide) (by omega) (fun q26 => ?_) (fun q26 => ?_)
  · refine v_iconst dX3_prepareWeights_33 ?_
    refine v_putZ (ji := 7) dX3_prepareWeights_34 s_45 pfX3_38 rfl (by decide) ?_
    refine v_iconst dX3_prepareWeights_37 ?_
    refine v_istore_n (lv' := [_, _, _, _, _]) dX3_prepareWeights_38 (Nat.le_of_ble_eq_true rfl) rfl rfl ?_
    refine K R.toNat 0 _ (by omega) (by omega) ((((eq9.aI (by omega)).tr (eq9.aI (by omega))).tr (eq9.aI (by omega))).tr (eq9.aI (by omega))) ⟨?_, ?_, ?_, ?_⟩ (fun s a b => by omega) _
    · rw [gI_aI_eq, up9_ne (by decide), gI_aI_eq, up9_ne (by decide), gI_aI_eq, up9_ne (by decide), gI_aI_eq, up9_eq]
    · rw [gI_aI_eq, up9_ne (by decide), gI_aI_eq, up9_ne (by decide), gI_aI_eq, up9_eq]
    · rw [gI_aI_eq, up9_ne (by decide), gI_aI_eq, up9_eq]
    · rw [gI_aI_eq, up9_eq]; first | exact (if_pos q26).symm | exact (if_neg q26).symm
  · refine v_iconst dX3_prepareWeights_29 ?_
    refine v_goto (tgt := 34) dX3_prepareWeights_30 (by decide) ?_
    refine v_putZ (ji := 7) dX3_prepareWeights_34 s_45 pfX3_38 rfl (by decide) ?_
    refine v_iconst dX3_prepareWeights_37 ?_
    refine v_istore_n (lv' := [_, _, _, _, _]) dX3_prepareWeights_38 (Nat.le_of_ble_eq_true rfl) rfl rfl ?_
    refine K R.toNat 0 _ (by omega) (by omega) ((((eq9.aI (by omega)).tr (eq9.aI (by omega))).tr (eq9.aI (by omega))).tr (eq9.aI (by omega))) ⟨?_, ?_, ?_, ?_⟩ (fun s a b => by omega) _
    · rw [gI_aI_eq, up9_ne (by decide), gI_aI_eq, up9_ne (by decide), gI_aI_eq, up9_ne (by decide), gI_aI_eq, up9_eq]
    · rw [gI_aI_eq, up9_ne (by decide), gI_aI_eq, up9_ne (by decide), gI_aI_eq, up9_eq]
    · rw [gI_aI_eq, up9_ne (by decide), gI_aI_eq, up9_eq]
    · rw [gI_aI_eq, up9_eq]; first | exact (if_pos q26).symm | exact (if_neg q26).symm
theorem c_X3_prepareCertificate {P : S9 → Prop} (v : Va n R lf rg wt lev stt ap str) (c : SyC σ 1 n R lf rg wt lev stt ap str) (h : ∀ τ, eq9 (fun k => k < 45 ∨ k = 46 ∨ 64 < k) σ τ → Lin9 τ n R 0 0 3 (fun x r => -bal9 (lf r) (rg r) x) → P τ) : Cc (d + 2) mX3_prepareCertificate [.ref 45, .ref 1, .int (iI 3)] σ (QV P) := by
  have hn := v.1
  have hR := v.2.1
  have hv : LV9 n R 0 0 3 (fun x r => -bal9 (lf r) (rg r) x) := ⟨by omega, by omega, by decide, by decide, by omega, fun r a b x y z => (by have := v.bal (r := x) ⟨y, z⟩ r; show -6 ≤ -bal9 (lf x) (rg x) r ∧ -bal9 (lf x) (rg x) r ≤ 6; omega)⟩
  refine Cc_of (by decide +kernel) (fun _ => Nat.le_of_ble_eq_true rfl) rfl (lv := [_, _, _, _, _]) ?_
  have K : ∀ (m : Nat) (r : Int) (υ : S9), 0 ≤ r → r + m = n → eq9 (fun k => k < 45 ∨ k = 46 ∨ 55 < k) σ υ → (gI υ 45 1 = n ∧ gI υ 45 2 = R ∧ gI υ 45 3 = 0 ∧ gI υ 45 7 = 0) → (∀ s, 0 ≤ s → s < r → ∀ x, 0 ≤ x → x < R → gI υ (48 + s.toNat) x = (fun x r => -bal9 (lf r) (rg r) x) s x) → ∀ l4, Vv (d + 2) mX3_prepareCertificate 28 [.ref 45, .ref 1, .int (iI 3), .int (iI r), l4] [] υ (QV P) := by
    intro m
    induction m with
    | zero =>
      intro r υ hr hm he hw hd l4
      refine v_iload_n dX3_prepareCertificate_28 rfl ?_
      refine v_aload_n dX3_prepareCertificate_29 rfl ?_
      refine v_getI (ji := 1) dX3_prepareCertificate_30 s_45 fX3_26 rfl ?_
      rw [hw.1]
      refine v_icmp_ge (tgt := 79) dX3_prepareCertificate_33 (by decide) (by omega) (fun q33 => ?_) (fun q33 => absurd q33 (by omega))
      refine v_aload_n dX3_prepareCertificate_79 rfl ?_
      refine v_iload_n dX3_prepareCertificate_80 rfl ?_
      refine v_callVv1 dX3_prepareCertificate_81 kX3_45 s_45 (Nat.le_of_ble_eq_true rfl) (c_X3_boundRows (le := 0) (zf := 0) (cf := (fun x r => -bal9 (lf r) (rg r) x)) hv hw.1 hw.2.1 (fun s a b => hd s a (by omega)) (fun τ e1 e2 => ?_))
      refine v_return dX3_prepareCertificate_84 rfl (by
        have e45 := e1 45 (by omega)
        refine h τ (fun k hk => ?_) ⟨by rw [e45.1]; exact hw.1, by rw [e45.1]; exact hw.2.1, by rw [e45.1]; exact hw.2.2.1, by rw [e45.1]; exact hw.2.2.2, fun s a b => ⟨fun x y z => by rw [(e1 _ (by omega)).1]; exact hd s a (by omega) x y z, e2 s a b⟩⟩
        have h1 := he k (by omega)
        have h2 := e1 k (by omega)
        exact ⟨h2.1.trans h1.1, h2.2.1.trans h1.2.1, h2.2.2.1.trans h1.2.2.1, h2.2.2.2.trans h1.2.2.2⟩)
    | succ m ih =>
      intro r υ hr hm he hw hd l4
      have K2 : ∀ (j : Nat) (x : Int) (υ : S9), 0 ≤ x → x + j = R → eq9 (fun k => k < 45 ∨ k = 46 ∨ 55 < k) σ υ → (gI υ 45 1 = n ∧ gI υ 45 2 = R ∧ gI υ 45 3 = 0 ∧ gI υ 45 7 = 0) → (∀ s, 0 ≤ s → s < r → ∀ x, 0 ≤ x → x < R → gI υ (48 + s.toNat) x = (fun x r => -bal9 (lf r) (rg r) x) s x) → (∀ y, 0 ≤ y → y < x → gI υ (48 + r.toNat) y = (fun x r => -bal9 (lf r) (rg r) x) r y) → Vv (d + 2) mX3_prepareCertificate 39 [.ref 45, .ref 1, .int (iI 3), .int (iI r), .int (iI x)] [] υ (QV P) := by
        intro j
        induction j with
        | zero =>
          intro x υ hx hj he hw hd hy
          refine v_iload dX3_prepareCertificate_39 rfl ?_
          refine v_aload_n dX3_prepareCertificate_41 rfl ?_
          refine v_getI (ji := 2) dX3_prepareCertificate_42 s_45 fX3_32 rfl ?_
          rw [hw.2.1]
          refine v_icmp_ge (tgt := 73) dX3_prepareCertificate_45 (by decide) (by omega) (fun q45 => ?_) (fun q45 => absurd q45 (by omega))
          refine v_iinc (lv' := [_, _, _, _, _]) dX3_prepareCertificate_73 rfl (Nat.le_of_ble_eq_true rfl) rfl rfl ?_
          refine v_goto (tgt := 28) dX3_prepareCertificate_76 (by decide) ?_
          exact ih (r + 1) υ (by omega) (by omega) he hw (fun s a b y c e => if q : s = r then (by rw [q]; exact hy y c (by omega)) else hd s a (by omega) y c e) _
        | succ j ih2 =>
          intro x υ hx hj he hw hd hy
          have eb : gI υ (5 + (x).toNat) r = bal9 (lf x) (rg x) r := by rw [(he _ (by omega)).1]; exact c.b (by omega) (by omega)
          refine v_iload dX3_prepareCertificate_39 rfl ?_
          refine v_aload_n dX3_prepareCertificate_41 rfl ?_
          refine v_getI (ji := 2) dX3_prepareCertificate_42 s_45 fX3_32 rfl ?_
          rw [hw.2.1]
          refine v_icmp_ge (tgt := 73) dX3_prepareCertificate_45 (by decide) (by omega) (fun q45 => absurd q45 (by omega)) (fun q45 => ?_)
          refine v_aload_n dX3_prepareCertificate_48 rfl ?_
          refine v_getR (k1 := 47) dX3_prepareCertificate_49 s_45 fX3_9 rfl ?_
          refine v_iload_n dX3_prepareCertificate_52 rfl ?_
          refine v_aaloadR (k1 := 48 + (r).toNat) dX3_prepareCertificate_53 s_47 (by omega) (rfCf (by omega)) ?_
          refine v_iload dX3_prepareCertificate_54 rfl ?_
          refine v_aload_n dX3_prepareCertificate_56 rfl ?_
          refine v_getR (k1 := 4) dX3_prepareCertificate_57 s_1 fX3_42 rfl ?_
          refine v_iload dX3_prepareCertificate_60 rfl ?_
          refine v_aaloadR (k1 := 5 + (x).toNat) dX3_prepareCertificate_62 s_4 (by omega) (rfB9 (by omega)) ?_
          refine v_iload_n dX3_prepareCertificate_63 rfl ?_
          refine v_iaload dX3_prepareCertificate_64 (shB9 (r := x) (by omega)) (by omega) ?_
          rw [eb]
          refine v_ineg dX3_prepareCertificate_65 ?_
          refine v_iastore dX3_prepareCertificate_66 (shCf (r := r) (by omega)) (by omega) ?_
          refine v_iinc (lv' := [_, _, _, _, _]) dX3_prepareCertificate_67 rfl (Nat.le_of_ble_eq_true rfl) rfl rfl ?_
          refine v_goto (tgt := 39) dX3_prepareCertificate_70 (by decide) ?_
          refine ih2 (x + 1) _ (by omega) (by omega) (he.tr (eq9.aI (by omega))) (by rw [gI_aI_ne (by omega)]; exact hw) (fun s a b y c e => ?_) (fun y a b => ?_)
          · rw [gI_aI_ne (by omega)]; exact hd s a b y c e
          · rw [gI_aI_eq]
            by_cases e : y = x
            · rw [e, up9_eq]
            · rw [up9_ne e]; exact hy y a (by omega)
      refine v_iload_n dX3_prepareCertificate_28 rfl ?_
      refine v_aload_n dX3_prepareCertificate_29 rfl ?_
      refine v_getI (ji := 1) dX3_prepareCertificate_30 s_45 fX3_26 rfl ?_
      rw [hw.1]
      refine v_icmp_ge (tgt := 79) dX3_prepareCertificate_33 (by decide) (by omega) (fun q33 => absurd q33 (by omega)) (fun q33 => ?_)
      refine v_iconst dX3_prepareCertificate_36 ?_
      refine v_istore (lv' := [_, _, _, _, _]) dX3_prepareCertificate_37 (Nat.le_of_ble_eq_true rfl) rfl rfl ?_
      exact K2 (R).toNat 0 υ (by omega) (by omega) he hw hd (fun y a b => by omega)
  refine v_aload_n dX3_prepareCertificate_0 rfl ?_
  refine v_aload_n dX3_prepareCertificate_1 rfl ?_
  refine v_getI (ji := 0) dX3_prepareCertificate_2 s_1 fX3_29 rfl ?_
  rw [c.1]
  refine v_putI (ji := 1) dX3_prepareCertificate_5 s_45 pfX3_26 rfl ?_
  refine v_aload_n dX3_prepareCertificate_8 rfl ?_
  refine v_aload_n dX3_prepareCertificate_9 rfl ?_
  refine v_getI (ji := 1) dX3_prepareCertificate_10 s_1 fX3_20 rfl ?_
  rw [gI_aI_ne (by decide), c.2.1]
  refine v_putI (ji := 2) dX3_prepareCertificate_13 s_45 pfX3_32 rfl ?_
  refine v_aload_n dX3_prepareCertificate_16 rfl ?_
  refine v_iconst dX3_prepareCertificate_17 ?_
  refine v_putI (ji := 3) dX3_prepareCertificate_18 s_45 pfX3_35 rfl ?_
  refine v_aload_n dX3_prepareCertificate_21 rfl ?_
  refine v_iconst dX3_prepareCertificate_22 ?_
  refine v_putZ (ji := 7) dX3_prepareCertificate_23 s_45 pfX3_38 rfl (by decide) ?_
  refine v_iconst dX3_prepareCertificate_26 ?_
  refine v_istore_n (lv' := [_, _, _, _, _]) dX3_prepareCertificate_27 (Nat.le_of_ble_eq_true rfl) rfl rfl ?_
  refine K n.toNat 0 _ (by omega) (by omega) ((((eq9.aI (by omega)).tr (eq9.aI (by omega))).tr (eq9.aI (by omega))).tr (eq9.aI (by omega))) ⟨?_, ?_, ?_, ?_⟩ (fun s a b => by omega) _
  · rw [gI_aI_eq, up9_ne (by decide), gI_aI_eq, up9_ne (by decide), gI_aI_eq, up9_ne (by decide), gI_aI_eq, up9_eq]
  · rw [gI_aI_eq, up9_ne (by decide), gI_aI_eq, up9_ne (by decide), gI_aI_eq, up9_eq]
  · rw [gI_aI_eq, up9_ne (by decide), gI_aI_eq, up9_eq]
  · rw [gI_aI_eq, up9_eq]
/-- weights that make each rule lighter -/
abbrev FW9 (n R : Int) (lf rg : Int → List Int) : (Int → Int) → Prop := FL9 R n 1 (if R = 0 then 1 else 0) (bl9 lf rg)
abbrev FC9 (n R : Int) (lf rg : Int → List Int) : (Int → Int) → Prop := FL9 n R 0 0 (fun x r => -bal9 (lf r) (rg r) x)
theorem big9 {b m : Int} (hb : 0 ≤ b ∧ b ≤ 7) (hm : 0 ≤ m ∧ m ≤ 6) : b ^ m.toNat * m + m < 1000000 := by
  have : ∀ (b : Fin 8) (k : Fin 7), ((b.1 : Nat) : Int) ^ k.1 * ((k.1 : Nat) : Int) + ((k.1 : Nat) : Int) < 1000000 := by decide +kernel
  have h := this ⟨b.toNat, by omega⟩ ⟨m.toNat, by omega⟩
  rw [show (((⟨b.toNat, by omega⟩ : Fin 8).1 : Nat) : Int) = b by show ((b.toNat : Nat) : Int) = b; omega, show (((⟨m.toNat, by omega⟩ : Fin 7).1 : Nat) : Int) = m by show ((m.toNat : Nat) : Int) = m; omega] at h
  exact h
theorem big8 {m : Int} (hm : 0 ≤ m ∧ m ≤ 8) : (3 + 1 : Int) ^ m.toNat * m + m < 1000000 := by
  have : ∀ (k : Fin 9), (3 + 1 : Int) ^ k.1 * ((k.1 : Nat) : Int) + ((k.1 : Nat) : Int) < 1000000 := by decide +kernel
  have h := this ⟨m.toNat, by omega⟩
  rw [show (((⟨m.toNat, by omega⟩ : Fin 9).1 : Nat) : Int) = m by show ((m.toNat : Nat) : Int) = m; omega] at h
  exact h
theorem c_X9_findWeights {lim : Int} {P : Int → S9 → Prop} (v : Va n R lf rg wt lev stt ap str) (c : SyC σ 1 n R lf rg wt lev stt ap str) (hz : ∀ x, 0 ≤ x → x < 8 → gI σ 66 x = 0) (hl : (-2147483648 ≤ lim ∧ lim < 2147483648)) (h1 : ¬ (1 ≤ lim ∧ lim ≤ 6) → P (-1) σ) (h2 : 1 ≤ lim ∧ lim ≤ 6 → All9 (lim + 1) n.toNat (FW9 n R lf rg) → ∀ τ, eq9 (fun k => k < 45 ∨ k = 66 ∨ 74 < k) σ τ → P (-6) τ) (h3 : 1 ≤ lim ∧ lim ≤ 6 → ∀ g, Fst9 (lim + 1) n.toNat (FW9 n R lf rg) g → ∀ τ, eq9 (fun k => (k < 45 ∧ k ≠ 13) ∨ k = 66 ∨ 74 < k) σ τ → (∀ x, gI τ 13 x = if 0 ≤ x ∧ x < n then g x else gI σ 13 x) → P (sm9 g (fun _ => 1) n.toNat) τ) : Cc (d + 4) mX9_findWeights [.ref 0, .int (iI lim)] σ (QI P) := by
  have hn := v.1
  have hR := v.2.1
  refine Cc_of (by decide +kernel) (fun _ => Nat.le_of_ble_eq_true rfl) rfl (lv := [_, _, _, _]) ?_
  have K : 1 ≤ lim ∧ lim ≤ 6 → ∀ (τ : S9) (g : Int → Int), g = gI τ 46 → Fst9 (lim + 1) n.toNat (FW9 n R lf rg) g → eq9 (fun k => k < 45 ∨ k = 66 ∨ 74 < k) σ τ → ∀ (m : Nat) (x : Int) (υ : S9), 0 ≤ x → x + m = n → υ = aI τ 13 (fun y => if 0 ≤ y ∧ y < x then g y else gI σ 13 y) → Vv (d + 4) mX9_findWeights 50 [.ref 0, .int (iI lim), .int (iI (sm9 g (fun _ => 1) x.toNat)), .int (iI x)] [] υ (QI P) := by
    intro hl τ g hg hF he m
    induction m with
    | zero =>
      intro x υ hx hm hu
      have e1 : gI υ 1 0 = n := by rw [hu, gI_aI_ne (by decide), (he 1 (by omega)).1]; exact c.1
      refine v_iload_n dX9_findWeights_50 rfl ?_
      refine v_aload_n dX9_findWeights_51 rfl ?_
      refine v_getR (k1 := 1) dX9_findWeights_52 s_0 fX9_14 rfl ?_
      refine v_getI (ji := 0) dX9_findWeights_55 s_1 fX9_71 rfl ?_
      rw [e1]
      refine v_icmp_ge (tgt := 97) dX9_findWeights_58 (by decide) (by omega) (fun q58 => ?_) (fun q58 => absurd q58 (by omega))
      refine v_iload_n dX9_findWeights_97 rfl ?_
      refine v_ireturn dX9_findWeights_98 rfl (by
        rw [show x.toNat = n.toNat by omega]
        refine h3 hl g hF υ ?_ (fun y => ?_)
        · rw [hu]; exact (he.mono (fun k hk => by omega)).tr (eq9.aI (by omega))
        · rw [hu, gI_aI_eq, show x = n by omega])
    | succ m ih =>
      intro x υ hx hm hu
      have e1 : gI υ 1 0 = n := by rw [hu, gI_aI_ne (by decide), (he 1 (by omega)).1]; exact c.1
      have e2 : gI υ 46 x = g x := by rw [hu, gI_aI_ne (by decide), hg]
      have e3 : sI υ 13 x (g x) = aI τ 13 (fun y => if 0 ≤ y ∧ y < x + 1 then g y else gI σ 13 y) := by
        rw [hu]
        refine S9ext (fun k2 => ?_) (fun _ => rfl) (fun _ => rfl) (fun _ => rfl)
        by_cases e : k2 = 13
        · subst e
          rw [gI_aI_eq, gI_aI_eq, gI_aI_eq]
          funext y
          by_cases e2 : y = x
          · subst e2
            rw [up9_eq]
            exact (if_pos (by omega)).symm
          · rw [up9_ne e2]
            by_cases e3 : 0 ≤ y ∧ y < x
            · rw [if_pos e3, if_pos (by omega)]
            · rw [if_neg e3, if_neg (by omega)]
        · rw [gI_aI_ne e, gI_aI_ne e, gI_aI_ne e]
      refine v_iload_n dX9_findWeights_50 rfl ?_
      refine v_aload_n dX9_findWeights_51 rfl ?_
      refine v_getR (k1 := 1) dX9_findWeights_52 s_0 fX9_14 rfl ?_
      refine v_getI (ji := 0) dX9_findWeights_55 s_1 fX9_71 rfl ?_
      rw [e1]
      refine v_icmp_ge (tgt := 97) dX9_findWeights_58 (by decide) (by omega) (fun q58 => absurd q58 (by omega)) (fun q58 => ?_)
      refine v_aload_n dX9_findWeights_61 rfl ?_
      refine v_getR (k1 := 1) dX9_findWeights_62 s_0 fX9_14 rfl ?_
      refine v_getR (k1 := 13) dX9_findWeights_65 s_1 fX9_135 rfl ?_
      refine v_iload_n dX9_findWeights_68 rfl ?_
      refine v_aload_n dX9_findWeights_69 rfl ?_
      refine v_getR (k1 := 45) dX9_findWeights_70 s_0 fX9_49 rfl ?_
      refine v_getR (k1 := 46) dX9_findWeights_73 s_45 fX9_166 rfl ?_
      refine v_iload_n dX9_findWeights_76 rfl ?_
      refine v_iaload dX9_findWeights_77 s_46 (by omega) ?_
      rw [e2]
      refine v_iastore dX9_findWeights_78 s_13 (by omega) ?_
      refine v_iload_n dX9_findWeights_79 rfl ?_
      refine v_aload_n dX9_findWeights_80 rfl ?_
      refine v_getR (k1 := 45) dX9_findWeights_81 s_0 fX9_49 rfl ?_
      refine v_getR (k1 := 46) dX9_findWeights_84 s_45 fX9_166 rfl ?_
      refine v_iload_n dX9_findWeights_87 rfl ?_
      refine v_iaload dX9_findWeights_88 s_46 (by omega) ?_
      rw [gI_aI_ne (by decide), e2]
      refine v_iadd dX9_findWeights_89 ?_
      refine v_istore_n (lv' := [_, _, _, _]) dX9_findWeights_90 (Nat.le_of_ble_eq_true rfl) rfl rfl ?_
      refine v_iinc (lv' := [_, _, _, _]) dX9_findWeights_91 rfl (Nat.le_of_ble_eq_true rfl) rfl rfl ?_
      refine v_goto (tgt := 50) dX9_findWeights_94 (by decide) ?_
      have := ih (x + 1) _ (by omega) (by omega) e3
      rw [show (x + 1).toNat = x.toNat + 1 by omega, sm9, show ((x.toNat : Nat) : Int) = x by omega, Int.mul_one] at this
      exact this
  refine v_iload_n dX9_findWeights_0 rfl ?_
  refine v_iconst dX9_findWeights_1 ?_
  refine v_icmp_lt (tgt := 11) dX9_findWeights_2 (by decide) (by omega) (fun q2 => ?_) (fun q2 => ?_)
  · refine v_iconst dX9_findWeights_11 ?_
    exact v_ireturn dX9_findWeights_12 rfl (h1 (by omega))
  · refine v_iload_n dX9_findWeights_5 rfl ?_
    refine v_bipush dX9_findWeights_6 (by decide) ?_
    refine v_icmp_le (tgt := 13) dX9_findWeights_8 (by decide) (by omega) (fun q8 => ?_) (fun q8 => ?_)
    · refine v_aload_n dX9_findWeights_13 rfl ?_
      refine v_getR (k1 := 45) dX9_findWeights_14 s_0 fX9_49 rfl ?_
      refine v_aload_n dX9_findWeights_17 rfl ?_
      refine v_getR (k1 := 1) dX9_findWeights_18 s_0 fX9_14 rfl ?_
      refine v_iload_n dX9_findWeights_21 rfl ?_
      have hv : LV9 R n 1 (if R = 0 then 1 else 0) lim (bl9 lf rg) := ⟨by omega, by omega, by decide, by split <;> decide, by omega, fun r a b x y z => v.bal ⟨a, b⟩ x⟩
      refine v_callVv2 dX9_findWeights_22 kX9_159 s_45 (Nat.le_of_ble_eq_true rfl) (c_X3_prepareWeights v c (by omega) (fun τ e1 L => ?_))
      refine v_aload_n dX9_findWeights_25 rfl ?_
      refine v_getR (k1 := 45) dX9_findWeights_26 s_0 fX9_49 rfl ?_
      refine v_aload_n dX9_findWeights_29 rfl ?_
      refine v_getR (k1 := 1) dX9_findWeights_30 s_0 fX9_14 rfl ?_
      refine v_getI (ji := 0) dX9_findWeights_33 s_1 fX9_71 rfl ?_
      rw [(e1 1 (by omega)).1, c.1]
      refine v_iload_n dX9_findWeights_36 rfl ?_
      refine v_callUi2 dX9_findWeights_37 kX9_163 s_45 (Nat.le_of_ble_eq_true rfl) (c_X6_findFirst_45 (F := FL9 R n 1 (if R = 0 then 1 else 0) (bl9 lf rg)) (J := fun υ c => JL9 τ υ R (bl9 lf rg) c) (E := EL9 τ) (by omega) (by omega) (fun _ => big9 (by omega) (by omega)) (fun z => ?_) (fun _ => ⟨eq9.aI (by omega), fun j j0 j1 r r0 r1 => by rw [gI_aI_ne (by omega), show j = 0 by omega]; show gI τ 66 r = 0; rw [(e1 66 (by omega)).1]; exact hz r r0 (by omega)⟩) (fun υ c Q a b c2 J D k0 k1 => c_X3_mayFit hv L a b c2 J D k0 k1) (fun υ _ hE hF => ?_) (fun υ _ hE hA => ?_))
      · exact absurd z (by omega)
      · have eE : eq9 (fun k => k < 45 ∨ k = 66 ∨ 74 < k) σ υ := (e1.mono (fun k hk => by omega)).tr (hE.mono (fun k hk => by omega))
        refine v_if_ne (tgt := 46) dX9_findWeights_40 (by decide) (by decide) (fun q40 => ?_) (fun q40 => absurd q40 (by decide))
        refine v_iconst dX9_findWeights_46 ?_
        refine v_istore_n (lv' := [_, _, _, _]) dX9_findWeights_47 (Nat.le_of_ble_eq_true rfl) rfl rfl ?_
        refine v_iconst dX9_findWeights_48 ?_
        refine v_istore_n (lv' := [_, _, _, _]) dX9_findWeights_49 (Nat.le_of_ble_eq_true rfl) rfl rfl ?_
        have e0 : υ = aI υ 13 (fun y => if 0 ≤ y ∧ y < (0 : Int) then gI υ 46 y else gI σ 13 y) := by
          have q : (fun y => if 0 ≤ y ∧ y < (0 : Int) then gI υ 46 y else gI σ 13 y) = gI υ 13 := by
            funext y; rw [if_neg (by omega), (eE 13 (by omega)).1]
          rw [q, aI_id]
        exact K (by omega) υ _ rfl hF eE n.toNat 0 υ (by omega) (by omega) e0
      · have eE : eq9 (fun k => k < 45 ∨ k = 66 ∨ 74 < k) σ υ := (e1.mono (fun k hk => by omega)).tr (hE.mono (fun k hk => by omega))
        refine v_if_ne (tgt := 46) dX9_findWeights_40 (by decide) (by decide) (fun q40 => absurd q40 (by decide)) (fun q40 => ?_)
        refine v_bipush dX9_findWeights_43 (by decide) ?_
        exact v_ireturn dX9_findWeights_45 rfl (h2 (by omega) hA υ eE)
    · refine v_iconst dX9_findWeights_11 ?_
      exact v_ireturn dX9_findWeights_12 rfl (h1 (by omega))
theorem c_X9_findCertificate {P : Int → S9 → Prop} (v : Va n R lf rg wt lev stt ap str) (c : SyC σ 1 n R lf rg wt lev stt ap str) (hz : ∀ x, 0 ≤ x → x < 8 → gI σ 66 x = 0) (h2 : All9 4 R.toNat (FC9 n R lf rg) → ∀ τ, eq9 (fun k => k < 45 ∨ k = 66 ∨ 74 < k) σ τ → P (-6) τ) (h3 : ∀ g, Fst9 4 R.toNat (FC9 n R lf rg) g → ∀ τ, eq9 (fun k => k < 45 ∨ k = 66 ∨ 74 < k) σ τ → P (val9 4 g R.toNat) τ) : Cc (d + 4) mX9_findCertificate [.ref 0] σ (QI P) := by
  have hn := v.1
  have hR := v.2.1
  refine Cc_of (by decide +kernel) (fun _ => Nat.le_of_ble_eq_true rfl) rfl (lv := [_, _, _]) ?_
  have hv : LV9 n R 0 0 3 (fun x r => -bal9 (lf r) (rg r) x) := ⟨by omega, by omega, by decide, by decide, by omega, fun r a b x y z => (by have := v.bal (r := x) ⟨y, z⟩ r; show -6 ≤ -bal9 (lf x) (rg x) r ∧ -bal9 (lf x) (rg x) r ≤ 6; omega)⟩
  have K : ∀ (τ : S9), Fst9 4 R.toNat (FC9 n R lf rg) (gI τ 46) → eq9 (fun k => k < 45 ∨ k = 66 ∨ 74 < k) σ τ → ∀ (m : Nat) (x : Int), 0 ≤ x → x + m = R → Vv (d + 4) mX9_findCertificate 37 [.ref 0, .int (iI (val9 4 (gI τ 46) x.toNat)), .int (iI x)] [] τ (QI P) := by
    intro τ hF he m
    have e1 : gI τ 1 1 = R := by rw [(he 1 (by omega)).1]; exact c.2.1
    induction m with
    | zero =>
      intro x hx hm
      refine v_iload_n dX9_findCertificate_37 rfl ?_
      refine v_aload_n dX9_findCertificate_38 rfl ?_
      refine v_getR (k1 := 1) dX9_findCertificate_39 s_0 fX9_14 rfl ?_
      refine v_getI (ji := 1) dX9_findCertificate_42 s_1 fX9_93 rfl ?_
      rw [e1]
      refine v_icmp_ge (tgt := 68) dX9_findCertificate_45 (by decide) (by omega) (fun q45 => ?_) (fun q45 => absurd q45 (by omega))
      refine v_iload_n dX9_findCertificate_68 rfl ?_
      exact v_ireturn dX9_findCertificate_69 rfl (by rw [show x.toNat = R.toNat by omega]; exact h3 _ hF τ he)
    | succ m ih =>
      intro x hx hm
      refine v_iload_n dX9_findCertificate_37 rfl ?_
      refine v_aload_n dX9_findCertificate_38 rfl ?_
      refine v_getR (k1 := 1) dX9_findCertificate_39 s_0 fX9_14 rfl ?_
      refine v_getI (ji := 1) dX9_findCertificate_42 s_1 fX9_93 rfl ?_
      rw [e1]
      refine v_icmp_ge (tgt := 68) dX9_findCertificate_45 (by decide) (by omega) (fun q45 => absurd q45 (by omega)) (fun q45 => ?_)
      refine v_iconst dX9_findCertificate_48 ?_
      refine v_iload_n dX9_findCertificate_49 rfl ?_
      refine v_imul dX9_findCertificate_50 ?_
      refine v_aload_n dX9_findCertificate_51 rfl ?_
      refine v_getR (k1 := 45) dX9_findCertificate_52 s_0 fX9_49 rfl ?_
      refine v_getR (k1 := 46) dX9_findCertificate_55 s_45 fX9_166 rfl ?_
      refine v_iload_n dX9_findCertificate_58 rfl ?_
      refine v_iaload dX9_findCertificate_59 s_46 (by omega) ?_
      refine v_iadd dX9_findCertificate_60 ?_
      refine v_istore_n (lv' := [_, _, _]) dX9_findCertificate_61 (Nat.le_of_ble_eq_true rfl) rfl rfl ?_
      refine v_iinc (lv' := [_, _, _]) dX9_findCertificate_62 rfl (Nat.le_of_ble_eq_true rfl) rfl rfl ?_
      refine v_goto (tgt := 37) dX9_findCertificate_65 (by decide) ?_
      have := ih (x + 1) (by omega) (by omega)
      rw [show (x + 1).toNat = x.toNat + 1 by omega, val9, show ((x.toNat : Nat) : Int) = x by omega, Int.mul_comm] at this
      exact this
  refine v_aload_n dX9_findCertificate_0 rfl ?_
  refine v_getR (k1 := 45) dX9_findCertificate_1 s_0 fX9_49 rfl ?_
  refine v_aload_n dX9_findCertificate_4 rfl ?_
  refine v_getR (k1 := 1) dX9_findCertificate_5 s_0 fX9_14 rfl ?_
  refine v_iconst dX9_findCertificate_8 ?_
  refine v_callVv2 dX9_findCertificate_9 kX9_169 s_45 (Nat.le_of_ble_eq_true rfl) (c_X3_prepareCertificate v c (fun τ e1 L => ?_))
  refine v_aload_n dX9_findCertificate_12 rfl ?_
  refine v_getR (k1 := 45) dX9_findCertificate_13 s_0 fX9_49 rfl ?_
  refine v_aload_n dX9_findCertificate_16 rfl ?_
  refine v_getR (k1 := 1) dX9_findCertificate_17 s_0 fX9_14 rfl ?_
  refine v_getI (ji := 1) dX9_findCertificate_20 s_1 fX9_93 rfl ?_
  rw [(e1 1 (by omega)).1, c.2.1]
  refine v_iconst dX9_findCertificate_23 ?_
  refine v_callUi2 dX9_findCertificate_24 kX9_163 s_45 (Nat.le_of_ble_eq_true rfl) (c_X6_findFirst_45 (F := FL9 n R 0 0 (fun x r => -bal9 (lf r) (rg r) x)) (J := fun υ c => JL9 τ υ n (fun x r => -bal9 (lf r) (rg r) x) c) (E := EL9 τ) (by omega) (by omega) (fun _ => big8 (by omega)) (fun z => ?_) (fun _ => ⟨eq9.aI (by omega), fun j j0 j1 r r0 r1 => by rw [gI_aI_ne (by omega), show j = 0 by omega]; show gI τ 66 r = 0; rw [(e1 66 (by omega)).1]; exact hz r r0 (by omega)⟩) (fun υ c Q a b c2 J D k0 k1 => c_X3_mayFit hv L a b c2 J D k0 k1) (fun υ _ hE hF => ?_) (fun υ _ hE hA => ?_))
  · refine v_if_ne (tgt := 33) dX9_findCertificate_27 (by decide) (by decide) (fun q27 => absurd q27 (by decide)) (fun q27 => ?_)
    refine v_bipush dX9_findCertificate_30 (by decide) ?_
    exact v_ireturn dX9_findCertificate_32 rfl (h2 (fun e he hF => hF.2.elim (fun y => y rfl) (fun ⟨k, a, b, _⟩ => by omega)) τ (e1.mono (fun k hk => by omega)))
  · have eE : eq9 (fun k => k < 45 ∨ k = 66 ∨ 74 < k) σ υ := (e1.mono (fun k hk => by omega)).tr (hE.mono (fun k hk => by omega))
    refine v_if_ne (tgt := 33) dX9_findCertificate_27 (by decide) (by decide) (fun q27 => ?_) (fun q27 => absurd q27 (by decide))
    refine v_iconst dX9_findCertificate_33 ?_
    refine v_istore_n (lv' := [_, _, _]) dX9_findCertificate_34 (Nat.le_of_ble_eq_true rfl) rfl rfl ?_
    refine v_iconst dX9_findCertificate_35 ?_
    refine v_istore_n (lv' := [_, _, _]) dX9_findCertificate_36 (Nat.le_of_ble_eq_true rfl) rfl rfl ?_
    exact K υ hF eE R.toNat 0 (by omega) (by omega)
  · have eE : eq9 (fun k => k < 45 ∨ k = 66 ∨ 74 < k) σ υ := (e1.mono (fun k hk => by omega)).tr (hE.mono (fun k hk => by omega))
    refine v_if_ne (tgt := 33) dX9_findCertificate_27 (by decide) (by decide) (fun q27 => absurd q27 (by decide)) (fun q27 => ?_)
    refine v_bipush dX9_findCertificate_30 (by decide) ?_
    exact v_ireturn dX9_findCertificate_32 rfl (h2 hA υ eE)
end
