section
variable {d : Nat} {n R : Int} {lf rg : Int → List Int} {wt lev : Int → Int} {stt : Int} {ap : Int → UInt32} {str : List Int} {σ : S9}
theorem Va.bal (v : Va n R lf rg wt lev stt ap str) {r : Int} (h : 0 ≤ r ∧ r < R) (x : Int) : -6 ≤ bal9 (lf r) (rg r) x ∧ bal9 (lf r) (rg r) x ≤ 6 := by
  have h1 := cnt9_bd x (lf r)
  have h2 := cnt9_bd x (rg r)
  have h3 := (v.2.2.1 r h.1 h.2).1.2
  have h4 := (v.2.2.1 r h.1 h.2).2.2.2
  unfold bal9
  omega
theorem SyC.b (c : SyC σ 1 n R lf rg wt lev stt ap str) {r x : Int} (h : 0 ≤ r ∧ r < R) (hx : 0 ≤ x ∧ x < 8) : gI σ (5 + r.toNat) x = bal9 (lf r) (rg r) x := (c.2.2.2.2.1 r h.1 h.2).2.2 x hx.1 hx.2
theorem c_X9_isCertificate {i : Nat} {P : Int → S9 → Prop} (hi : i < 4) (v : Va n R lf rg wt lev stt ap str) (c : SyC σ 1 n R lf rg wt lev stt ap str) (hf : ∀ r, 0 ≤ r → r < R → -2147483648 ≤ gL σ (82 + 4 * i) r ∧ gL σ (82 + 4 * i) r < 2147483648) (h1 : crt9 (gL σ (82 + 4 * i)) (fun r x => bal9 (lf r) (rg r) x) n R → P 1 σ) (h0 : ¬ crt9 (gL σ (82 + 4 * i)) (fun r x => bal9 (lf r) (rg r) x) n R → P 0 σ) : Cc d mX9_isCertificate [.ref 0, .ref (82 + 4 * i)] σ (QI P) := by
  have hn := v.1
  have hR := v.2.1
  refine Cc_of (by decide +kernel) (fun _ => Nat.le_of_ble_eq_true rfl) rfl (lv := [_, _, _, _, _, _, _]) ?_
  have sb : ∀ (k : Nat) (x : Int), (k : Int) ≤ R → -103079215104 ≤ sm9 (gL σ (82 + 4 * i)) (fun r => bal9 (lf r) (rg r) x) k ∧ sm9 (gL σ (82 + 4 * i)) (fun r => bal9 (lf r) (rg r) x) k ≤ 103079215104 := fun k x hk => by
    have := sm9_bd (f := gL σ (82 + 4 * i)) (g := fun r => bal9 (lf r) (rg r) x) (B := 2147483648) (C := 6) (by decide) (by decide) k (fun y a b => ⟨by have := hf y a (by omega); omega, by have := v.bal (r := y) (by omega) x; omega⟩)
    omega
  have K2 : ∀ (zz : Int), (zz = 0 ∨ zz = 1) → (∀ r, 0 ≤ r → r < R → 0 ≤ gL σ (82 + 4 * i) r) → (zz = 1 ↔ ∀ r, 0 ≤ r → r < R → gL σ (82 + 4 * i) r = 0) → ∀ (m : Nat) (x : Int), 0 ≤ x → x + m = n → (∀ y, 0 ≤ y → y < x → sm9 (gL σ (82 + 4 * i)) (fun r => bal9 (lf r) (rg r) y) R.toNat ≤ 0) → ∀ l4 l5 l6, Vv d mX9_isCertificate 51 [.ref 0, .ref (82 + 4 * i), .int (iI zz), .int (iI x), l4, l5, l6] [] σ (QI P) := by
    intro zz hz hpos hzz m
    induction m with
    | zero =>
      intro x hx hm hI l4 l5 l6
      refine v_iload_n dX9_isCertificate_51 rfl ?_
      refine v_aload_n dX9_isCertificate_52 rfl ?_
      refine v_getR (k1 := 1) dX9_isCertificate_53 s_0 fX9_14 rfl ?_
      refine v_getI (ji := 0) dX9_isCertificate_56 s_1 fX9_71 rfl ?_
      rw [c.1]
      refine v_icmp_ge (tgt := 124) dX9_isCertificate_59 (by decide) (by omega) (fun q59 => ?_) (fun q59 => absurd q59 (by omega))
      refine v_iload_n dX9_isCertificate_124 rfl ?_
      refine v_if_ne (tgt := 132) dX9_isCertificate_125 (by decide) (by omega) (fun q125 => ?_) (fun q125 => ?_)
      · refine v_iconst dX9_isCertificate_132 ?_
        exact v_zreturn dX9_isCertificate_133 rfl (by decide) (by first
        | exact h0 (fun z => by obtain ⟨r, r0, r1, r2⟩ := z.2.1; exact r2 (hzz.mp (by omega) r r0 r1))
        | exact h1 ⟨hpos, Classical.byContradiction (fun z => absurd (hzz.mpr (fun r a b => Classical.byContradiction (fun y => z ⟨r, a, b, y⟩))) (by omega)), fun y a b => hI y a (by omega)⟩)
      · refine v_iconst dX9_isCertificate_128 ?_
        refine v_goto (tgt := 133) dX9_isCertificate_129 (by decide) ?_
        exact v_zreturn dX9_isCertificate_133 rfl (by decide) (by first
        | exact h0 (fun z => by obtain ⟨r, r0, r1, r2⟩ := z.2.1; exact r2 (hzz.mp (by omega) r r0 r1))
        | exact h1 ⟨hpos, Classical.byContradiction (fun z => absurd (hzz.mpr (fun r a b => Classical.byContradiction (fun y => z ⟨r, a, b, y⟩))) (by omega)), fun y a b => hI y a (by omega)⟩)
    | succ m ih =>
      intro x hx hm hI l4 l5 l6
      have K3 : ∀ (k : Nat) (r : Int), 0 ≤ r → r + k = R → Vv d mX9_isCertificate 68 [.ref 0, .ref (82 + 4 * i), .int (iI zz), .int (iI x), .long (lI (sm9 (gL σ (82 + 4 * i)) (fun r => bal9 (lf r) (rg r) x) r.toNat)), .null, .int (iI r)] [] σ (QI P) := by
        intro k
        induction k with
        | zero =>
          intro r hr hk
          have sbr := sb r.toNat x (by omega)
          refine v_iload dX9_isCertificate_68 rfl ?_
          refine v_aload_n dX9_isCertificate_70 rfl ?_
          refine v_getR (k1 := 1) dX9_isCertificate_71 s_0 fX9_14 rfl ?_
          refine v_getI (ji := 1) dX9_isCertificate_74 s_1 fX9_93 rfl ?_
          rw [c.2.1]
          refine v_icmp_ge (tgt := 109) dX9_isCertificate_77 (by decide) (by omega) (fun q77 => ?_) (fun q77 => absurd q77 (by omega))
          refine v_lload dX9_isCertificate_109 rfl ?_
          refine v_lconst0 dX9_isCertificate_111 ?_
          refine v_lcmp_le (tgt := 118) dX9_isCertificate_112 dX9_isCertificate_113 (by decide) (by omega) (fun q112 => ?_) (fun q112 => ?_)
          · refine v_iinc (lv' := [_, _, _, _, _, _, _]) dX9_isCertificate_118 rfl (Nat.le_of_ble_eq_true rfl) rfl rfl ?_
            refine v_goto (tgt := 51) dX9_isCertificate_121 (by decide) ?_
            exact ih (x + 1) (by omega) (by omega) (fun y a b => if e : y = x then (by rw [e, show R.toNat = r.toNat by omega]; exact q112) else hI y a (by omega)) _ _ _
          · refine v_iconst dX9_isCertificate_116 ?_
            exact v_zreturn dX9_isCertificate_117 rfl (by decide) (h0 (fun z => by have := z.2.2 x hx (by omega); rw [show r.toNat = R.toNat by omega] at q112; exact absurd q112 (Int.not_lt.mpr this)))
        | succ k ih3 =>
          intro r hr hk
          have bb := v.bal (r := r) (by omega) x
          refine v_iload dX9_isCertificate_68 rfl ?_
          refine v_aload_n dX9_isCertificate_70 rfl ?_
          refine v_getR (k1 := 1) dX9_isCertificate_71 s_0 fX9_14 rfl ?_
          refine v_getI (ji := 1) dX9_isCertificate_74 s_1 fX9_93 rfl ?_
          rw [c.2.1]
          refine v_icmp_ge (tgt := 109) dX9_isCertificate_77 (by decide) (by omega) (fun q77 => absurd q77 (by omega)) (fun q77 => ?_)
          refine v_lload dX9_isCertificate_80 rfl ?_
          refine v_aload_n dX9_isCertificate_82 rfl ?_
          refine v_iload dX9_isCertificate_83 rfl ?_
          refine v_laload dX9_isCertificate_85 (shW hi) (by omega) ?_
          refine v_aload_n dX9_isCertificate_86 rfl ?_
          refine v_getR (k1 := 1) dX9_isCertificate_87 s_0 fX9_14 rfl ?_
          refine v_getR (k1 := 4) dX9_isCertificate_90 s_1 fX9_131 rfl ?_
          refine v_iload dX9_isCertificate_93 rfl ?_
          refine v_aaloadR (k1 := 5 + r.toNat) dX9_isCertificate_95 s_4 (by omega) (rfB9 (by omega)) ?_
          refine v_iload_n dX9_isCertificate_96 rfl ?_
          refine v_iaload dX9_isCertificate_97 (shB9 (r := r) (by omega)) (by omega) ?_
          rw [c.b (by omega) (by omega)]
          refine v_i2l dX9_isCertificate_98 (by omega) ?_
          refine v_lmul dX9_isCertificate_99 ?_
          refine v_ladd dX9_isCertificate_100 ?_
          refine v_lstore (lv' := [_, _, _, _, _, _, _]) dX9_isCertificate_101 (Nat.le_of_ble_eq_true rfl) rfl rfl ?_
          refine v_iinc (lv' := [_, _, _, _, _, _, _]) dX9_isCertificate_103 rfl (Nat.le_of_ble_eq_true rfl) rfl rfl ?_
          refine v_goto (tgt := 68) dX9_isCertificate_106 (by decide) ?_
          have h3 := ih3 (r + 1) (by omega) (by omega)
          rw [show (r + 1).toNat = r.toNat + 1 by omega, sm9, show ((r.toNat : Nat) : Int) = r by omega] at h3
          exact h3
      refine v_iload_n dX9_isCertificate_51 rfl ?_
      refine v_aload_n dX9_isCertificate_52 rfl ?_
      refine v_getR (k1 := 1) dX9_isCertificate_53 s_0 fX9_14 rfl ?_
      refine v_getI (ji := 0) dX9_isCertificate_56 s_1 fX9_71 rfl ?_
      rw [c.1]
      refine v_icmp_ge (tgt := 124) dX9_isCertificate_59 (by decide) (by omega) (fun q59 => absurd q59 (by omega)) (fun q59 => ?_)
      refine v_lconst0 dX9_isCertificate_62 ?_
      refine v_lstore (lv' := [_, _, _, _, _, _, _]) dX9_isCertificate_63 (Nat.le_of_ble_eq_true rfl) rfl rfl ?_
      refine v_iconst dX9_isCertificate_65 ?_
      refine v_istore (lv' := [_, _, _, _, _, _, _]) dX9_isCertificate_66 (Nat.le_of_ble_eq_true rfl) rfl rfl ?_
      exact K3 R.toNat 0 (by omega) (by omega)
  have K1 : ∀ (m : Nat) (r zz : Int), 0 ≤ r → r + m = R → (zz = 0 ∨ zz = 1) → (∀ s, 0 ≤ s → s < r → 0 ≤ gL σ (82 + 4 * i) s) → (zz = 1 ↔ ∀ s, 0 ≤ s → s < r → gL σ (82 + 4 * i) s = 0) → Vv d mX9_isCertificate 4 [.ref 0, .ref (82 + 4 * i), .int (iI zz), .int (iI r), .null, .null, .null] [] σ (QI P) := by
    intro m
    induction m with
    | zero =>
      intro r zz hr hm hz hp hzz
      refine v_iload_n dX9_isCertificate_4 rfl ?_
      refine v_aload_n dX9_isCertificate_5 rfl ?_
      refine v_getR (k1 := 1) dX9_isCertificate_6 s_0 fX9_14 rfl ?_
      refine v_getI (ji := 1) dX9_isCertificate_9 s_1 fX9_93 rfl ?_
      rw [c.2.1]
      refine v_icmp_ge (tgt := 49) dX9_isCertificate_12 (by decide) (by omega) (fun q12 => ?_) (fun q12 => absurd q12 (by omega))
      refine v_iconst dX9_isCertificate_49 ?_
      refine v_istore_n (lv' := [_, _, _, _, _, _, _]) dX9_isCertificate_50 (Nat.le_of_ble_eq_true rfl) rfl rfl ?_
      exact K2 zz hz (fun s a b => hp s a (by omega)) ⟨fun y s a b => hzz.mp y s a (by omega), fun y => hzz.mpr (fun s a b => y s a (by omega))⟩ n.toNat 0 (by omega) (by omega) (fun y a b => by omega) _ _ _
    | succ m ih =>
      intro r zz hr hm hz hp hzz
      have hfr := hf r (by omega) (by omega)
      refine v_iload_n dX9_isCertificate_4 rfl ?_
      refine v_aload_n dX9_isCertificate_5 rfl ?_
      refine v_getR (k1 := 1) dX9_isCertificate_6 s_0 fX9_14 rfl ?_
      refine v_getI (ji := 1) dX9_isCertificate_9 s_1 fX9_93 rfl ?_
      rw [c.2.1]
      refine v_icmp_ge (tgt := 49) dX9_isCertificate_12 (by decide) (by omega) (fun q12 => absurd q12 (by omega)) (fun q12 => ?_)
      refine v_aload_n dX9_isCertificate_15 rfl ?_
      refine v_iload_n dX9_isCertificate_16 rfl ?_
      refine v_laload dX9_isCertificate_17 (shW hi) (by omega) ?_
      refine v_lconst0 dX9_isCertificate_18 ?_
      refine v_lcmp_ge (tgt := 25) dX9_isCertificate_19 dX9_isCertificate_20 (by decide) (by omega) (fun q19 => ?_) (fun q19 => ?_)
      · refine v_iload_n dX9_isCertificate_25 rfl ?_
        refine v_if_eq (tgt := 41) dX9_isCertificate_26 (by decide) (by omega) (fun q26 => ?_) (fun q26 => ?_)
        · refine v_iconst dX9_isCertificate_41 ?_
          refine v_istore_n (lv' := [_, _, _, _, _, _, _]) dX9_isCertificate_42 (Nat.le_of_ble_eq_true rfl) rfl rfl ?_
          refine v_iinc (lv' := [_, _, _, _, _, _, _]) dX9_isCertificate_43 rfl (Nat.le_of_ble_eq_true rfl) rfl rfl ?_
          refine v_goto (tgt := 4) dX9_isCertificate_46 (by decide) ?_
          refine ih (r + 1) _ (by omega) (by omega) (by decide) (fun s a b => if e : s = r then (by rw [e]; exact q19) else hp s a (by omega)) ?_
          first
          | exact ⟨fun y => absurd y (by decide), fun y => absurd (hzz.mpr (fun s a b => y s a (by omega))) (by omega)⟩
          | exact ⟨fun y => absurd y (by decide), fun y => absurd (y r hr (by omega)) q33⟩
          | exact ⟨fun _ s a b => if e : s = r then (by rw [e]; exact q33) else hzz.mp (by omega) s a (by omega), fun _ => rfl⟩
        · refine v_aload_n dX9_isCertificate_29 rfl ?_
          refine v_iload_n dX9_isCertificate_30 rfl ?_
          refine v_laload dX9_isCertificate_31 (shW hi) (by omega) ?_
          refine v_lconst0 dX9_isCertificate_32 ?_
          refine v_lcmp_ne (tgt := 41) dX9_isCertificate_33 dX9_isCertificate_34 (by decide) (by omega) (fun q33 => ?_) (fun q33 => ?_)
          · refine v_iconst dX9_isCertificate_41 ?_
            refine v_istore_n (lv' := [_, _, _, _, _, _, _]) dX9_isCertificate_42 (Nat.le_of_ble_eq_true rfl) rfl rfl ?_
            refine v_iinc (lv' := [_, _, _, _, _, _, _]) dX9_isCertificate_43 rfl (Nat.le_of_ble_eq_true rfl) rfl rfl ?_
            refine v_goto (tgt := 4) dX9_isCertificate_46 (by decide) ?_
            refine ih (r + 1) _ (by omega) (by omega) (by decide) (fun s a b => if e : s = r then (by rw [e]; exact q19) else hp s a (by omega)) ?_
            first
            | exact ⟨fun y => absurd y (by decide), fun y => absurd (hzz.mpr (fun s a b => y s a (by omega))) (by omega)⟩
            | exact ⟨fun y => absurd y (by decide), fun y => absurd (y r hr (by omega)) q33⟩
            | exact ⟨fun _ s a b => if e : s = r then (by rw [e]; exact q33) else hzz.mp (by omega) s a (by omega), fun _ => rfl⟩
          · refine v_iconst dX9_isCertificate_37 ?_
            refine v_goto (tgt := 42) dX9_isCertificate_38 (by decide) ?_
            refine v_istore_n (lv' := [_, _, _, _, _, _, _]) dX9_isCertificate_42 (Nat.le_of_ble_eq_true rfl) rfl rfl ?_
            refine v_iinc (lv' := [_, _, _, _, _, _, _]) dX9_isCertificate_43 rfl (Nat.le_of_ble_eq_true rfl) rfl rfl ?_
            refine v_goto (tgt := 4) dX9_isCertificate_46 (by decide) ?_
            refine ih (r + 1) _ (by omega) (by omega) (by decide) (fun s a b => if e : s = r then (by rw [e]; exact q19) else hp s a (by omega)) ?_
            first
            | exact ⟨fun y => absurd y (by decide), fun y => absurd (hzz.mpr (fun s a b => y s a (by omega))) (by omega)⟩
            | exact ⟨fun y => absurd y (by decide), fun y => absurd (y r hr (by omega)) q33⟩
            | exact ⟨fun _ s a b => if e : s = r then (by rw [e]; exact q33) else hzz.mp (by omega) s a (by omega), fun _ => rfl⟩
      · refine v_iconst dX9_isCertificate_23 ?_
        exact v_zreturn dX9_isCertificate_24 rfl (by decide) (h0 (fun z => by have := z.1 r hr (by omega); omega))
  refine v_iconst dX9_isCertificate_0 ?_
  refine v_istore_n (lv' := [_, _, _, _, _, _, _]) dX9_isCertificate_1 (Nat.le_of_ble_eq_true rfl) rfl rfl ?_
  refine v_iconst dX9_isCertificate_2 ?_
  refine v_istore_n (lv' := [_, _, _, _, _, _, _]) dX9_isCertificate_3 (Nat.le_of_ble_eq_true rfl) rfl rfl ?_
  exact K1 R.toNat 0 1 (by omega) (by omega) (by decide) (fun s a b => by omega) ⟨fun _ s a b => by omega, fun _ => rfl⟩
theorem c_X9_checkCertificate {P : Int → S9 → Prop} {s : Int} (v : Va n R lf rg wt lev stt ap str) (c : SyC σ 1 n R lf rg wt lev stt ap str) (hsl : ∀ i : Nat, i < 4 → (-1 ≤ gI σ (81 + 4 * i) 0 ∧ gI σ (81 + 4 * i) 0 ≤ 3) ∧ (0 ≤ gI σ (81 + 4 * i) 1 ∧ gI σ (81 + 4 * i) 1 ≤ 40)) (hf : ∀ i : Nat, i < 4 → gI σ (81 + 4 * i) 0 = 0 → ∀ j, 0 ≤ j → j < 40 → -2147483648 ≤ gL σ (82 + 4 * i) j ∧ gL σ (82 + 4 * i) j < 2147483648) (hs : (-2147483648 ≤ s ∧ s < 2147483648)) (h1 : ¬ (0 ≤ s ∧ s < 4) → P (-1) σ) (h2 : (0 ≤ s ∧ s < 4) → gI σ (81 + 4 * s.toNat) 0 = -1 → P (-11) σ) (h3 : (0 ≤ s ∧ s < 4) → gI σ (81 + 4 * s.toNat) 0 ≠ -1 → gI σ (81 + 4 * s.toNat) 0 ≠ 0 → P (-12) σ) (h4 : (0 ≤ s ∧ s < 4) → gI σ (81 + 4 * s.toNat) 0 = 0 → gI σ (81 + 4 * s.toNat) 1 < R → P (-13) σ) (h5 : (0 ≤ s ∧ s < 4) → gI σ (81 + 4 * s.toNat) 0 = 0 → R ≤ gI σ (81 + 4 * s.toNat) 1 → (crt9 (gL σ (82 + 4 * s.toNat)) (fun r x => bal9 (lf r) (rg r) x) n R → P 1 σ) ∧ (¬ crt9 (gL σ (82 + 4 * s.toNat)) (fun r x => bal9 (lf r) (rg r) x) n R → P 0 σ)) : Cc (d + 1) mX9_checkCertificate [.ref 0, .int (iI s)] σ (QI P) := by
  have hn := v.1
  have hR := v.2.1
  refine Cc_of (by decide +kernel) (fun _ => Nat.le_of_ble_eq_true rfl) rfl (lv := [_, _]) ?_
  refine v_iload_n dX9_checkCertificate_0 rfl ?_
  refine v_callSi1 dX9_checkCertificate_1 kX9_248 (Nat.le_of_ble_eq_true rfl) (c_X9_isSlot hs (fun zs => ?_) (fun zs => ?_))
  · refine v_if_ne (tgt := 9) dX9_checkCertificate_4 (by decide) (by decide) (fun q4 => ?_) (fun q4 => absurd q4 (by decide))
    refine v_aload_n dX9_checkCertificate_9 rfl ?_
    refine v_getR (k1 := 80) dX9_checkCertificate_10 s_0 fX9_66 rfl ?_
    refine v_iload_n dX9_checkCertificate_13 rfl ?_
    refine v_aaloadS (k1 := 81 + 4 * s.toNat) dX9_checkCertificate_14 s_80 (by omega) (rfSl (by omega)) ?_
    refine v_callVi0 dX9_checkCertificate_15 kX9_255 (shO (i := s.toNat) (by omega)) (Nat.le_of_ble_eq_true rfl) (c_X7_isFree (i := s.toNat) (by omega) (hsl s.toNat (by omega)).1 (fun zf => ?_) (fun zf => ?_))
    · refine v_if_eq (tgt := 24) dX9_checkCertificate_18 (by decide) (by decide) (fun q18 => absurd q18 (by decide)) (fun q18 => ?_)
      refine v_bipush dX9_checkCertificate_21 (by decide) ?_
      exact v_ireturn dX9_checkCertificate_23 rfl (h2 zs zf)
    · refine v_if_eq (tgt := 24) dX9_checkCertificate_18 (by decide) (by decide) (fun q18 => ?_) (fun q18 => absurd q18 (by decide))
      refine v_aload_n dX9_checkCertificate_24 rfl ?_
      refine v_getR (k1 := 80) dX9_checkCertificate_25 s_0 fX9_66 rfl ?_
      refine v_iload_n dX9_checkCertificate_28 rfl ?_
      refine v_aaloadS (k1 := 81 + 4 * s.toNat) dX9_checkCertificate_29 s_80 (by omega) (rfSl (by omega)) ?_
      refine v_getI (ji := 0) dX9_checkCertificate_30 (shO (i := s.toNat) (by omega)) fX9_264 rfl ?_
      refine v_if_eq (tgt := 39) dX9_checkCertificate_33 (by decide) (by have := (hsl s.toNat (by omega)).1; omega) (fun q33 => ?_) (fun q33 => ?_)
      · refine v_aload_n dX9_checkCertificate_39 rfl ?_
        refine v_getR (k1 := 80) dX9_checkCertificate_40 s_0 fX9_66 rfl ?_
        refine v_iload_n dX9_checkCertificate_43 rfl ?_
        refine v_aaloadS (k1 := 81 + 4 * s.toNat) dX9_checkCertificate_44 s_80 (by omega) (rfSl (by omega)) ?_
        refine v_getI (ji := 1) dX9_checkCertificate_45 (shO (i := s.toNat) (by omega)) fX9_281 rfl ?_
        refine v_aload_n dX9_checkCertificate_48 rfl ?_
        refine v_getR (k1 := 1) dX9_checkCertificate_49 s_0 fX9_14 rfl ?_
        refine v_getI (ji := 1) dX9_checkCertificate_52 s_1 fX9_93 rfl ?_
        rw [c.2.1]
        refine v_icmp_ge (tgt := 61) dX9_checkCertificate_55 (by decide) (by have := (hsl s.toNat (by omega)).2; omega) (fun q55 => ?_) (fun q55 => ?_)
        · refine v_aload_n dX9_checkCertificate_61 rfl ?_
          refine v_aload_n dX9_checkCertificate_62 rfl ?_
          refine v_getR (k1 := 80) dX9_checkCertificate_63 s_0 fX9_66 rfl ?_
          refine v_iload_n dX9_checkCertificate_66 rfl ?_
          refine v_aaloadS (k1 := 81 + 4 * s.toNat) dX9_checkCertificate_67 s_80 (by omega) (rfSl (by omega)) ?_
          refine v_getR (k1 := 82 + 4 * s.toNat) dX9_checkCertificate_68 (shO (i := s.toNat) (by omega)) fX9_284 (rfW (by omega)) ?_
          refine v_callVi1 dX9_checkCertificate_71 kX9_287 s_0 (Nat.le_of_ble_eq_true rfl) (c_X9_isCertificate (i := s.toNat) (by omega) v c (fun r a b => hf s.toNat (by omega) q33 r a (by have := (hsl s.toNat (by omega)).2; omega)) (fun zc => ?_) (fun zc => ?_))
          · refine v_if_eq (tgt := 81) dX9_checkCertificate_74 (by decide) (by decide) (fun q74 => absurd q74 (by decide)) (fun q74 => ?_)
            refine v_iconst dX9_checkCertificate_77 ?_
            refine v_goto (tgt := 82) dX9_checkCertificate_78 (by decide) ?_
            exact v_ireturn dX9_checkCertificate_82 rfl (by first | exact (h5 zs q33 (by omega)).1 zc | exact (h5 zs q33 (by omega)).2 zc)
          · refine v_if_eq (tgt := 81) dX9_checkCertificate_74 (by decide) (by decide) (fun q74 => ?_) (fun q74 => absurd q74 (by decide))
            refine v_iconst dX9_checkCertificate_81 ?_
            exact v_ireturn dX9_checkCertificate_82 rfl (by first | exact (h5 zs q33 (by omega)).1 zc | exact (h5 zs q33 (by omega)).2 zc)
        · refine v_bipush dX9_checkCertificate_58 (by decide) ?_
          exact v_ireturn dX9_checkCertificate_60 rfl (h4 zs q33 (by omega))
      · refine v_bipush dX9_checkCertificate_36 (by decide) ?_
        exact v_ireturn dX9_checkCertificate_38 rfl (h3 zs zf q33)
  · refine v_if_ne (tgt := 9) dX9_checkCertificate_4 (by decide) (by decide) (fun q4 => absurd q4 (by decide)) (fun q4 => ?_)
    refine v_iconst dX9_checkCertificate_7 ?_
    exact v_ireturn dX9_checkCertificate_8 rfl (h1 zs)
end
