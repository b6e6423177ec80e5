section
variable {d : Nat} {n R : Int} {lf rg : Int → List Int} {wt lev : Int → Int} {stt : Int} {ap : Int → UInt32} {str : List Int} {σ : S9}
theorem c_X10_removeRule {P : Int → S9 → Prop} {r : Int} (v : Va n R lf rg wt lev stt ap str) (c : SyMn σ n R lf rg wt lev stt ap str) (hr : (-2147483648 ≤ r ∧ r < 2147483648)) (h1 : ¬ (0 ≤ r ∧ r < R) → P (-3) σ) (h2 : (0 ≤ r ∧ r < R) → ∀ τ, eq9 (fun k => k ≠ 97 ∧ k ≠ 98 ∧ k ≠ 99) σ τ → gI τ 97 = up9 (up9 (gI σ 97) 1 (R - 1)) 12 0 → (∀ j, 0 ≤ j → j < R - 1 → gI τ 98 (2 * j) = gI σ 98 (2 * shf9 r j) ∧ gI τ 98 (2 * j + 1) = gI σ 98 (2 * shf9 r j + 1) ∧ ∀ i, 0 ≤ i → i < 12 → gI τ 99 (12 * j + i) = gI σ 99 (12 * shf9 r j + i)) → P (R - 1) τ) : Cc (d + 2) mX10_removeRule [.ref 97, .int (iI r)] σ (QI P) := by
  have hn := v.1
  have hR := v.2.1
  refine Cc_of (by decide +kernel) (fun _ => Nat.le_of_ble_eq_true rfl) rfl (lv := [_, _, _, _]) ?_
  have K1 : (0 ≤ r ∧ r < R) → ∀ (m : Nat) (s : Int) (τ : S9), r ≤ s → s + m = R - 1 → eq9 (fun k => k ≠ 98 ∧ k ≠ 99) σ τ → (∀ j, 0 ≤ j → j < s → gI τ 98 (2 * j) = gI σ 98 (2 * shf9 r j) ∧ gI τ 98 (2 * j + 1) = gI σ 98 (2 * shf9 r j + 1) ∧ ∀ i, 0 ≤ i → i < 12 → gI τ 99 (12 * j + i) = gI σ 99 (12 * shf9 r j + i)) → (∀ i, 2 * s ≤ i → gI τ 98 i = gI σ 98 i) → (∀ i, 12 * s ≤ i → gI τ 99 i = gI σ 99 i) → ∀ l3, Vv (d + 2) mX10_removeRule 13 [.ref 97, .int (iI r), .int (iI s), l3] [] τ (QI P) := by
    intro hr2 m
    induction m with
    | zero =>
      intro s τ hs hm he hI hA hB l3
      have z1 : gI τ 97 1 = R := by rw [(he 97 (by decide)).1]; exact c.2.1
      refine v_iload_n dX10_removeRule_13 rfl ?_
      refine v_aload_n dX10_removeRule_14 rfl ?_
      refine v_getI (ji := 1) dX10_removeRule_15 s_97 fX10_119 rfl ?_
      rw [z1]
      refine v_iconst dX10_removeRule_18 ?_
      refine v_isub dX10_removeRule_19 ?_
      refine v_icmp_ge (tgt := 106) dX10_removeRule_20 (by decide) (by omega) (fun q20 => ?_) (fun q20 => absurd q20 (by omega))
      refine v_aload_n dX10_removeRule_106 rfl ?_
      refine v_dup dX10_removeRule_107 rfl ?_
      refine v_getI (ji := 1) dX10_removeRule_108 s_97 fX10_119 rfl ?_
      rw [z1]
      refine v_iconst dX10_removeRule_111 ?_
      refine v_isub dX10_removeRule_112 ?_
      refine v_putI (ji := 1) dX10_removeRule_113 s_97 pfX10_119 rfl ?_
      refine v_aload_n dX10_removeRule_116 rfl ?_
      refine v_iconst dX10_removeRule_117 ?_
      refine v_putI (ji := 12) dX10_removeRule_118 s_97 pfX10_127 rfl ?_
      refine v_aload_n dX10_removeRule_121 rfl ?_
      refine v_getI (ji := 1) dX10_removeRule_122 s_97 fX10_119 rfl ?_
      rw [gI_aI_ne9 (by decide), gI_aI_eq, up9_eq]
      refine v_ireturn dX10_removeRule_125 rfl (by
        refine h2 hr2 _ ((he.mono (fun k hk => hk.2)).tr ((eq9.aI (by decide)).tr (eq9.aI (by decide)))) ?_ (fun j x y => ?_)
        · rw [gI_aI_eq, gI_aI_eq, (he 97 (by decide)).1]
        · rw [gI_aI_ne (by decide), gI_aI_ne (by decide), gI_aI_ne (by decide), gI_aI_ne (by decide)]; exact hI j x (by omega))
    | succ m ih =>
      intro s τ hs hm he hI hA hB l3
      have z1 : gI τ 97 1 = R := by rw [(he 97 (by decide)).1]; exact c.2.1
      have K2 : ∀ (q : Nat) (i : Int) (υ : S9), 0 ≤ i → i + q = 12 → eq9 (fun k => k ≠ 99) τ υ → (∀ j, 0 ≤ j → j < 12 * s → gI υ 99 j = gI τ 99 j) → (∀ j, 0 ≤ j → j < i → gI υ 99 (12 * s + j) = gI τ 99 (12 * s + 12 + j)) → (∀ j, 12 * s + i ≤ j → gI υ 99 j = gI τ 99 j) → Vv (d + 2) mX10_removeRule 25 [.ref 97, .int (iI r), .int (iI s), .int (iI i)] [] υ (QI P) := by
        intro q
        induction q with
        | zero =>
          intro i υ hi hq hu u1 u2 u3
          have u98 : gI υ 98 = gI τ 98 := (hu 98 (by decide)).1
          refine v_iload_n dX10_removeRule_25 rfl ?_
          refine v_bipush dX10_removeRule_26 (by decide) ?_
          refine v_icmp_ge (tgt := 62) dX10_removeRule_28 (by decide) (by omega) (fun q28 => ?_) (fun q28 => absurd q28 (by omega))
          refine v_aload_n dX10_removeRule_62 rfl ?_
          refine v_getR (k1 := 98) dX10_removeRule_63 s_97 fX10_15 rfl ?_
          refine v_iconst dX10_removeRule_66 ?_
          refine v_iload_n dX10_removeRule_67 rfl ?_
          refine v_imul dX10_removeRule_68 ?_
          refine v_aload_n dX10_removeRule_69 rfl ?_
          refine v_getR (k1 := 98) dX10_removeRule_70 s_97 fX10_15 rfl ?_
          refine v_iconst dX10_removeRule_73 ?_
          refine v_iload_n dX10_removeRule_74 rfl ?_
          refine v_imul dX10_removeRule_75 ?_
          refine v_iconst dX10_removeRule_76 ?_
          refine v_iadd dX10_removeRule_77 ?_
          refine v_iaload dX10_removeRule_78 s_98 (by omega) ?_
          rw [u98]
          refine v_iastore dX10_removeRule_79 s_98 (by omega) ?_
          refine v_aload_n dX10_removeRule_80 rfl ?_
          refine v_getR (k1 := 98) dX10_removeRule_81 s_97 fX10_15 rfl ?_
          refine v_iconst dX10_removeRule_84 ?_
          refine v_iload_n dX10_removeRule_85 rfl ?_
          refine v_imul dX10_removeRule_86 ?_
          refine v_iconst dX10_removeRule_87 ?_
          refine v_iadd dX10_removeRule_88 ?_
          refine v_aload_n dX10_removeRule_89 rfl ?_
          refine v_getR (k1 := 98) dX10_removeRule_90 s_97 fX10_15 rfl ?_
          refine v_iconst dX10_removeRule_93 ?_
          refine v_iload_n dX10_removeRule_94 rfl ?_
          refine v_imul dX10_removeRule_95 ?_
          refine v_iconst dX10_removeRule_96 ?_
          refine v_iadd dX10_removeRule_97 ?_
          refine v_iaload dX10_removeRule_98 s_98 (by omega) ?_
          rw [gI_aI_eq, up9_ne (by omega), u98]
          refine v_iastore dX10_removeRule_99 s_98 (by omega) ?_
          refine v_iinc (lv' := [_, _, _, _]) dX10_removeRule_100 rfl (Nat.le_of_ble_eq_true rfl) rfl rfl ?_
          refine v_goto (tgt := 13) dX10_removeRule_103 (by decide) ?_
          have sh : ∀ j, 0 ≤ j → j < s → shf9 r s = s + 1 := fun j _ _ => if_neg (by omega)
          refine ih (s + 1) _ (by omega) (by omega) (he.tr ((hu.mono (fun k hk => hk.2)).tr ((eq9.aI (by omega)).tr (eq9.aI (by omega))))) (fun j x y => ?_) (fun j x => ?_) (fun j x => ?_) _
          · rw [gI_aI_eq, gI_aI_eq, gI_aI_ne (by decide), gI_aI_ne (by decide), u98]
            by_cases e : j = s
            · rw [e, show shf9 r s = s + 1 from if_neg (by omega)]
              refine ⟨?_, ?_, fun i2 x2 y2 => ?_⟩
              · rw [up9_ne (by omega), up9_eq, hA _ (by omega)]; congr 1; omega
              · rw [up9_eq, hA _ (by omega)]; congr 1; omega
              · rw [u2 i2 x2 (by omega), hB _ (by omega)]; congr 1; omega
            · rw [up9_ne (by omega), up9_ne (by omega), up9_ne (by omega), up9_ne (by omega)]
              refine ⟨(hI j x (by omega)).1, (hI j x (by omega)).2.1, fun i2 x2 y2 => ?_⟩
              rw [u1 _ (by omega) (by omega)]; exact (hI j x (by omega)).2.2 i2 x2 y2
          · rw [gI_aI_eq, gI_aI_eq, up9_ne (by omega), up9_ne (by omega), u98]; exact hA j (by omega)
          · rw [gI_aI_ne (by decide), gI_aI_ne (by decide), u3 j (by omega)]; exact hB j (by omega)
        | succ q ih2 =>
          intro i υ hi hq hu u1 u2 u3
          refine v_iload_n dX10_removeRule_25 rfl ?_
          refine v_bipush dX10_removeRule_26 (by decide) ?_
          refine v_icmp_ge (tgt := 62) dX10_removeRule_28 (by decide) (by omega) (fun q28 => absurd q28 (by omega)) (fun q28 => ?_)
          refine v_aload_n dX10_removeRule_31 rfl ?_
          refine v_getR (k1 := 99) dX10_removeRule_32 s_97 fX10_19 rfl ?_
          refine v_bipush dX10_removeRule_35 (by decide) ?_
          refine v_iload_n dX10_removeRule_37 rfl ?_
          refine v_imul dX10_removeRule_38 ?_
          refine v_iload_n dX10_removeRule_39 rfl ?_
          refine v_iadd dX10_removeRule_40 ?_
          refine v_aload_n dX10_removeRule_41 rfl ?_
          refine v_getR (k1 := 99) dX10_removeRule_42 s_97 fX10_19 rfl ?_
          refine v_bipush dX10_removeRule_45 (by decide) ?_
          refine v_iload_n dX10_removeRule_47 rfl ?_
          refine v_imul dX10_removeRule_48 ?_
          refine v_bipush dX10_removeRule_49 (by decide) ?_
          refine v_iadd dX10_removeRule_51 ?_
          refine v_iload_n dX10_removeRule_52 rfl ?_
          refine v_iadd dX10_removeRule_53 ?_
          refine v_iaload dX10_removeRule_54 s_99 (by omega) ?_
          rw [u3 _ (by omega)]
          refine v_iastore dX10_removeRule_55 s_99 (by omega) ?_
          refine v_iinc (lv' := [_, _, _, _]) dX10_removeRule_56 rfl (Nat.le_of_ble_eq_true rfl) rfl rfl ?_
          refine v_goto (tgt := 25) dX10_removeRule_59 (by decide) ?_
          refine ih2 (i + 1) _ (by omega) (by omega) (hu.tr (eq9.aI (by omega))) (fun j x y => ?_) (fun j x y => ?_) (fun j x => ?_)
          · rw [gI_aI_eq, up9_ne (by omega)]; exact u1 j x y
          · rw [gI_aI_eq]
            by_cases e : j = i
            · rw [e, up9_eq]
            · rw [up9_ne (by omega)]; exact u2 j x (by omega)
          · rw [gI_aI_eq, up9_ne (by omega)]; exact u3 j (by omega)
      refine v_iload_n dX10_removeRule_13 rfl ?_
      refine v_aload_n dX10_removeRule_14 rfl ?_
      refine v_getI (ji := 1) dX10_removeRule_15 s_97 fX10_119 rfl ?_
      rw [z1]
      refine v_iconst dX10_removeRule_18 ?_
      refine v_isub dX10_removeRule_19 ?_
      refine v_icmp_ge (tgt := 106) dX10_removeRule_20 (by decide) (by omega) (fun q20 => absurd q20 (by omega)) (fun q20 => ?_)
      refine v_iconst dX10_removeRule_23 ?_
      refine v_istore_n (lv' := [_, _, _, _]) dX10_removeRule_24 (Nat.le_of_ble_eq_true rfl) rfl rfl ?_
      exact K2 12 0 τ (by omega) (by omega) eq9.rf (fun j _ _ => rfl) (fun j x y => by omega) (fun j _ => rfl)
  refine v_aload_n dX10_removeRule_0 rfl ?_
  refine v_iload_n dX10_removeRule_1 rfl ?_
  refine v_callVi1 dX10_removeRule_2 kX10_152 s_97 (Nat.le_of_ble_eq_true rfl) (c_X10_isRule c.2.1 (by omega) hr (fun z => ?_) (fun z => ?_))
  · refine v_if_ne (tgt := 11) dX10_removeRule_5 (by decide) (by decide) (fun q5 => ?_) (fun q5 => absurd q5 (by decide))
    refine v_iload_n dX10_removeRule_11 rfl ?_
    refine v_istore_n (lv' := [_, _, _, _]) dX10_removeRule_12 (Nat.le_of_ble_eq_true rfl) rfl rfl ?_
    exact K1 z (R - 1 - r).toNat r σ (by omega) (by omega) eq9.rf (fun j x y => by rw [show shf9 r j = j from if_pos y]; exact ⟨rfl, rfl, fun _ _ _ => rfl⟩) (fun _ _ => rfl) (fun _ _ => rfl) _
  · refine v_if_ne (tgt := 11) dX10_removeRule_5 (by decide) (by decide) (fun q5 => absurd q5 (by decide)) (fun q5 => ?_)
    refine v_bipush dX10_removeRule_8 (by decide) ?_
    exact v_ireturn dX10_removeRule_10 rfl (h1 z)
theorem c_X10_snapshot {P : Int → S9 → Prop} (c : SyMn σ n R lf rg wt lev stt ap str) (h : ∀ τ, eq9 (fun k => k ≠ 97 ∧ k ≠ 113 ∧ k ≠ 112 ∧ k ≠ 114 ∧ k ≠ 115 ∧ k ≠ 116 ∧ k ≠ 117) σ τ → gI τ 97 = up9 (up9 (up9 (up9 (up9 (gI σ 97) 20 1) 21 n) 22 R) 27 stt) 30 str.length → (∀ x, 0 ≤ x → x < (96 : Int) → gI τ 113 x = gI σ 99 x) → (∀ x, 0 ≤ x → x < (16 : Int) → gI τ 112 x = gI σ 98 x) → (∀ x, 0 ≤ x → x < (6 : Int) → gI τ 114 x = gI σ 100 x ∧ gI τ 115 x = gI σ 101 x ∧ gF τ 116 x = gF σ 102 x) → (∀ x, 0 ≤ x → x < (12 : Int) → gI τ 117 x = gI σ 104 x) → P R τ) : Cc d mX10_snapshot [.ref 97] σ (QI P) := by
  refine Cc_of (by decide +kernel) (fun _ => Nat.le_of_ble_eq_true rfl) rfl (lv := [_, _]) ?_
  have KD : ∀ (m : Nat) (k : Int) (τ : S9), 0 ≤ k → k + m = 12 → eq9 (fun k => k ≠ 97 ∧ k ≠ 113 ∧ k ≠ 112 ∧ k ≠ 114 ∧ k ≠ 115 ∧ k ≠ 116 ∧ k ≠ 117) σ τ → gI τ 97 = up9 (up9 (up9 (up9 (up9 (gI σ 97) 20 1) 21 n) 22 R) 27 stt) 30 str.length → (∀ x, 0 ≤ x → x < (96 : Int) → gI τ 113 x = gI σ 99 x) → (∀ x, 0 ≤ x → x < (16 : Int) → gI τ 112 x = gI σ 98 x) → (∀ x, 0 ≤ x → x < (6 : Int) → gI τ 114 x = gI σ 100 x ∧ gI τ 115 x = gI σ 101 x ∧ gF τ 116 x = gF σ 102 x) → (∀ x, 0 ≤ x → x < k → gI τ 117 x = gI σ 104 x) → Vv d mX10_snapshot 141 [.ref 97, .int (iI k)] [] τ (QI P) := by
    intro m
    induction m with
    | zero =>
      intro k τ hk hm he hg a0 a1 a2 hI
      refine v_iload_n dX10_snapshot_141 rfl ?_
      refine v_bipush dX10_snapshot_142 (by decide) ?_
      refine v_icmp_ge (tgt := 165) dX10_snapshot_144 (by decide) (by omega) (fun q144 => ?_) (fun q144 => absurd q144 (by omega))
      refine v_aload_n dX10_snapshot_165 rfl ?_
      refine v_getI (ji := 1) dX10_snapshot_166 s_97 fX10_119 rfl ?_
      rw [hg]
      rw [up9_ne (by decide), up9_ne (by decide), up9_ne (by decide), up9_ne (by decide), up9_ne (by decide), c.2.1]
      exact v_ireturn dX10_snapshot_169 rfl (h τ he hg a0 a1 a2 (fun x a b => hI x a (by omega)))
    | succ m ih =>
      intro k τ hk hm he hg a0 a1 a2 hI
      have fs : gI τ 104 = gI σ 104 := (he 104 (by decide)).1
      refine v_iload_n dX10_snapshot_141 rfl ?_
      refine v_bipush dX10_snapshot_142 (by decide) ?_
      refine v_icmp_ge (tgt := 165) dX10_snapshot_144 (by decide) (by omega) (fun q144 => absurd q144 (by omega)) (fun q144 => ?_)
      refine v_aload_n dX10_snapshot_147 rfl ?_
      refine v_getR (k1 := 117) dX10_snapshot_148 s_97 fX10_76 rfl ?_
      refine v_iload_n dX10_snapshot_151 rfl ?_
      refine v_aload_n dX10_snapshot_152 rfl ?_
      refine v_getR (k1 := 104) dX10_snapshot_153 s_97 fX10_35 rfl ?_
      refine v_iload_n dX10_snapshot_156 rfl ?_
      refine v_iaload dX10_snapshot_157 s_104 (by omega) ?_
      rw [fs]
      refine v_iastore dX10_snapshot_158 s_117 (by omega) ?_
      refine v_iinc (lv' := [_, _]) dX10_snapshot_159 rfl (Nat.le_of_ble_eq_true rfl) rfl rfl ?_
      refine v_goto (tgt := 141) dX10_snapshot_162 (by decide) ?_
      refine ih (k + 1) _ (by omega) (by omega) (he.tr (eq9.aI (by decide))) (by rw [gI_aI_ne (by decide)]; exact hg) ?_ ?_ ?_ (fun x a b => ?_)
      · exact fun x a b => by rw [gI_aI_ne (by decide)]; exact a0 x a b
      · exact fun x a b => by rw [gI_aI_ne (by decide)]; exact a1 x a b
      · exact fun x a b => by rw [gI_aI_ne (by decide), gI_aI_ne (by decide), gF_aI]; exact a2 x a b
      · rw [gI_aI_eq]
        by_cases e : x = k
        · rw [e, up9_eq]
        · rw [up9_ne e]; exact hI x a (by omega)
  have KC : ∀ (m : Nat) (k : Int) (τ : S9), 0 ≤ k → k + m = 6 → eq9 (fun k => k ≠ 97 ∧ k ≠ 113 ∧ k ≠ 112 ∧ k ≠ 114 ∧ k ≠ 115 ∧ k ≠ 116 ∧ k ≠ 117) σ τ → gI τ 97 = up9 (up9 (up9 (up9 (up9 (gI σ 97) 20 1) 21 n) 22 R) 27 stt) 30 str.length → (∀ x, 0 ≤ x → x < (96 : Int) → gI τ 113 x = gI σ 99 x) → (∀ x, 0 ≤ x → x < (16 : Int) → gI τ 112 x = gI σ 98 x) → (∀ x, 0 ≤ x → x < k → gI τ 114 x = gI σ 100 x ∧ gI τ 115 x = gI σ 101 x ∧ gF τ 116 x = gF σ 102 x) → Vv d mX10_snapshot 91 [.ref 97, .int (iI k)] [] τ (QI P) := by
    intro m
    induction m with
    | zero =>
      intro k τ hk hm he hg a0 a1 hI
      refine v_iload_n dX10_snapshot_91 rfl ?_
      refine v_bipush dX10_snapshot_92 (by decide) ?_
      refine v_icmp_ge (tgt := 139) dX10_snapshot_94 (by decide) (by omega) (fun q94 => ?_) (fun q94 => absurd q94 (by omega))
      refine v_iconst dX10_snapshot_139 ?_
      refine v_istore_n (lv' := [_, _]) dX10_snapshot_140 (Nat.le_of_ble_eq_true rfl) rfl rfl ?_
      exact KD 12 0 τ (by omega) (by omega) he hg a0 a1 (fun x a b => hI x a (by omega)) (fun x a b => by omega)
    | succ m ih =>
      intro k τ hk hm he hg a0 a1 hI
      have f1 : gI τ 100 = gI σ 100 := (he 100 (by decide)).1
      have f2 : gI τ 101 = gI σ 101 := (he 101 (by decide)).1
      have f3 : gF τ 102 = gF σ 102 := (he 102 (by decide)).2.2.1
      refine v_iload_n dX10_snapshot_91 rfl ?_
      refine v_bipush dX10_snapshot_92 (by decide) ?_
      refine v_icmp_ge (tgt := 139) dX10_snapshot_94 (by decide) (by omega) (fun q94 => absurd q94 (by omega)) (fun q94 => ?_)
      refine v_aload_n dX10_snapshot_97 rfl ?_
      refine v_getR (k1 := 114) dX10_snapshot_98 s_97 fX10_67 rfl ?_
      refine v_iload_n dX10_snapshot_101 rfl ?_
      refine v_aload_n dX10_snapshot_102 rfl ?_
      refine v_getR (k1 := 100) dX10_snapshot_103 s_97 fX10_22 rfl ?_
      refine v_iload_n dX10_snapshot_106 rfl ?_
      refine v_iaload dX10_snapshot_107 s_100 (by omega) ?_
      rw [f1]
      refine v_iastore dX10_snapshot_108 s_114 (by omega) ?_
      refine v_aload_n dX10_snapshot_109 rfl ?_
      refine v_getR (k1 := 115) dX10_snapshot_110 s_97 fX10_70 rfl ?_
      refine v_iload_n dX10_snapshot_113 rfl ?_
      refine v_aload_n dX10_snapshot_114 rfl ?_
      refine v_getR (k1 := 101) dX10_snapshot_115 s_97 fX10_25 rfl ?_
      refine v_iload_n dX10_snapshot_118 rfl ?_
      refine v_iaload dX10_snapshot_119 s_101 (by omega) ?_
      rw [gI_aI_ne (by decide), f2]
      refine v_iastore dX10_snapshot_120 s_115 (by omega) ?_
      refine v_aload_n dX10_snapshot_121 rfl ?_
      refine v_getR (k1 := 116) dX10_snapshot_122 s_97 fX10_73 rfl ?_
      refine v_iload_n dX10_snapshot_125 rfl ?_
      refine v_aload_n dX10_snapshot_126 rfl ?_
      refine v_getR (k1 := 102) dX10_snapshot_127 s_97 fX10_28 rfl ?_
      refine v_iload_n dX10_snapshot_130 rfl ?_
      refine v_faload dX10_snapshot_131 s_102 (by omega) ?_
      rw [gF_aI, gF_aI, f3]
      refine v_fastore dX10_snapshot_132 s_116 (by omega) ?_
      refine v_iinc (lv' := [_, _]) dX10_snapshot_133 rfl (Nat.le_of_ble_eq_true rfl) rfl rfl ?_
      refine v_goto (tgt := 91) dX10_snapshot_136 (by decide) ?_
      refine ih (k + 1) _ (by omega) (by omega) (he.tr (((eq9.aI (by decide)).tr (eq9.aI (by decide))).tr (eq9.aF (by decide)))) (by rw [gI_aF, gI_aI_ne (by decide), gI_aI_ne (by decide)]; exact hg) ?_ ?_ (fun x a b => ?_)
      · exact fun x a b => by rw [gI_aF, gI_aI_ne (by decide), gI_aI_ne (by decide)]; exact a0 x a b
      · exact fun x a b => by rw [gI_aF, gI_aI_ne (by decide), gI_aI_ne (by decide)]; exact a1 x a b
      · rw [gI_aF, gI_aF, gF_aF_eq, gI_aI_ne (by decide), gI_aI_eq, gI_aI_eq, gI_aI_ne (by decide), gF_aI, gF_aI]
        by_cases e : x = k
        · rw [e, up9_eq, up9_eq, up9_eq]; exact ⟨rfl, rfl, rfl⟩
        · rw [up9_ne e, up9_ne e, up9_ne e]; exact hI x a (by omega)
  have KB : ∀ (m : Nat) (k : Int) (τ : S9), 0 ≤ k → k + m = 16 → eq9 (fun k => k ≠ 97 ∧ k ≠ 113 ∧ k ≠ 112 ∧ k ≠ 114 ∧ k ≠ 115 ∧ k ≠ 116 ∧ k ≠ 117) σ τ → gI τ 97 = up9 (up9 (up9 (up9 (up9 (gI σ 97) 20 1) 21 n) 22 R) 27 stt) 30 str.length → (∀ x, 0 ≤ x → x < (96 : Int) → gI τ 113 x = gI σ 99 x) → (∀ x, 0 ≤ x → x < k → gI τ 112 x = gI σ 98 x) → Vv d mX10_snapshot 65 [.ref 97, .int (iI k)] [] τ (QI P) := by
    intro m
    induction m with
    | zero =>
      intro k τ hk hm he hg a0 hI
      refine v_iload_n dX10_snapshot_65 rfl ?_
      refine v_bipush dX10_snapshot_66 (by decide) ?_
      refine v_icmp_ge (tgt := 89) dX10_snapshot_68 (by decide) (by omega) (fun q68 => ?_) (fun q68 => absurd q68 (by omega))
      refine v_iconst dX10_snapshot_89 ?_
      refine v_istore_n (lv' := [_, _]) dX10_snapshot_90 (Nat.le_of_ble_eq_true rfl) rfl rfl ?_
      exact KC 6 0 τ (by omega) (by omega) he hg a0 (fun x a b => hI x a (by omega)) (fun x a b => by omega)
    | succ m ih =>
      intro k τ hk hm he hg a0 hI
      have fs : gI τ 98 = gI σ 98 := (he 98 (by decide)).1
      refine v_iload_n dX10_snapshot_65 rfl ?_
      refine v_bipush dX10_snapshot_66 (by decide) ?_
      refine v_icmp_ge (tgt := 89) dX10_snapshot_68 (by decide) (by omega) (fun q68 => absurd q68 (by omega)) (fun q68 => ?_)
      refine v_aload_n dX10_snapshot_71 rfl ?_
      refine v_getR (k1 := 112) dX10_snapshot_72 s_97 fX10_61 rfl ?_
      refine v_iload_n dX10_snapshot_75 rfl ?_
      refine v_aload_n dX10_snapshot_76 rfl ?_
      refine v_getR (k1 := 98) dX10_snapshot_77 s_97 fX10_15 rfl ?_
      refine v_iload_n dX10_snapshot_80 rfl ?_
      refine v_iaload dX10_snapshot_81 s_98 (by omega) ?_
      rw [fs]
      refine v_iastore dX10_snapshot_82 s_112 (by omega) ?_
      refine v_iinc (lv' := [_, _]) dX10_snapshot_83 rfl (Nat.le_of_ble_eq_true rfl) rfl rfl ?_
      refine v_goto (tgt := 65) dX10_snapshot_86 (by decide) ?_
      refine ih (k + 1) _ (by omega) (by omega) (he.tr (eq9.aI (by decide))) (by rw [gI_aI_ne (by decide)]; exact hg) ?_ (fun x a b => ?_)
      · exact fun x a b => by rw [gI_aI_ne (by decide)]; exact a0 x a b
      · rw [gI_aI_eq]
        by_cases e : x = k
        · rw [e, up9_eq]
        · rw [up9_ne e]; exact hI x a (by omega)
  have KA : ∀ (m : Nat) (k : Int) (τ : S9), 0 ≤ k → k + m = 96 → eq9 (fun k => k ≠ 97 ∧ k ≠ 113 ∧ k ≠ 112 ∧ k ≠ 114 ∧ k ≠ 115 ∧ k ≠ 116 ∧ k ≠ 117) σ τ → gI τ 97 = up9 (up9 (up9 (up9 (up9 (gI σ 97) 20 1) 21 n) 22 R) 27 stt) 30 str.length → (∀ x, 0 ≤ x → x < k → gI τ 113 x = gI σ 99 x) → Vv d mX10_snapshot 39 [.ref 97, .int (iI k)] [] τ (QI P) := by
    intro m
    induction m with
    | zero =>
      intro k τ hk hm he hg hI
      refine v_iload_n dX10_snapshot_39 rfl ?_
      refine v_bipush dX10_snapshot_40 (by decide) ?_
      refine v_icmp_ge (tgt := 63) dX10_snapshot_42 (by decide) (by omega) (fun q42 => ?_) (fun q42 => absurd q42 (by omega))
      refine v_iconst dX10_snapshot_63 ?_
      refine v_istore_n (lv' := [_, _]) dX10_snapshot_64 (Nat.le_of_ble_eq_true rfl) rfl rfl ?_
      exact KB 16 0 τ (by omega) (by omega) he hg  (fun x a b => hI x a (by omega)) (fun x a b => by omega)
    | succ m ih =>
      intro k τ hk hm he hg hI
      have fs : gI τ 99 = gI σ 99 := (he 99 (by decide)).1
      refine v_iload_n dX10_snapshot_39 rfl ?_
      refine v_bipush dX10_snapshot_40 (by decide) ?_
      refine v_icmp_ge (tgt := 63) dX10_snapshot_42 (by decide) (by omega) (fun q42 => absurd q42 (by omega)) (fun q42 => ?_)
      refine v_aload_n dX10_snapshot_45 rfl ?_
      refine v_getR (k1 := 113) dX10_snapshot_46 s_97 fX10_64 rfl ?_
      refine v_iload_n dX10_snapshot_49 rfl ?_
      refine v_aload_n dX10_snapshot_50 rfl ?_
      refine v_getR (k1 := 99) dX10_snapshot_51 s_97 fX10_19 rfl ?_
      refine v_iload_n dX10_snapshot_54 rfl ?_
      refine v_iaload dX10_snapshot_55 s_99 (by omega) ?_
      rw [fs]
      refine v_iastore dX10_snapshot_56 s_113 (by omega) ?_
      refine v_iinc (lv' := [_, _]) dX10_snapshot_57 rfl (Nat.le_of_ble_eq_true rfl) rfl rfl ?_
      refine v_goto (tgt := 39) dX10_snapshot_60 (by decide) ?_
      refine ih (k + 1) _ (by omega) (by omega) (he.tr (eq9.aI (by decide))) (by rw [gI_aI_ne (by decide)]; exact hg)  (fun x a b => ?_)
      rw [gI_aI_eq]
      by_cases e : x = k
      · rw [e, up9_eq]
      · rw [up9_ne e]; exact hI x a (by omega)
  refine v_aload_n dX10_snapshot_0 rfl ?_
  refine v_iconst dX10_snapshot_1 ?_
  refine v_putZ (ji := 20) dX10_snapshot_2 s_97 pfX10_281 rfl (by decide) ?_
  refine v_aload_n dX10_snapshot_5 rfl ?_
  refine v_aload_n dX10_snapshot_6 rfl ?_
  refine v_getI (ji := 0) dX10_snapshot_7 s_97 fX10_9 rfl ?_
  rw [gI_aI_ne9 (by decide), c.1]
  refine v_putI (ji := 21) dX10_snapshot_10 s_97 pfX10_285 rfl ?_
  refine v_aload_n dX10_snapshot_13 rfl ?_
  refine v_aload_n dX10_snapshot_14 rfl ?_
  refine v_getI (ji := 1) dX10_snapshot_15 s_97 fX10_119 rfl ?_
  rw [gI_aI_ne9 (by decide), gI_aI_ne9 (by decide), c.2.1]
  refine v_putI (ji := 22) dX10_snapshot_18 s_97 pfX10_288 rfl ?_
  refine v_aload_n dX10_snapshot_21 rfl ?_
  refine v_aload_n dX10_snapshot_22 rfl ?_
  refine v_getI (ji := 6) dX10_snapshot_23 s_97 fX10_130 rfl ?_
  rw [gI_aI_ne9 (by decide), gI_aI_ne9 (by decide), gI_aI_ne9 (by decide), c.2.2.1]
  refine v_putI (ji := 27) dX10_snapshot_26 s_97 pfX10_291 rfl ?_
  refine v_aload_n dX10_snapshot_29 rfl ?_
  refine v_aload_n dX10_snapshot_30 rfl ?_
  refine v_getI (ji := 11) dX10_snapshot_31 s_97 fX10_124 rfl ?_
  rw [gI_aI_ne9 (by decide), gI_aI_ne9 (by decide), gI_aI_ne9 (by decide), gI_aI_ne9 (by decide), c.2.2.2.1]
  refine v_putI (ji := 30) dX10_snapshot_34 s_97 pfX10_294 rfl ?_
  refine v_iconst dX10_snapshot_37 ?_
  refine v_istore_n (lv' := [_, _]) dX10_snapshot_38 (Nat.le_of_ble_eq_true rfl) rfl rfl ?_
  refine KA 96 0 _ (by omega) (by omega) (((((eq9.aI (by decide)).tr (eq9.aI (by decide))).tr (eq9.aI (by decide))).tr (eq9.aI (by decide))).tr (eq9.aI (by decide))) ?_ (fun x a b => by omega)
  rw [gI_aI_eq, gI_aI_eq, gI_aI_eq, gI_aI_eq, gI_aI_eq]
theorem c_X10_restore {P : Int → S9 → Prop} {b : Int} (hb : gI σ 97 20 = b) (hb01 : b = 0 ∨ b = 1) (h0 : b = 0 → P (-6) σ) (c : b = 1 → SyMs σ n R lf rg wt lev stt ap str) (h : b = 1 → ∀ τ, eq9 (fun k => k ≠ 97 ∧ k ≠ 99 ∧ k ≠ 98 ∧ k ≠ 100 ∧ k ≠ 101 ∧ k ≠ 102 ∧ k ≠ 104) σ τ → gI τ 97 = up9 (up9 (up9 (up9 (up9 (gI σ 97) 0 n) 1 R) 6 stt) 11 str.length) 12 0 → (∀ x, 0 ≤ x → x < (96 : Int) → gI τ 99 x = gI σ 113 x) → (∀ x, 0 ≤ x → x < (16 : Int) → gI τ 98 x = gI σ 112 x) → (∀ x, 0 ≤ x → x < (6 : Int) → gI τ 100 x = gI σ 114 x ∧ gI τ 101 x = gI σ 115 x ∧ gF τ 102 x = gF σ 116 x) → (∀ x, 0 ≤ x → x < (12 : Int) → gI τ 104 x = gI σ 117 x) → P R τ) : Cc d mX10_restore [.ref 97] σ (QI P) := by
  refine Cc_of (by decide +kernel) (fun _ => Nat.le_of_ble_eq_true rfl) rfl (lv := [_, _]) ?_
  by_cases hb1 : b = 1
  · have h := h hb1
    have c := c hb1
    have KD : ∀ (m : Nat) (k : Int) (τ : S9), 0 ≤ k → k + m = 12 → eq9 (fun k => k ≠ 97 ∧ k ≠ 99 ∧ k ≠ 98 ∧ k ≠ 100 ∧ k ≠ 101 ∧ k ≠ 102 ∧ k ≠ 104) σ τ → gI τ 97 = up9 (up9 (up9 (up9 (up9 (gI σ 97) 0 n) 1 R) 6 stt) 11 str.length) 12 0 → (∀ x, 0 ≤ x → x < (96 : Int) → gI τ 99 x = gI σ 113 x) → (∀ x, 0 ≤ x → x < (16 : Int) → gI τ 98 x = gI σ 112 x) → (∀ x, 0 ≤ x → x < (6 : Int) → gI τ 100 x = gI σ 114 x ∧ gI τ 101 x = gI σ 115 x ∧ gF τ 102 x = gF σ 116 x) → (∀ x, 0 ≤ x → x < k → gI τ 104 x = gI σ 117 x) → Vv d mX10_restore 151 [.ref 97, .int (iI k)] [] τ (QI P) := by
      intro m
      induction m with
      | zero =>
        intro k τ hk hm he hg a0 a1 a2 hI
        refine v_iload_n dX10_restore_151 rfl ?_
        refine v_bipush dX10_restore_152 (by decide) ?_
        refine v_icmp_ge (tgt := 175) dX10_restore_154 (by decide) (by omega) (fun q154 => ?_) (fun q154 => absurd q154 (by omega))
        refine v_aload_n dX10_restore_175 rfl ?_
        refine v_getI (ji := 1) dX10_restore_176 s_97 fX10_119 rfl ?_
        rw [hg]
        rw [up9_ne (by decide), up9_ne (by decide), up9_ne (by decide), up9_eq]
        exact v_ireturn dX10_restore_179 rfl (h τ he hg a0 a1 a2 (fun x a b => hI x a (by omega)))
      | succ m ih =>
        intro k τ hk hm he hg a0 a1 a2 hI
        have fs : gI τ 117 = gI σ 117 := (he 117 (by decide)).1
        refine v_iload_n dX10_restore_151 rfl ?_
        refine v_bipush dX10_restore_152 (by decide) ?_
        refine v_icmp_ge (tgt := 175) dX10_restore_154 (by decide) (by omega) (fun q154 => absurd q154 (by omega)) (fun q154 => ?_)
        refine v_aload_n dX10_restore_157 rfl ?_
        refine v_getR (k1 := 104) dX10_restore_158 s_97 fX10_35 rfl ?_
        refine v_iload_n dX10_restore_161 rfl ?_
        refine v_aload_n dX10_restore_162 rfl ?_
        refine v_getR (k1 := 117) dX10_restore_163 s_97 fX10_76 rfl ?_
        refine v_iload_n dX10_restore_166 rfl ?_
        refine v_iaload dX10_restore_167 s_117 (by omega) ?_
        rw [fs]
        refine v_iastore dX10_restore_168 s_104 (by omega) ?_
        refine v_iinc (lv' := [_, _]) dX10_restore_169 rfl (Nat.le_of_ble_eq_true rfl) rfl rfl ?_
        refine v_goto (tgt := 151) dX10_restore_172 (by decide) ?_
        refine ih (k + 1) _ (by omega) (by omega) (he.tr (eq9.aI (by decide))) (by rw [gI_aI_ne (by decide)]; exact hg) ?_ ?_ ?_ (fun x a b => ?_)
        · exact fun x a b => by rw [gI_aI_ne (by decide)]; exact a0 x a b
        · exact fun x a b => by rw [gI_aI_ne (by decide)]; exact a1 x a b
        · exact fun x a b => by rw [gI_aI_ne (by decide), gI_aI_ne (by decide), gF_aI]; exact a2 x a b
        · rw [gI_aI_eq]
          by_cases e : x = k
          · rw [e, up9_eq]
          · rw [up9_ne e]; exact hI x a (by omega)
    have KC : ∀ (m : Nat) (k : Int) (τ : S9), 0 ≤ k → k + m = 6 → eq9 (fun k => k ≠ 97 ∧ k ≠ 99 ∧ k ≠ 98 ∧ k ≠ 100 ∧ k ≠ 101 ∧ k ≠ 102 ∧ k ≠ 104) σ τ → gI τ 97 = up9 (up9 (up9 (up9 (up9 (gI σ 97) 0 n) 1 R) 6 stt) 11 str.length) 12 0 → (∀ x, 0 ≤ x → x < (96 : Int) → gI τ 99 x = gI σ 113 x) → (∀ x, 0 ≤ x → x < (16 : Int) → gI τ 98 x = gI σ 112 x) → (∀ x, 0 ≤ x → x < k → gI τ 100 x = gI σ 114 x ∧ gI τ 101 x = gI σ 115 x ∧ gF τ 102 x = gF σ 116 x) → Vv d mX10_restore 101 [.ref 97, .int (iI k)] [] τ (QI P) := by
      intro m
      induction m with
      | zero =>
        intro k τ hk hm he hg a0 a1 hI
        refine v_iload_n dX10_restore_101 rfl ?_
        refine v_bipush dX10_restore_102 (by decide) ?_
        refine v_icmp_ge (tgt := 149) dX10_restore_104 (by decide) (by omega) (fun q104 => ?_) (fun q104 => absurd q104 (by omega))
        refine v_iconst dX10_restore_149 ?_
        refine v_istore_n (lv' := [_, _]) dX10_restore_150 (Nat.le_of_ble_eq_true rfl) rfl rfl ?_
        exact KD 12 0 τ (by omega) (by omega) he hg a0 a1 (fun x a b => hI x a (by omega)) (fun x a b => by omega)
      | succ m ih =>
        intro k τ hk hm he hg a0 a1 hI
        have f1 : gI τ 114 = gI σ 114 := (he 114 (by decide)).1
        have f2 : gI τ 115 = gI σ 115 := (he 115 (by decide)).1
        have f3 : gF τ 116 = gF σ 116 := (he 116 (by decide)).2.2.1
        refine v_iload_n dX10_restore_101 rfl ?_
        refine v_bipush dX10_restore_102 (by decide) ?_
        refine v_icmp_ge (tgt := 149) dX10_restore_104 (by decide) (by omega) (fun q104 => absurd q104 (by omega)) (fun q104 => ?_)
        refine v_aload_n dX10_restore_107 rfl ?_
        refine v_getR (k1 := 100) dX10_restore_108 s_97 fX10_22 rfl ?_
        refine v_iload_n dX10_restore_111 rfl ?_
        refine v_aload_n dX10_restore_112 rfl ?_
        refine v_getR (k1 := 114) dX10_restore_113 s_97 fX10_67 rfl ?_
        refine v_iload_n dX10_restore_116 rfl ?_
        refine v_iaload dX10_restore_117 s_114 (by omega) ?_
        rw [f1]
        refine v_iastore dX10_restore_118 s_100 (by omega) ?_
        refine v_aload_n dX10_restore_119 rfl ?_
        refine v_getR (k1 := 101) dX10_restore_120 s_97 fX10_25 rfl ?_
        refine v_iload_n dX10_restore_123 rfl ?_
        refine v_aload_n dX10_restore_124 rfl ?_
        refine v_getR (k1 := 115) dX10_restore_125 s_97 fX10_70 rfl ?_
        refine v_iload_n dX10_restore_128 rfl ?_
        refine v_iaload dX10_restore_129 s_115 (by omega) ?_
        rw [gI_aI_ne (by decide), f2]
        refine v_iastore dX10_restore_130 s_101 (by omega) ?_
        refine v_aload_n dX10_restore_131 rfl ?_
        refine v_getR (k1 := 102) dX10_restore_132 s_97 fX10_28 rfl ?_
        refine v_iload_n dX10_restore_135 rfl ?_
        refine v_aload_n dX10_restore_136 rfl ?_
        refine v_getR (k1 := 116) dX10_restore_137 s_97 fX10_73 rfl ?_
        refine v_iload_n dX10_restore_140 rfl ?_
        refine v_faload dX10_restore_141 s_116 (by omega) ?_
        rw [gF_aI, gF_aI, f3]
        refine v_fastore dX10_restore_142 s_102 (by omega) ?_
        refine v_iinc (lv' := [_, _]) dX10_restore_143 rfl (Nat.le_of_ble_eq_true rfl) rfl rfl ?_
        refine v_goto (tgt := 101) dX10_restore_146 (by decide) ?_
        refine ih (k + 1) _ (by omega) (by omega) (he.tr (((eq9.aI (by decide)).tr (eq9.aI (by decide))).tr (eq9.aF (by decide)))) (by rw [gI_aF, gI_aI_ne (by decide), gI_aI_ne (by decide)]; exact hg) ?_ ?_ (fun x a b => ?_)
        · exact fun x a b => by rw [gI_aF, gI_aI_ne (by decide), gI_aI_ne (by decide)]; exact a0 x a b
        · exact fun x a b => by rw [gI_aF, gI_aI_ne (by decide), gI_aI_ne (by decide)]; exact a1 x a b
        · rw [gI_aF, gI_aF, gF_aF_eq, gI_aI_ne (by decide), gI_aI_eq, gI_aI_eq, gI_aI_ne (by decide), gF_aI, gF_aI]
          by_cases e : x = k
          · rw [e, up9_eq, up9_eq, up9_eq]; exact ⟨rfl, rfl, rfl⟩
          · rw [up9_ne e, up9_ne e, up9_ne e]; exact hI x a (by omega)
    have KB : ∀ (m : Nat) (k : Int) (τ : S9), 0 ≤ k → k + m = 16 → eq9 (fun k => k ≠ 97 ∧ k ≠ 99 ∧ k ≠ 98 ∧ k ≠ 100 ∧ k ≠ 101 ∧ k ≠ 102 ∧ k ≠ 104) σ τ → gI τ 97 = up9 (up9 (up9 (up9 (up9 (gI σ 97) 0 n) 1 R) 6 stt) 11 str.length) 12 0 → (∀ x, 0 ≤ x → x < (96 : Int) → gI τ 99 x = gI σ 113 x) → (∀ x, 0 ≤ x → x < k → gI τ 98 x = gI σ 112 x) → Vv d mX10_restore 75 [.ref 97, .int (iI k)] [] τ (QI P) := by
      intro m
      induction m with
      | zero =>
        intro k τ hk hm he hg a0 hI
        refine v_iload_n dX10_restore_75 rfl ?_
        refine v_bipush dX10_restore_76 (by decide) ?_
        refine v_icmp_ge (tgt := 99) dX10_restore_78 (by decide) (by omega) (fun q78 => ?_) (fun q78 => absurd q78 (by omega))
        refine v_iconst dX10_restore_99 ?_
        refine v_istore_n (lv' := [_, _]) dX10_restore_100 (Nat.le_of_ble_eq_true rfl) rfl rfl ?_
        exact KC 6 0 τ (by omega) (by omega) he hg a0 (fun x a b => hI x a (by omega)) (fun x a b => by omega)
      | succ m ih =>
        intro k τ hk hm he hg a0 hI
        have fs : gI τ 112 = gI σ 112 := (he 112 (by decide)).1
        refine v_iload_n dX10_restore_75 rfl ?_
        refine v_bipush dX10_restore_76 (by decide) ?_
        refine v_icmp_ge (tgt := 99) dX10_restore_78 (by decide) (by omega) (fun q78 => absurd q78 (by omega)) (fun q78 => ?_)
        refine v_aload_n dX10_restore_81 rfl ?_
        refine v_getR (k1 := 98) dX10_restore_82 s_97 fX10_15 rfl ?_
        refine v_iload_n dX10_restore_85 rfl ?_
        refine v_aload_n dX10_restore_86 rfl ?_
        refine v_getR (k1 := 112) dX10_restore_87 s_97 fX10_61 rfl ?_
        refine v_iload_n dX10_restore_90 rfl ?_
        refine v_iaload dX10_restore_91 s_112 (by omega) ?_
        rw [fs]
        refine v_iastore dX10_restore_92 s_98 (by omega) ?_
        refine v_iinc (lv' := [_, _]) dX10_restore_93 rfl (Nat.le_of_ble_eq_true rfl) rfl rfl ?_
        refine v_goto (tgt := 75) dX10_restore_96 (by decide) ?_
        refine ih (k + 1) _ (by omega) (by omega) (he.tr (eq9.aI (by decide))) (by rw [gI_aI_ne (by decide)]; exact hg) ?_ (fun x a b => ?_)
        · exact fun x a b => by rw [gI_aI_ne (by decide)]; exact a0 x a b
        · rw [gI_aI_eq]
          by_cases e : x = k
          · rw [e, up9_eq]
          · rw [up9_ne e]; exact hI x a (by omega)
    have KA : ∀ (m : Nat) (k : Int) (τ : S9), 0 ≤ k → k + m = 96 → eq9 (fun k => k ≠ 97 ∧ k ≠ 99 ∧ k ≠ 98 ∧ k ≠ 100 ∧ k ≠ 101 ∧ k ≠ 102 ∧ k ≠ 104) σ τ → gI τ 97 = up9 (up9 (up9 (up9 (up9 (gI σ 97) 0 n) 1 R) 6 stt) 11 str.length) 12 0 → (∀ x, 0 ≤ x → x < k → gI τ 99 x = gI σ 113 x) → Vv d mX10_restore 49 [.ref 97, .int (iI k)] [] τ (QI P) := by
      intro m
      induction m with
      | zero =>
        intro k τ hk hm he hg hI
        refine v_iload_n dX10_restore_49 rfl ?_
        refine v_bipush dX10_restore_50 (by decide) ?_
        refine v_icmp_ge (tgt := 73) dX10_restore_52 (by decide) (by omega) (fun q52 => ?_) (fun q52 => absurd q52 (by omega))
        refine v_iconst dX10_restore_73 ?_
        refine v_istore_n (lv' := [_, _]) dX10_restore_74 (Nat.le_of_ble_eq_true rfl) rfl rfl ?_
        exact KB 16 0 τ (by omega) (by omega) he hg  (fun x a b => hI x a (by omega)) (fun x a b => by omega)
      | succ m ih =>
        intro k τ hk hm he hg hI
        have fs : gI τ 113 = gI σ 113 := (he 113 (by decide)).1
        refine v_iload_n dX10_restore_49 rfl ?_
        refine v_bipush dX10_restore_50 (by decide) ?_
        refine v_icmp_ge (tgt := 73) dX10_restore_52 (by decide) (by omega) (fun q52 => absurd q52 (by omega)) (fun q52 => ?_)
        refine v_aload_n dX10_restore_55 rfl ?_
        refine v_getR (k1 := 99) dX10_restore_56 s_97 fX10_19 rfl ?_
        refine v_iload_n dX10_restore_59 rfl ?_
        refine v_aload_n dX10_restore_60 rfl ?_
        refine v_getR (k1 := 113) dX10_restore_61 s_97 fX10_64 rfl ?_
        refine v_iload_n dX10_restore_64 rfl ?_
        refine v_iaload dX10_restore_65 s_113 (by omega) ?_
        rw [fs]
        refine v_iastore dX10_restore_66 s_99 (by omega) ?_
        refine v_iinc (lv' := [_, _]) dX10_restore_67 rfl (Nat.le_of_ble_eq_true rfl) rfl rfl ?_
        refine v_goto (tgt := 49) dX10_restore_70 (by decide) ?_
        refine ih (k + 1) _ (by omega) (by omega) (he.tr (eq9.aI (by decide))) (by rw [gI_aI_ne (by decide)]; exact hg)  (fun x a b => ?_)
        rw [gI_aI_eq]
        by_cases e : x = k
        · rw [e, up9_eq]
        · rw [up9_ne e]; exact hI x a (by omega)
    refine v_aload_n dX10_restore_0 rfl ?_
    refine v_getI (ji := 20) dX10_restore_1 s_97 fX10_281 rfl ?_
    rw [hb]
    refine v_if_ne (tgt := 10) dX10_restore_4 (by decide) (by omega) (fun q4 => ?_) (fun q4 => absurd q4 (by omega))
    refine v_aload_n dX10_restore_10 rfl ?_
    refine v_aload_n dX10_restore_11 rfl ?_
    refine v_getI (ji := 21) dX10_restore_12 s_97 fX10_285 rfl ?_
    rw [c.1]
    refine v_putI (ji := 0) dX10_restore_15 s_97 pfX10_9 rfl ?_
    refine v_aload_n dX10_restore_18 rfl ?_
    refine v_aload_n dX10_restore_19 rfl ?_
    refine v_getI (ji := 22) dX10_restore_20 s_97 fX10_288 rfl ?_
    rw [gI_aI_ne9 (by decide), c.2.1]
    refine v_putI (ji := 1) dX10_restore_23 s_97 pfX10_119 rfl ?_
    refine v_aload_n dX10_restore_26 rfl ?_
    refine v_aload_n dX10_restore_27 rfl ?_
    refine v_getI (ji := 27) dX10_restore_28 s_97 fX10_291 rfl ?_
    rw [gI_aI_ne9 (by decide), gI_aI_ne9 (by decide), c.2.2.1]
    refine v_putI (ji := 6) dX10_restore_31 s_97 pfX10_130 rfl ?_
    refine v_aload_n dX10_restore_34 rfl ?_
    refine v_aload_n dX10_restore_35 rfl ?_
    refine v_getI (ji := 30) dX10_restore_36 s_97 fX10_294 rfl ?_
    rw [gI_aI_ne9 (by decide), gI_aI_ne9 (by decide), gI_aI_ne9 (by decide), c.2.2.2.1]
    refine v_putI (ji := 11) dX10_restore_39 s_97 pfX10_124 rfl ?_
    refine v_aload_n dX10_restore_42 rfl ?_
    refine v_iconst dX10_restore_43 ?_
    refine v_putI (ji := 12) dX10_restore_44 s_97 pfX10_127 rfl ?_
    refine v_iconst dX10_restore_47 ?_
    refine v_istore_n (lv' := [_, _]) dX10_restore_48 (Nat.le_of_ble_eq_true rfl) rfl rfl ?_
    refine KA 96 0 _ (by omega) (by omega) (((((eq9.aI (by decide)).tr (eq9.aI (by decide))).tr (eq9.aI (by decide))).tr (eq9.aI (by decide))).tr (eq9.aI (by decide))) ?_ (fun x a b => by omega)
    rw [gI_aI_eq, gI_aI_eq, gI_aI_eq, gI_aI_eq, gI_aI_eq]
  · have hb0 : b = 0 := by omega
    refine v_aload_n dX10_restore_0 rfl ?_
    refine v_getI (ji := 20) dX10_restore_1 s_97 fX10_281 rfl ?_
    rw [hb]
    refine v_if_ne (tgt := 10) dX10_restore_4 (by decide) (by omega) (fun q4 => absurd q4 (by omega)) (fun q4 => ?_)
    refine v_bipush dX10_restore_7 (by decide) ?_
    exact v_ireturn dX10_restore_9 rfl (h0 hb0)
end
