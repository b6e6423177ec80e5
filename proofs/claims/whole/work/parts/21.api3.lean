theorem eq9.get {S : Nat → Prop} {a b : S9} (h : eq9 S a b) {k : Nat} (hk : S k) : gI b k = gI a k := (h k hk).1
theorem cnt9_s (x y : Int) (l : List Int) : cnt9 x (l ++ [y]) = cnt9 x l + (if x = y then 1 else 0) := by
  unfold cnt9
  rw [List.count_append, List.count_singleton]
  by_cases h : x = y
  · rw [if_pos h]; subst h; simp
  · rw [if_neg h]
    have : (y == x) = false := by simpa using fun e => h e.symm
    rw [this]
    simp
theorem cnt9_bd (x : Int) (l : List Int) : 0 ≤ cnt9 x l ∧ cnt9 x l ≤ l.length := by
  unfold cnt9
  have := List.count_le_length (a := x) (l := l)
  omega
theorem rfS9 {r : Int} (h : 0 ≤ r ∧ r < 8) : rfs 19 r.toNat = 20 + r.toNat := by
  obtain ⟨k, rfl⟩ := Int.eq_ofNat_of_zero_le h.1
  have : ∀ k, k < 8 → rfs 19 k = 20 + k := by decide
  exact this k (by omega)
theorem shS9 {r : Int} (h : 0 ≤ r ∧ r < 8) : sh9 (20 + r.toNat) 1 8 := by
  obtain ⟨k, rfl⟩ := Int.eq_ofNat_of_zero_le h.1
  have : ∀ k, k < 8 → shp (20 + k) = (1, 8) := by decide
  exact ⟨by show 20 + k < 130; omega, this k (by omega), by decide⟩
theorem cpy9_in {α : Type} {f g : Int → α} {n x : Int} (h : 0 ≤ x ∧ x < n) : cpy9 f g 0 0 n x = f x := by
  unfold cpy9
  rw [if_pos (by omega), show (0 : Int) + (x - 0) = x by omega]
section
variable {d : Nat} {n R : Int} {lf rg : Int → List Int} {wt lev : Int → Int} {stt : Int} {ap : Int → UInt32} {str : List Int} {σ : S9}
theorem c_J7_fill_53178 {P : S9 → Prop} {k0 m : Nat} {x : Int} (hs : sh9 k0 1 m) (h : P (aI σ k0 (fil9 (gI σ k0) 0 m x))) : Cc d mJ7_fill_53178 [.ref k0, .int (iI x)] σ (QV P) := by
  have hm := hs.2.2
  refine Cc_of (by decide +kernel) (fun _ => Nat.le_of_ble_eq_true rfl) rfl (lv := [_, _, _, _]) ?_
  have K : ∀ (q : Nat) (k : Int), 0 ≤ k → k + q = m → Vv d mJ7_fill_53178 5 [.ref k0, .int (iI x), .int (iI k), .int (iI (m : Nat))] [] (aI σ k0 (fil9 (gI σ k0) 0 k x)) (QV P) := by
    intro q
    induction q with
    | zero =>
      intro k hk hq
      have e : k = m := by omega
      subst e
      refine v_iload_n dJ7_fill_53178_5 rfl ?_
      refine v_iload_n dJ7_fill_53178_6 rfl ?_
      refine v_icmp_ge (tgt := 20) dJ7_fill_53178_7 (by decide) (by omega) (fun q7 => ?_) (fun q7 => absurd q7 (by omega))
      exact v_return dJ7_fill_53178_20 rfl (h)
    | succ q ih =>
      intro k hk hq
      have e : sI (aI σ k0 (fil9 (gI σ k0) 0 k x)) k0 k x = aI σ k0 (fil9 (gI σ k0) 0 (k + 1) x) := by
        unfold sI
        rw [gI_aI_eq, aI_aI, ← fil9_s _ _ hk, Int.zero_add]
      refine v_iload_n dJ7_fill_53178_5 rfl ?_
      refine v_iload_n dJ7_fill_53178_6 rfl ?_
      refine v_icmp_ge (tgt := 20) dJ7_fill_53178_7 (by decide) (by omega) (fun q7 => absurd q7 (by omega)) (fun q7 => ?_)
      refine v_aload_n dJ7_fill_53178_10 rfl ?_
      refine v_iload_n dJ7_fill_53178_11 rfl ?_
      refine v_iload_n dJ7_fill_53178_12 rfl ?_
      refine v_iastore dJ7_fill_53178_13 hs (by omega) ?_
      refine v_iinc (lv' := [_, _, _, _]) dJ7_fill_53178_14 rfl (Nat.le_of_ble_eq_true rfl) rfl rfl ?_
      refine v_goto (tgt := 5) dJ7_fill_53178_17 (by decide) ?_
      rw [e]
      exact ih (k + 1) (by omega) (by omega)
  refine v_iconst dJ7_fill_53178_0 ?_
  refine v_istore_n (lv' := [_, _, _, _]) dJ7_fill_53178_1 (Nat.le_of_ble_eq_true rfl) rfl rfl ?_
  refine v_aload_n dJ7_fill_53178_2 rfl ?_
  refine v_alen dJ7_fill_53178_3 hs ?_
  refine v_istore_n (lv' := [_, _, _, _]) dJ7_fill_53178_4 (Nat.le_of_ble_eq_true rfl) rfl rfl ?_
  have := K m 0 (by omega) (by omega)
  rw [fil9_0, aI_same] at this
  exact this
theorem c_X5_begin {P : S9 → Prop} {m : Int} (hm : 1 ≤ m ∧ m ≤ 6) (h : ∀ σ', (∀ lf rg, SyC σ' 1 m 0 lf rg (fun _ => 1) (fun _ => 0) 0 (fun _ => 0x3f800000) []) → eq9 (fun k => ¬ (1 ≤ k ∧ k ≤ 15)) σ σ' → P σ') : Cc d mX5_begin [.ref 1, .int (iI m)] σ (QV P) := by
  refine Cc_of (by decide +kernel) (fun _ => Nat.le_of_ble_eq_true rfl) rfl (lv := [_, _, _]) ?_
  have K : ∀ (q : Nat) (k : Int) (τ τ' : S9), 0 ≤ k → k + q = 8 → gI τ 1 0 = m → gI τ 1 1 = 0 → gI τ 1 7 = 0 → gL τ 1 9 = 0 → eq9 (fun k => ¬ (1 ≤ k ∧ k ≤ 15)) σ τ → eq9 (fun j => j ≠ 13 ∧ j ≠ 14 ∧ j ≠ 15) τ τ' → (∀ x, 0 ≤ x → x < k → gI τ' 13 x = 1 ∧ gI τ' 14 x = 0 ∧ gF τ' 15 x = 0x3f800000) → Vv d mX5_begin 22 [.ref 1, .int (iI m), .int (iI k)] [] τ' (QV P) := by
    intro q
    induction q with
    | zero =>
      intro k τ τ' hk hq t1 t2 t3 t4 hs he hI
      have e1 := he 1 (by decide)
      have fin : P τ' := by
        refine h τ' (fun lf rg => ⟨by rw [e1.1]; exact t1, by rw [e1.1]; exact t2, by rw [e1.1]; exact t3, by rw [e1.2.1, t4, encW_nil], fun r a b => by omega, fun x a b => hI x a (by omega)⟩) (hs.tr (he.mono (fun k hk => by omega)))
      refine v_iload_n dX5_begin_22 rfl ?_
      refine v_bipush dX5_begin_23 (by decide) ?_
      refine v_icmp_ge (tgt := 55) dX5_begin_25 (by decide) (by omega) (fun q25 => ?_) (fun q25 => absurd q25 (by omega))
      exact v_return dX5_begin_55 rfl (fin)
    | succ q ih =>
      intro k τ τ' hk hq t1 t2 t3 t4 hs he hI
      refine v_iload_n dX5_begin_22 rfl ?_
      refine v_bipush dX5_begin_23 (by decide) ?_
      refine v_icmp_ge (tgt := 55) dX5_begin_25 (by decide) (by omega) (fun q25 => absurd q25 (by omega)) (fun q25 => ?_)
      refine v_aload_n dX5_begin_28 rfl ?_
      refine v_getR (k1 := 13) dX5_begin_29 s_1 fX5_23 rfl ?_
      refine v_iload_n dX5_begin_32 rfl ?_
      refine v_iconst dX5_begin_33 ?_
      refine v_iastore dX5_begin_34 s_13 (by omega) ?_
      refine v_aload_n dX5_begin_35 rfl ?_
      refine v_getR (k1 := 14) dX5_begin_36 s_1 fX5_27 rfl ?_
      refine v_iload_n dX5_begin_39 rfl ?_
      refine v_iconst dX5_begin_40 ?_
      refine v_iastore dX5_begin_41 s_14 (by omega) ?_
      refine v_aload_n dX5_begin_42 rfl ?_
      refine v_getR (k1 := 15) dX5_begin_43 s_1 fX5_30 rfl ?_
      refine v_iload_n dX5_begin_46 rfl ?_
      refine v_fconst1 dX5_begin_47 ?_
      refine v_fastore dX5_begin_48 s_15 (by omega) ?_
      refine v_iinc (lv' := [_, _, _]) dX5_begin_49 rfl (Nat.le_of_ble_eq_true rfl) rfl rfl ?_
      refine v_goto (tgt := 22) dX5_begin_52 (by decide) ?_
      refine ih (k + 1) τ _ (by omega) (by omega) t1 t2 t3 t4 hs (((he.tr (eq9.aI (by decide))).tr (eq9.aI (by decide))).tr (eq9.aF (by decide))) (fun x a b => ?_)
      by_cases ex : x = k
      · subst ex; refine ⟨?_, ?_, ?_⟩
        · rw [gI_aF, gI_aI_ne (by decide), gI_aI_eq, up9_eq]
        · rw [gI_aF, gI_aI_eq, up9_eq]
        · rw [gF_aF_eq, up9_eq]
      · have hx := hI x a (by omega)
        refine ⟨?_, ?_, ?_⟩
        · rw [gI_aF, gI_aI_ne (by decide), gI_aI_eq, up9_ne ex]; exact hx.1
        · rw [gI_aF, gI_aI_eq, up9_ne ex, gI_aI_ne (by decide)]; exact hx.2.1
        · rw [gF_aF_eq, up9_ne ex]; exact hx.2.2
  refine v_aload_n dX5_begin_0 rfl ?_
  refine v_iload_n dX5_begin_1 rfl ?_
  refine v_putI (ji := 0) dX5_begin_2 s_1 pfX5_38 rfl ?_
  refine v_aload_n dX5_begin_5 rfl ?_
  refine v_iconst dX5_begin_6 ?_
  refine v_putI (ji := 1) dX5_begin_7 s_1 pfX5_42 rfl ?_
  refine v_aload_n dX5_begin_10 rfl ?_
  refine v_iconst dX5_begin_11 ?_
  refine v_putI (ji := 7) dX5_begin_12 s_1 pfX5_45 rfl ?_
  refine v_aload_n dX5_begin_15 rfl ?_
  refine v_lconst0 dX5_begin_16 ?_
  refine v_putL (ji := 9) dX5_begin_17 s_1 pfX5_48 rfl ?_
  refine v_iconst dX5_begin_20 ?_
  refine v_istore_n (lv' := [_, _, _]) dX5_begin_21 (Nat.le_of_ble_eq_true rfl) rfl rfl ?_
  refine K 8 0 _ _ (by omega) (by omega) ?_ ?_ ?_ ?_ ((((eq9.aI (by omega)).tr (eq9.aI (by omega))).tr (eq9.aI (by omega))).tr (eq9.aL (by omega))) eq9.rf (fun x a b => by omega)
  · simp [gI_aL, gI_aI_eq, up9]
  · simp [gI_aL, gI_aI_eq, up9]
  · simp [gI_aL, gI_aI_eq, up9]
  · rw [gL_aL_eq, up9_eq]
theorem c_X9_reset {P : Int → S9 → Prop} {m : Int} (v : Va n R lf rg wt lev stt ap str) (c : SyC σ 1 n R lf rg wt lev stt ap str) (hm : (-2147483648 ≤ m ∧ m < 2147483648)) (h1 : ¬ (1 ≤ m ∧ m ≤ 6) → P (-1) σ) (h2 : (1 ≤ m ∧ m ≤ 6) → ∀ σ', (∀ lf rg, SyC σ' 1 m 0 lf rg (fun _ => 1) (fun _ => 0) 0 (fun _ => 0x3f800000) []) → eq9 (fun k => ¬ (1 ≤ k ∧ k ≤ 15) ∧ k ≠ 33) σ σ' → gI σ' 33 0 = 0 → P n σ') : Cc (d + 1) mX9_reset [.ref 0, .int (iI m)] σ (QI P) := by
  refine Cc_of (by decide +kernel) (fun _ => Nat.le_of_ble_eq_true rfl) rfl (lv := [_, _, _]) ?_
  refine v_iload_n dX9_reset_0 rfl ?_
  refine v_iconst dX9_reset_1 ?_
  refine v_icmp_lt (tgt := 11) dX9_reset_2 (by decide) (by omega) (fun q2 => ?_) (fun q2 => ?_)
  · refine v_iconst dX9_reset_11 ?_
    exact v_ireturn dX9_reset_12 rfl (h1 (by omega))
  · refine v_iload_n dX9_reset_5 rfl ?_
    refine v_bipush dX9_reset_6 (by decide) ?_
    refine v_icmp_le (tgt := 13) dX9_reset_8 (by decide) (by omega) (fun q8 => ?_) (fun q8 => ?_)
    · refine v_aload_n dX9_reset_13 rfl ?_
      refine v_getR (k1 := 1) dX9_reset_14 s_0 fX9_14 rfl ?_
      refine v_getI (ji := 0) dX9_reset_17 s_1 fX9_71 rfl ?_
      rw [c.1]
      refine v_istore_n (lv' := [_, _, _]) dX9_reset_20 (Nat.le_of_ble_eq_true rfl) rfl rfl ?_
      refine v_aload_n dX9_reset_21 rfl ?_
      refine v_getR (k1 := 1) dX9_reset_22 s_0 fX9_14 rfl ?_
      refine v_iload_n dX9_reset_25 rfl ?_
      refine v_callVv1 dX9_reset_26 kX9_75 s_1 (Nat.le_of_ble_eq_true rfl) (c_X5_begin (by omega) (fun σ' hs he => ?_))
      refine v_aload_n dX9_reset_29 rfl ?_
      refine v_getR (k1 := 33) dX9_reset_30 s_0 fX9_35 rfl ?_
      refine v_iconst dX9_reset_33 ?_
      refine v_putI (ji := 0) dX9_reset_34 s_33 pfX9_79 rfl ?_
      refine v_iload_n dX9_reset_37 rfl ?_
      exact v_ireturn dX9_reset_38 rfl (h2 (by omega) _ (fun lf rg => (hs lf rg).eq (by decide) (eq9.aI (by omega))) ((he.mono (fun k hk => hk.1)).tr (eq9.aI (by omega))) (by rw [gI_aI_eq, up9_eq]))
    · refine v_iconst dX9_reset_11 ?_
      exact v_ireturn dX9_reset_12 rfl (h1 (by omega))
theorem c_X5_copyFrom_16 {P : S9 → Prop} (c : SyC σ 1 n R lf rg wt lev stt ap str) (hR : R ≤ 8) (h : ∀ σ', SyC σ' 16 n R lf rg wt lev stt ap str → eq9 (fun k => ¬ (16 ≤ k ∧ k ≤ 30)) σ σ' → P σ') : Cc (d + 1) mX5_copyFrom [.ref 16, .ref 1] σ (QV P) := by
  obtain ⟨c1, c2, c3, c4, c5, c6⟩ := c
  refine Cc_of (by decide +kernel) (fun _ => Nat.le_of_ble_eq_true rfl) rfl (lv := [_, _, _]) ?_
  have K : ∀ (q : Nat) (k : Int) (τ : S9), 0 ≤ k → k + q = 8 → eq9 (fun k => ¬ (16 ≤ k ∧ k ≤ 30)) σ τ → gI τ 16 0 = n → gI τ 16 1 = R → gI τ 16 7 = stt → gL τ 16 9 = encW str → (∀ x, 0 ≤ x → x < 8 → gL τ 17 x = gL σ 2 x ∧ gL τ 18 x = gL σ 3 x) → (∀ r x, 0 ≤ r → r < k → 0 ≤ x → x < 8 → gI τ (20 + r.toNat) x = gI σ (5 + r.toNat) x) → Vv (d + 1) mX5_copyFrom 64 [.ref 16, .ref 1, .int (iI k)] [] τ (QV P) := by
    intro q
    induction q with
    | zero =>
      intro k τ hk hq he t1 t2 t3 t4 t5 t6
      refine v_iload_n dX5_copyFrom_64 rfl ?_
      refine v_bipush dX5_copyFrom_65 (by decide) ?_
      refine v_icmp_ge (tgt := 95) dX5_copyFrom_67 (by decide) (by omega) (fun q67 => ?_) (fun q67 => absurd q67 (by omega))
      refine v_aload_n dX5_copyFrom_95 rfl ?_
      refine v_getR (k1 := 13) dX5_copyFrom_96 s_1 fX5_23 rfl ?_
      refine v_iconst dX5_copyFrom_99 ?_
      refine v_aload_n dX5_copyFrom_100 rfl ?_
      refine v_getR (k1 := 28) dX5_copyFrom_101 s_16 fX5_23 rfl ?_
      refine v_iconst dX5_copyFrom_104 ?_
      refine v_bipush dX5_copyFrom_105 (by decide) ?_
      refine v_copyI dX5_copyFrom_107 acX5_52 s_13 s_28 (by omega) (Nat.le_of_ble_eq_true rfl) ?_
      refine v_aload_n dX5_copyFrom_110 rfl ?_
      refine v_getR (k1 := 14) dX5_copyFrom_111 s_1 fX5_27 rfl ?_
      refine v_iconst dX5_copyFrom_114 ?_
      refine v_aload_n dX5_copyFrom_115 rfl ?_
      refine v_getR (k1 := 29) dX5_copyFrom_116 s_16 fX5_27 rfl ?_
      refine v_iconst dX5_copyFrom_119 ?_
      refine v_bipush dX5_copyFrom_120 (by decide) ?_
      refine v_copyI dX5_copyFrom_122 acX5_52 s_14 s_29 (by omega) (Nat.le_of_ble_eq_true rfl) ?_
      refine v_aload_n dX5_copyFrom_125 rfl ?_
      refine v_getR (k1 := 15) dX5_copyFrom_126 s_1 fX5_30 rfl ?_
      refine v_iconst dX5_copyFrom_129 ?_
      refine v_aload_n dX5_copyFrom_130 rfl ?_
      refine v_getR (k1 := 30) dX5_copyFrom_131 s_16 fX5_30 rfl ?_
      refine v_iconst dX5_copyFrom_134 ?_
      refine v_bipush dX5_copyFrom_135 (by decide) ?_
      refine v_copyF dX5_copyFrom_137 acX5_52 s_15 s_30 (by omega) (Nat.le_of_ble_eq_true rfl) ?_
      refine v_return dX5_copyFrom_140 rfl ?_
      refine h _ ⟨?_, ?_, ?_, ?_, fun r r0 r1 => ⟨?_, ?_, fun x x0 x1 => ?_⟩, fun x x0 x1 => ⟨?_, ?_, ?_⟩⟩ (((he.tr (eq9.aI (by omega))).tr (eq9.aI (by omega))).tr (eq9.aF (by omega)))
      · rw [gI_aF, gI_aI_ne (by decide), gI_aI_ne (by decide)]; exact t1
      · rw [gI_aF, gI_aI_ne (by decide), gI_aI_ne (by decide)]; exact t2
      · rw [gI_aF, gI_aI_ne (by decide), gI_aI_ne (by decide)]; exact t3
      · exact t4
      · exact (t5 r r0 (by omega)).1.trans (c5 r r0 r1).1
      · exact (t5 r r0 (by omega)).2.trans (c5 r r0 r1).2.1
      · rw [gI_aF, gI_aI_ne (by omega), gI_aI_ne (by omega)]; exact (t6 r x r0 (by omega) x0 x1).trans ((c5 r r0 r1).2.2 x x0 x1)
      · rw [gI_aF, gI_aI_ne (by decide), gI_aI_eq, cpy9_in (by omega), (he 13 (by omega)).1]; exact (c6 x x0 x1).1
      · rw [gI_aF, gI_aI_eq, cpy9_in (by omega), gI_aI_ne (by decide), (he 14 (by omega)).1]; exact (c6 x x0 x1).2.1
      · rw [gF_aF_eq, cpy9_in (by omega), gF_aI, gF_aI, (he 15 (by omega)).2.2.1]; exact (c6 x x0 x1).2.2
    | succ q ih =>
      intro k τ hk hq he t1 t2 t3 t4 t5 t6
      refine v_iload_n dX5_copyFrom_64 rfl ?_
      refine v_bipush dX5_copyFrom_65 (by decide) ?_
      refine v_icmp_ge (tgt := 95) dX5_copyFrom_67 (by decide) (by omega) (fun q67 => absurd q67 (by omega)) (fun q67 => ?_)
      refine v_aload_n dX5_copyFrom_70 rfl ?_
      refine v_getR (k1 := 4) dX5_copyFrom_71 s_1 fX5_20 rfl ?_
      refine v_iload_n dX5_copyFrom_74 rfl ?_
      refine v_aaloadR (k1 := 5 + k.toNat) dX5_copyFrom_75 s_4 (by omega) (rfB9 (by omega)) ?_
      refine v_iconst dX5_copyFrom_76 ?_
      refine v_aload_n dX5_copyFrom_77 rfl ?_
      refine v_getR (k1 := 19) dX5_copyFrom_78 s_16 fX5_20 rfl ?_
      refine v_iload_n dX5_copyFrom_81 rfl ?_
      refine v_aaloadR (k1 := 20 + k.toNat) dX5_copyFrom_82 s_19 (by omega) (rfS9 (by omega)) ?_
      refine v_iconst dX5_copyFrom_83 ?_
      refine v_bipush dX5_copyFrom_84 (by decide) ?_
      refine v_copyI dX5_copyFrom_86 acX5_52 (shB9 (r := k) (by omega)) (shS9 (r := k) (by omega)) (by omega) (Nat.le_of_ble_eq_true rfl) ?_
      refine v_iinc (lv' := [_, _, _]) dX5_copyFrom_89 rfl (Nat.le_of_ble_eq_true rfl) rfl rfl ?_
      refine v_goto (tgt := 64) dX5_copyFrom_92 (by decide) ?_
      refine ih (k + 1) _ (by omega) (by omega) (he.tr (eq9.aI (by omega))) ?_ ?_ ?_ t4 t5 (fun r x r0 r1 x0 x1 => ?_)
      · rw [gI_aI_ne (by omega)]; exact t1
      · rw [gI_aI_ne (by omega)]; exact t2
      · rw [gI_aI_ne (by omega)]; exact t3
      · by_cases er : r = k
        · subst er; rw [gI_aI_eq, cpy9_in (by omega), (he _ (by omega)).1]
        · rw [gI_aI_ne (by omega)]; exact t6 r x r0 (by omega) x0 x1
  refine v_aload_n dX5_copyFrom_0 rfl ?_
  refine v_aload_n dX5_copyFrom_1 rfl ?_
  refine v_getI (ji := 0) dX5_copyFrom_2 s_1 fX5_38 rfl ?_
  refine v_putI (ji := 0) dX5_copyFrom_5 s_16 pfX5_38 rfl ?_
  refine v_aload_n dX5_copyFrom_8 rfl ?_
  refine v_aload_n dX5_copyFrom_9 rfl ?_
  refine v_getI (ji := 1) dX5_copyFrom_10 s_1 fX5_42 rfl ?_
  refine v_putI (ji := 1) dX5_copyFrom_13 s_16 pfX5_42 rfl ?_
  refine v_aload_n dX5_copyFrom_16 rfl ?_
  refine v_aload_n dX5_copyFrom_17 rfl ?_
  refine v_getI (ji := 7) dX5_copyFrom_18 s_1 fX5_45 rfl ?_
  refine v_putI (ji := 7) dX5_copyFrom_21 s_16 pfX5_45 rfl ?_
  refine v_aload_n dX5_copyFrom_24 rfl ?_
  refine v_aload_n dX5_copyFrom_25 rfl ?_
  refine v_getL (ji := 9) dX5_copyFrom_26 s_1 fX5_48 rfl ?_
  refine v_putL (ji := 9) dX5_copyFrom_29 s_16 pfX5_48 rfl ?_
  refine v_aload_n dX5_copyFrom_32 rfl ?_
  refine v_getR (k1 := 2) dX5_copyFrom_33 s_1 fX5_9 rfl ?_
  refine v_iconst dX5_copyFrom_36 ?_
  refine v_aload_n dX5_copyFrom_37 rfl ?_
  refine v_getR (k1 := 17) dX5_copyFrom_38 s_16 fX5_9 rfl ?_
  refine v_iconst dX5_copyFrom_41 ?_
  refine v_bipush dX5_copyFrom_42 (by decide) ?_
  refine v_copyL dX5_copyFrom_44 acX5_52 s_2 s_17 (by omega) (Nat.le_of_ble_eq_true rfl) ?_
  refine v_aload_n dX5_copyFrom_47 rfl ?_
  refine v_getR (k1 := 3) dX5_copyFrom_48 s_1 fX5_15 rfl ?_
  refine v_iconst dX5_copyFrom_51 ?_
  refine v_aload_n dX5_copyFrom_52 rfl ?_
  refine v_getR (k1 := 18) dX5_copyFrom_53 s_16 fX5_15 rfl ?_
  refine v_iconst dX5_copyFrom_56 ?_
  refine v_bipush dX5_copyFrom_57 (by decide) ?_
  refine v_copyL dX5_copyFrom_59 acX5_52 s_3 s_18 (by omega) (Nat.le_of_ble_eq_true rfl) ?_
  refine v_iconst dX5_copyFrom_62 ?_
  refine v_istore_n (lv' := [_, _, _]) dX5_copyFrom_63 (Nat.le_of_ble_eq_true rfl) rfl rfl ?_
  refine K 8 0 _ (by omega) (by omega) ((((((eq9.aI (by omega)).tr (eq9.aI (by omega))).tr (eq9.aI (by omega))).tr (eq9.aL (by omega))).tr (eq9.aL (by omega))).tr (eq9.aL (by omega))) ?_ ?_ ?_ ?_ (fun x x0 x1 => ⟨?_, ?_⟩) (fun r x r0 r1 => by omega)
  · simp [gI_aL, gI_aI, up9]; exact c1
  · simp [gI_aL, gI_aI, up9]; exact c2
  · simp [gI_aL, gI_aI, up9]; exact c3
  · simp [gL_aL, gL_aI, up9]; exact c4
  · simp [gL_aL, gL_aI, cpy9_in (show 0 ≤ x ∧ x < 8 by omega)]
  · simp [gL_aL, gL_aI, cpy9_in (show 0 ≤ x ∧ x < 8 by omega)]
theorem c_X5_copyFrom_1 {P : S9 → Prop} (c : SyC σ 16 n R lf rg wt lev stt ap str) (hR : R ≤ 8) (h : ∀ σ', SyC σ' 1 n R lf rg wt lev stt ap str → eq9 (fun k => ¬ (1 ≤ k ∧ k ≤ 15)) σ σ' → P σ') : Cc (d + 1) mX5_copyFrom [.ref 1, .ref 16] σ (QV P) := by
  obtain ⟨c1, c2, c3, c4, c5, c6⟩ := c
  refine Cc_of (by decide +kernel) (fun _ => Nat.le_of_ble_eq_true rfl) rfl (lv := [_, _, _]) ?_
  have K : ∀ (q : Nat) (k : Int) (τ : S9), 0 ≤ k → k + q = 8 → eq9 (fun k => ¬ (1 ≤ k ∧ k ≤ 15)) σ τ → gI τ 1 0 = n → gI τ 1 1 = R → gI τ 1 7 = stt → gL τ 1 9 = encW str → (∀ x, 0 ≤ x → x < 8 → gL τ 2 x = gL σ 17 x ∧ gL τ 3 x = gL σ 18 x) → (∀ r x, 0 ≤ r → r < k → 0 ≤ x → x < 8 → gI τ (5 + r.toNat) x = gI σ (20 + r.toNat) x) → Vv (d + 1) mX5_copyFrom 64 [.ref 1, .ref 16, .int (iI k)] [] τ (QV P) := by
    intro q
    induction q with
    | zero =>
      intro k τ hk hq he t1 t2 t3 t4 t5 t6
      refine v_iload_n dX5_copyFrom_64 rfl ?_
      refine v_bipush dX5_copyFrom_65 (by decide) ?_
      refine v_icmp_ge (tgt := 95) dX5_copyFrom_67 (by decide) (by omega) (fun q67 => ?_) (fun q67 => absurd q67 (by omega))
      refine v_aload_n dX5_copyFrom_95 rfl ?_
      refine v_getR (k1 := 28) dX5_copyFrom_96 s_16 fX5_23 rfl ?_
      refine v_iconst dX5_copyFrom_99 ?_
      refine v_aload_n dX5_copyFrom_100 rfl ?_
      refine v_getR (k1 := 13) dX5_copyFrom_101 s_1 fX5_23 rfl ?_
      refine v_iconst dX5_copyFrom_104 ?_
      refine v_bipush dX5_copyFrom_105 (by decide) ?_
      refine v_copyI dX5_copyFrom_107 acX5_52 s_28 s_13 (by omega) (Nat.le_of_ble_eq_true rfl) ?_
      refine v_aload_n dX5_copyFrom_110 rfl ?_
      refine v_getR (k1 := 29) dX5_copyFrom_111 s_16 fX5_27 rfl ?_
      refine v_iconst dX5_copyFrom_114 ?_
      refine v_aload_n dX5_copyFrom_115 rfl ?_
      refine v_getR (k1 := 14) dX5_copyFrom_116 s_1 fX5_27 rfl ?_
      refine v_iconst dX5_copyFrom_119 ?_
      refine v_bipush dX5_copyFrom_120 (by decide) ?_
      refine v_copyI dX5_copyFrom_122 acX5_52 s_29 s_14 (by omega) (Nat.le_of_ble_eq_true rfl) ?_
      refine v_aload_n dX5_copyFrom_125 rfl ?_
      refine v_getR (k1 := 30) dX5_copyFrom_126 s_16 fX5_30 rfl ?_
      refine v_iconst dX5_copyFrom_129 ?_
      refine v_aload_n dX5_copyFrom_130 rfl ?_
      refine v_getR (k1 := 15) dX5_copyFrom_131 s_1 fX5_30 rfl ?_
      refine v_iconst dX5_copyFrom_134 ?_
      refine v_bipush dX5_copyFrom_135 (by decide) ?_
      refine v_copyF dX5_copyFrom_137 acX5_52 s_30 s_15 (by omega) (Nat.le_of_ble_eq_true rfl) ?_
      refine v_return dX5_copyFrom_140 rfl ?_
      refine h _ ⟨?_, ?_, ?_, ?_, fun r r0 r1 => ⟨?_, ?_, fun x x0 x1 => ?_⟩, fun x x0 x1 => ⟨?_, ?_, ?_⟩⟩ (((he.tr (eq9.aI (by omega))).tr (eq9.aI (by omega))).tr (eq9.aF (by omega)))
      · rw [gI_aF, gI_aI_ne (by decide), gI_aI_ne (by decide)]; exact t1
      · rw [gI_aF, gI_aI_ne (by decide), gI_aI_ne (by decide)]; exact t2
      · rw [gI_aF, gI_aI_ne (by decide), gI_aI_ne (by decide)]; exact t3
      · exact t4
      · exact (t5 r r0 (by omega)).1.trans (c5 r r0 r1).1
      · exact (t5 r r0 (by omega)).2.trans (c5 r r0 r1).2.1
      · rw [gI_aF, gI_aI_ne (by omega), gI_aI_ne (by omega)]; exact (t6 r x r0 (by omega) x0 x1).trans ((c5 r r0 r1).2.2 x x0 x1)
      · rw [gI_aF, gI_aI_ne (by decide), gI_aI_eq, cpy9_in (by omega), (he 28 (by omega)).1]; exact (c6 x x0 x1).1
      · rw [gI_aF, gI_aI_eq, cpy9_in (by omega), gI_aI_ne (by decide), (he 29 (by omega)).1]; exact (c6 x x0 x1).2.1
      · rw [gF_aF_eq, cpy9_in (by omega), gF_aI, gF_aI, (he 30 (by omega)).2.2.1]; exact (c6 x x0 x1).2.2
    | succ q ih =>
      intro k τ hk hq he t1 t2 t3 t4 t5 t6
      refine v_iload_n dX5_copyFrom_64 rfl ?_
      refine v_bipush dX5_copyFrom_65 (by decide) ?_
      refine v_icmp_ge (tgt := 95) dX5_copyFrom_67 (by decide) (by omega) (fun q67 => absurd q67 (by omega)) (fun q67 => ?_)
      refine v_aload_n dX5_copyFrom_70 rfl ?_
      refine v_getR (k1 := 19) dX5_copyFrom_71 s_16 fX5_20 rfl ?_
      refine v_iload_n dX5_copyFrom_74 rfl ?_
      refine v_aaloadR (k1 := 20 + k.toNat) dX5_copyFrom_75 s_19 (by omega) (rfS9 (by omega)) ?_
      refine v_iconst dX5_copyFrom_76 ?_
      refine v_aload_n dX5_copyFrom_77 rfl ?_
      refine v_getR (k1 := 4) dX5_copyFrom_78 s_1 fX5_20 rfl ?_
      refine v_iload_n dX5_copyFrom_81 rfl ?_
      refine v_aaloadR (k1 := 5 + k.toNat) dX5_copyFrom_82 s_4 (by omega) (rfB9 (by omega)) ?_
      refine v_iconst dX5_copyFrom_83 ?_
      refine v_bipush dX5_copyFrom_84 (by decide) ?_
      refine v_copyI dX5_copyFrom_86 acX5_52 (shS9 (r := k) (by omega)) (shB9 (r := k) (by omega)) (by omega) (Nat.le_of_ble_eq_true rfl) ?_
      refine v_iinc (lv' := [_, _, _]) dX5_copyFrom_89 rfl (Nat.le_of_ble_eq_true rfl) rfl rfl ?_
      refine v_goto (tgt := 64) dX5_copyFrom_92 (by decide) ?_
      refine ih (k + 1) _ (by omega) (by omega) (he.tr (eq9.aI (by omega))) ?_ ?_ ?_ t4 t5 (fun r x r0 r1 x0 x1 => ?_)
      · rw [gI_aI_ne (by omega)]; exact t1
      · rw [gI_aI_ne (by omega)]; exact t2
      · rw [gI_aI_ne (by omega)]; exact t3
      · by_cases er : r = k
        · subst er; rw [gI_aI_eq, cpy9_in (by omega), (he _ (by omega)).1]
        · rw [gI_aI_ne (by omega)]; exact t6 r x r0 (by omega) x0 x1
  refine v_aload_n dX5_copyFrom_0 rfl ?_
  refine v_aload_n dX5_copyFrom_1 rfl ?_
  refine v_getI (ji := 0) dX5_copyFrom_2 s_16 fX5_38 rfl ?_
  refine v_putI (ji := 0) dX5_copyFrom_5 s_1 pfX5_38 rfl ?_
  refine v_aload_n dX5_copyFrom_8 rfl ?_
  refine v_aload_n dX5_copyFrom_9 rfl ?_
  refine v_getI (ji := 1) dX5_copyFrom_10 s_16 fX5_42 rfl ?_
  refine v_putI (ji := 1) dX5_copyFrom_13 s_1 pfX5_42 rfl ?_
  refine v_aload_n dX5_copyFrom_16 rfl ?_
  refine v_aload_n dX5_copyFrom_17 rfl ?_
  refine v_getI (ji := 7) dX5_copyFrom_18 s_16 fX5_45 rfl ?_
  refine v_putI (ji := 7) dX5_copyFrom_21 s_1 pfX5_45 rfl ?_
  refine v_aload_n dX5_copyFrom_24 rfl ?_
  refine v_aload_n dX5_copyFrom_25 rfl ?_
  refine v_getL (ji := 9) dX5_copyFrom_26 s_16 fX5_48 rfl ?_
  refine v_putL (ji := 9) dX5_copyFrom_29 s_1 pfX5_48 rfl ?_
  refine v_aload_n dX5_copyFrom_32 rfl ?_
  refine v_getR (k1 := 17) dX5_copyFrom_33 s_16 fX5_9 rfl ?_
  refine v_iconst dX5_copyFrom_36 ?_
  refine v_aload_n dX5_copyFrom_37 rfl ?_
  refine v_getR (k1 := 2) dX5_copyFrom_38 s_1 fX5_9 rfl ?_
  refine v_iconst dX5_copyFrom_41 ?_
  refine v_bipush dX5_copyFrom_42 (by decide) ?_
  refine v_copyL dX5_copyFrom_44 acX5_52 s_17 s_2 (by omega) (Nat.le_of_ble_eq_true rfl) ?_
  refine v_aload_n dX5_copyFrom_47 rfl ?_
  refine v_getR (k1 := 18) dX5_copyFrom_48 s_16 fX5_15 rfl ?_
  refine v_iconst dX5_copyFrom_51 ?_
  refine v_aload_n dX5_copyFrom_52 rfl ?_
  refine v_getR (k1 := 3) dX5_copyFrom_53 s_1 fX5_15 rfl ?_
  refine v_iconst dX5_copyFrom_56 ?_
  refine v_bipush dX5_copyFrom_57 (by decide) ?_
  refine v_copyL dX5_copyFrom_59 acX5_52 s_18 s_3 (by omega) (Nat.le_of_ble_eq_true rfl) ?_
  refine v_iconst dX5_copyFrom_62 ?_
  refine v_istore_n (lv' := [_, _, _]) dX5_copyFrom_63 (Nat.le_of_ble_eq_true rfl) rfl rfl ?_
  refine K 8 0 _ (by omega) (by omega) ((((((eq9.aI (by omega)).tr (eq9.aI (by omega))).tr (eq9.aI (by omega))).tr (eq9.aL (by omega))).tr (eq9.aL (by omega))).tr (eq9.aL (by omega))) ?_ ?_ ?_ ?_ (fun x x0 x1 => ⟨?_, ?_⟩) (fun r x r0 r1 => by omega)
  · simp [gI_aL, gI_aI, up9]; exact c1
  · simp [gI_aL, gI_aI, up9]; exact c2
  · simp [gI_aL, gI_aI, up9]; exact c3
  · simp [gL_aL, gL_aI, up9]; exact c4
  · simp [gL_aL, gL_aI, cpy9_in (show 0 ≤ x ∧ x < 8 by omega)]
  · simp [gL_aL, gL_aI, cpy9_in (show 0 ≤ x ∧ x < 8 by omega)]
theorem c_X9_snapshot {P : Int → S9 → Prop} (v : Va n R lf rg wt lev stt ap str) (c : SyC σ 1 n R lf rg wt lev stt ap str) (h : ∀ σ', SyC σ' 16 n R lf rg wt lev stt ap str → eq9 (fun k => ¬ (16 ≤ k ∧ k ≤ 30) ∧ k ≠ 0) σ σ' → gI σ' 0 2 = 1 → P R σ') : Cc (d + 2) mX9_snapshot [.ref 0] σ (QI P) := by
  have hn := v.1
  have hR := v.2.1
  refine Cc_of (by decide +kernel) (fun _ => Nat.le_of_ble_eq_true rfl) rfl (lv := [_]) ?_
  refine v_aload_n dX9_snapshot_0 rfl ?_
  refine v_getR (k1 := 16) dX9_snapshot_1 s_0 fX9_18 rfl ?_
  refine v_aload_n dX9_snapshot_4 rfl ?_
  refine v_getR (k1 := 1) dX9_snapshot_5 s_0 fX9_14 rfl ?_
  refine v_callVv1 dX9_snapshot_8 kX9_291 s_16 (Nat.le_of_ble_eq_true rfl) (c_X5_copyFrom_16 c hR.2 (fun σ' hc he => ?_))
  refine v_aload_n dX9_snapshot_11 rfl ?_
  refine v_iconst dX9_snapshot_12 ?_
  refine v_putZ (ji := 2) dX9_snapshot_13 s_0 pfX9_21 rfl (by decide) ?_
  refine v_aload_n dX9_snapshot_16 rfl ?_
  refine v_getR (k1 := 1) dX9_snapshot_17 s_0 fX9_14 rfl ?_
  refine v_getI (ji := 1) dX9_snapshot_20 s_1 fX9_93 rfl ?_
  rw [gI_aI_ne (by decide), (he 1 (by omega)).1, c.2.1]
  exact v_ireturn dX9_snapshot_23 rfl (h _ (hc.eq hR.2 (eq9.aI (by omega))) ((he.mono (fun k hk => hk.1)).tr (eq9.aI (by omega))) (by rw [gI_aI_eq, up9_eq]))
theorem c_X9_restore {P : Int → S9 → Prop} {b : Int} (hb : gI σ 0 2 = b) (hb01 : b = 0 ∨ b = 1) (h0 : b = 0 → P (-6) σ) (hR : b = 1 → R ≤ 8) (h1 : b = 1 → SyC σ 16 n R lf rg wt lev stt ap str) (h2 : b = 1 → ∀ σ', SyC σ' 1 n R lf rg wt lev stt ap str → eq9 (fun k => ¬ (1 ≤ k ∧ k ≤ 15) ∧ k ≠ 33) σ σ' → gI σ' 33 0 = 0 → P R σ') : Cc (d + 2) mX9_restore [.ref 0] σ (QI P) := by
  refine Cc_of (by decide +kernel) (fun _ => Nat.le_of_ble_eq_true rfl) rfl (lv := [_]) ?_
  refine v_aload_n dX9_restore_0 rfl ?_
  refine v_getI (ji := 2) dX9_restore_1 s_0 fX9_21 rfl ?_
  rw [hb]
  refine v_if_ne (tgt := 10) dX9_restore_4 (by decide) (by omega) (fun q4 => ?_) (fun q4 => ?_)
  · refine v_aload_n dX9_restore_10 rfl ?_
    refine v_getR (k1 := 1) dX9_restore_11 s_0 fX9_14 rfl ?_
    refine v_aload_n dX9_restore_14 rfl ?_
    refine v_getR (k1 := 16) dX9_restore_15 s_0 fX9_18 rfl ?_
    refine v_callVv1 dX9_restore_18 kX9_291 s_1 (Nat.le_of_ble_eq_true rfl) (c_X5_copyFrom_1 (h1 (by omega)) (hR (by omega)) (fun σ' hc he => ?_))
    refine v_aload_n dX9_restore_21 rfl ?_
    refine v_getR (k1 := 33) dX9_restore_22 s_0 fX9_35 rfl ?_
    refine v_iconst dX9_restore_25 ?_
    refine v_putI (ji := 0) dX9_restore_26 s_33 pfX9_79 rfl ?_
    refine v_aload_n dX9_restore_29 rfl ?_
    refine v_getR (k1 := 1) dX9_restore_30 s_0 fX9_14 rfl ?_
    refine v_getI (ji := 1) dX9_restore_33 s_1 fX9_93 rfl ?_
    rw [gI_aI_ne (by decide), hc.2.1]
    exact v_ireturn dX9_restore_36 rfl (h2 (by omega) _ (hc.eq (hR (by omega)) (eq9.aI (by omega))) ((he.mono (fun k hk => hk.1)).tr (eq9.aI (by omega))) (by rw [gI_aI_eq, up9_eq]))
  · refine v_bipush dX9_restore_7 (by decide) ?_
    exact v_ireturn dX9_restore_9 rfl (h0 q4)
end
