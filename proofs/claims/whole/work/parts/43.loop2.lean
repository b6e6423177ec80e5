theorem en9_appl {E X : List E9} {k : Nat} (h : k < E.length) : en9 (E ++ X) k = en9 E k := by
  unfold en9
  rw [List.getD_eq_getElem?_getD, List.getD_eq_getElem?_getD, List.getElem?_append_left h]
theorem ls9_st {l : List Int} {k : Nat} {p r : Int} {S : T9} (h : S.2 = none) : ls9 l k p r none S = S := by
  unfold ls9
  rw [if_neg (fun q => q h)]
theorem ls9_loop {l y : List Int} {k : Nat} {p r : Int} {S : T9} (h : S.2 = none) (hy : ho9 l y = true) : ls9 l k p r (some y) S = (S.1, some (some (k, r, p))) := by
  unfold ls9
  rw [if_neg (fun q => q h)]
  exact if_pos hy
theorem ls9_old {l y : List Int} {k : Nat} {p r : Int} {S : T9} (h : S.2 = none) (hy : ¬ ho9 l y = true) (hm : y ∈ S.1.map (·.1)) : ls9 l k p r (some y) S = S := by
  unfold ls9
  rw [if_neg (fun q => q h)]
  exact (if_neg hy).trans (if_pos hm)
theorem ls9_new {l y : List Int} {k : Nat} {p r : Int} {S : T9} (h : S.2 = none) (hy : ¬ ho9 l y = true) (hm : y ∉ S.1.map (·.1)) (hl : S.1.length < 200) : ls9 l k p r (some y) S = (S.1 ++ [(y, k, r, p)], none) := by
  unfold ls9
  rw [if_neg (fun q => q h)]
  exact (if_neg hy).trans ((if_neg hm).trans (if_pos hl))
theorem ls9_full {l y : List Int} {k : Nat} {p r : Int} {S : T9} (h : S.2 = none) (hy : ¬ ho9 l y = true) (hm : y ∉ S.1.map (·.1)) (hl : ¬ S.1.length < 200) : ls9 l k p r (some y) S = (S.1, some none) := by
  unfold ls9
  rw [if_neg (fun q => q h)]
  exact (if_neg hy).trans ((if_neg hm).trans (if_neg hl))
section
variable {d : Nat} {n R : Int} {lf rg : Int → List Int} {wt lev : Int → Int} {stt : Int} {ap : Int → UInt32} {str : List Int} {σ : S9}
theorem c_X0_expandForLoop {l : List Int} {E : List E9} {k : Nat} {P : Int → S9 → Prop} (v : Va n R lf rg wt lev stt ap str) (c : SyC σ 1 n R lf rg wt lev stt ap str) (H : LI9 σ n E) (hk : k < E.length) (hl0 : (en9 E 0).1 = l) (hl1 : 1 ≤ l.length)
    (h0 : ∀ τ, (lq9 l lf rg R (en9 E k).1 k (E, none) (en9 E k).1.length).2 = none → LI9 τ n (lq9 l lf rg R (en9 E k).1 k (E, none) (en9 E k).1.length).1 → (∃ X, (lq9 l lf rg R (en9 E k).1 k (E, none) (en9 E k).1.length).1 = E ++ X) → eq9 (fun k => k < 36 ∨ 44 < k) σ τ → P (-6) τ)
    (h1 : ∀ τ, (lq9 l lf rg R (en9 E k).1 k (E, none) (en9 E k).1.length).2 = some none → eq9 (fun k => k < 36 ∨ 44 < k) σ τ → P (-7) τ)
    (h2 : ∀ τ r p L, (lq9 l lf rg R (en9 E k).1 k (E, none) (en9 E k).1.length).2 = some (some (k, r, p)) → (0 ≤ r ∧ r ≤ 8) → (0 ≤ p ∧ p ≤ 12) → WF9 (lq9 l lf rg R (en9 E k).1 k (E, none) (en9 E k).1.length).1 → k < (lq9 l lf rg R (en9 E k).1 k (E, none) (en9 E k).1.length).1.length → pt9 (lq9 l lf rg R (en9 E k).1 k (E, none) (en9 E k).1.length).1 L k → L.length ≤ 199 → gI τ 33 0 = L.length + 1 → (∀ i : Int, 0 ≤ i → i ≤ (L.length : Int) → gI τ 34 i = (ll9 r p L i).1 ∧ gI τ 35 i = (ll9 r p L i).2) → eq9 (fun k => k < 33 ∨ 44 < k) σ τ → P (L.length + 1) τ) : Cc (d + 4) mX0_expandForLoop [.ref 36, .ref 1, .int (iI k), .ref 33] σ (QI P) := by
  have hn := v.1
  have hR := v.2.1
  have ow := (H.2.2.2.1 k hk).1
  have sw : St (en9 E k).1 := ow.st (by omega) (by decide)
  have hlw := ow.2
  have ol : OkL n 12 l := by rw [← hl0]; exact (H.2.2.2.1 0 (by omega)).1
  have sl : St l := ol.st (by omega) (by decide)
  refine Cc_of (by decide +kernel) (fun _ => Nat.le_of_ble_eq_true rfl) rfl (lv := [_, _, _, _, _, _, _, _, _, _]) ?_
  have K2 : ∀ (p : Nat), p < (en9 E k).1.length → ∀ S0, S0 = lq9 l lf rg R (en9 E k).1 k (E, none) p → (∀ τ, (lq9 l lf rg R (en9 E k).1 k (E, none) (p + 1)).2 = none → LI9 τ n (lq9 l lf rg R (en9 E k).1 k (E, none) (p + 1)).1 → (∃ X, (lq9 l lf rg R (en9 E k).1 k (E, none) (p + 1)).1 = E ++ X) → eq9 (fun k => k < 36 ∨ 44 < k) σ τ → ∀ l7 l8 l9, Vv (d + 4) mX0_expandForLoop 114 [.ref 36, .ref 1, .int (iI k), .ref 33, .long (lI (encW (en9 E k).1)), .null, .int (iI p), l7, l8, l9] [] τ (QI P)) → ∀ (m : Nat) (r : Nat) (τ : S9), r + m = R.toNat → (lr9 l lf rg (en9 E k).1 k p S0 r).2 = none → LI9 τ n (lr9 l lf rg (en9 E k).1 k p S0 r).1 → (∃ X, (lr9 l lf rg (en9 E k).1 k p S0 r).1 = E ++ X) → eq9 (fun k => k < 36 ∨ 44 < k) σ τ → ∀ l8 l9, Vv (d + 4) mX0_expandForLoop 24 [.ref 36, .ref 1, .int (iI k), .ref 33, .long (lI (encW (en9 E k).1)), .null, .int (iI p), .int (iI r), l8, l9] [] τ (QI P) := by
    intro p hp S0 hS0 hend m
    induction m with
    | zero =>
      intro r τ hr hS hI hX he l8 l9
      have c1 : gI τ 1 1 = R := by rw [(he 1 (by omega)).1]; exact c.2.1
      have er : lq9 l lf rg R (en9 E k).1 k (E, none) (p + 1) = lr9 l lf rg (en9 E k).1 k p S0 r := by
        show lr9 l lf rg (en9 E k).1 k p (lq9 l lf rg R (en9 E k).1 k (E, none) p) R.toNat = _
        rw [← hS0, ← show r = R.toNat by omega]
      refine v_iload dX0_expandForLoop_24 rfl ?_
      refine v_aload_n dX0_expandForLoop_26 rfl ?_
      refine v_getI (ji := 1) dX0_expandForLoop_27 s_1 fX0_78 rfl ?_
      rw [c1]
      refine v_icmp_ge (tgt := 114) dX0_expandForLoop_30 (by decide) (by omega) (fun q30 => ?_) (fun q30 => absurd q30 (by omega))
      exact hend τ (by rw [er]; exact hS) (by rw [er]; exact hI) (by rw [er]; exact hX) he _ _ _
    | succ m ih =>
      intro r τ hr hS hI hX he l8 l9
      have c1 : gI τ 1 1 = R := by rw [(he 1 (by omega)).1]; exact c.2.1
      have c2 := c.eq (by omega) (he.mono (fun k hk => by omega))
      have zr : 0 ≤ (r : Int) ∧ (r : Int) < R := by omega
      have er : ∀ o, stp9 (lf r) (rg r) (en9 E k).1 p = o → lr9 l lf rg (en9 E k).1 k p S0 (r + 1) = ls9 l k p r o (lr9 l lf rg (en9 E k).1 k p S0 r) := fun o ho => by rw [lr9, ho]
      obtain ⟨X, eX⟩ := hX
      have hkS : k < (lr9 l lf rg (en9 E k).1 k p S0 r).1.length := by rw [eX, List.length_append]; omega
      have e0 : (en9 (lr9 l lf rg (en9 E k).1 k p S0 r).1 0).1 = l := by
        rw [eX, en9_appl (by omega)]
        exact hl0
      have fin : ∀ S1, lr9 l lf rg (en9 E k).1 k p S0 (r + 1) = S1 → S1.2 ≠ none → lq9 l lf rg R (en9 E k).1 k (E, none) (en9 E k).1.length = S1 := fun S1 hS1 hn1 => by
        have x1 : lq9 l lf rg R (en9 E k).1 k (E, none) (p + 1) = S1 := by
          show lr9 l lf rg (en9 E k).1 k p (lq9 l lf rg R (en9 E k).1 k (E, none) p) R.toNat = _
          rw [← hS0, show R.toNat = r + 1 + (R.toNat - (r + 1)) by omega, lr9_done (by rw [hS1]; exact hn1), hS1]
        rw [show (en9 E k).1.length = p + 1 + ((en9 E k).1.length - (p + 1)) by omega, lq9_done (by rw [x1]; exact hn1), x1]
      have w0 : gL τ 37 0 = encW l := by
        have h8 := hI.1.2.2.2.2.1 0 (by rw [List.length_map]; omega)
        rw [map_gtD (by omega), e0] at h8
        exact h8
      refine v_iload dX0_expandForLoop_24 rfl ?_
      refine v_aload_n dX0_expandForLoop_26 rfl ?_
      refine v_getI (ji := 1) dX0_expandForLoop_27 s_1 fX0_78 rfl ?_
      rw [c1]
      refine v_icmp_ge (tgt := 114) dX0_expandForLoop_30 (by decide) (by omega) (fun q30 => absurd q30 (by omega)) (fun q30 => ?_)
      refine v_aload_n dX0_expandForLoop_33 rfl ?_
      refine v_lload dX0_expandForLoop_34 rfl ?_
      refine v_iload dX0_expandForLoop_36 rfl ?_
      refine v_iload dX0_expandForLoop_38 rfl ?_
      refine v_callVl3 dX0_expandForLoop_40 kX0_80 s_1 (Nat.le_of_ble_eq_true rfl) (c_X5_stepped (by omega) (c2.l zr) (c2.r zr) sw (v.sl zr) (v.sr zr) (by omega) (fun ys hs => ?_) (fun hs => ?_))
      · have oy : OkL n 12 ys := ⟨fun x hx => by have := stp9_mem hs hx; rcases this with h | h; exact ow.1 x h; exact (v.2.2.1 r zr.1 zr.2).2.2.1 x h, (stp9_St sw (v.sr zr) hs).2⟩
        have sy := oy.st (by omega) (by decide)
        have sy2 := sy.bdW
        have er := er _ hs
        refine v_lstore (lv' := [_, _, _, _, _, _, _, _, _, _]) dX0_expandForLoop_43 (Nat.le_of_ble_eq_true rfl) rfl rfl ?_
        refine v_lload dX0_expandForLoop_45 rfl ?_
        refine v_ldc2 dX0_expandForLoop_47 wX0_84 ?_
        refine v_lcmp_ne (tgt := 57) dX0_expandForLoop_50 dX0_expandForLoop_51 (by decide) (by omega) (fun q50 => ?_) (fun q50 => absurd q50 (by omega))
        refine v_aload_n dX0_expandForLoop_57 rfl ?_
        refine v_getR (k1 := 37) dX0_expandForLoop_58 s_36 fX0_15 rfl ?_
        refine v_iconst dX0_expandForLoop_61 ?_
        refine v_laload dX0_expandForLoop_62 s_37 (by omega) ?_
        rw [w0]
        refine v_lload dX0_expandForLoop_63 rfl ?_
        refine v_callSi2 dX0_expandForLoop_65 kX0_111 (Nat.le_of_ble_eq_true rfl) (c_X8_occurs sy sl hl1 (fun zo => ?_) (fun zo => ?_))
        · obtain ⟨L, L1⟩ : ∃ L, pt9 (lr9 l lf rg (en9 E k).1 k p S0 r).1 L k ∧ L.length ≤ k := by
            obtain ⟨_, L, a, _, b⟩ := hI.2.2.2.1 k hkS
            exact ⟨L, a, b⟩
          have hl8 := hI.1.2.1
          rw [List.length_map] at hl8
          have f2 := fin _ (er.trans (ls9_loop hS (ho9_iff.mpr zo))) (by simp)
          refine v_if_eq (tgt := 82) dX0_expandForLoop_68 (by decide) (by decide) (fun q68 => absurd q68 (by decide)) (fun q68 => ?_)
          refine v_aload_n dX0_expandForLoop_71 rfl ?_
          refine v_aload_n dX0_expandForLoop_72 rfl ?_
          refine v_iload_n dX0_expandForLoop_73 rfl ?_
          refine v_iload dX0_expandForLoop_74 rfl ?_
          refine v_iload dX0_expandForLoop_76 rfl ?_
          refine v_callVi4 dX0_expandForLoop_78 kX0_115 s_36 (Nat.le_of_ble_eq_true rfl) (c_X0_storeLoop hI hkS L1.1 (fun υ e2 v1 v2 => ?_))
          exact v_ireturn dX0_expandForLoop_81 rfl (h2 υ r p L (by rw [f2]) (by omega) (by omega) (by rw [f2]; exact hI.2.1) (by rw [f2]; exact hkS) (by rw [f2]; exact L1.1) (by omega) v1 v2 ((he.mono (fun k hk => by omega)).tr (e2.mono (fun k hk => by omega))))
        · have ho : ¬ ho9 l ys = true := fun q => zo (ho9_iff.mp q)
          refine v_if_eq (tgt := 82) dX0_expandForLoop_68 (by decide) (by decide) (fun q68 => ?_) (fun q68 => absurd q68 (by decide))
          refine v_aload_n dX0_expandForLoop_82 rfl ?_
          refine v_lload dX0_expandForLoop_83 rfl ?_
          refine v_callVi1 dX0_expandForLoop_85 kX0_90 s_36 (Nat.le_of_ble_eq_true rfl) (c_X0_numberOf sy hI.1.2 (fun j j1 j2 => ?_) (fun hm => ?_))
          · refine v_if_ge (tgt := 108) dX0_expandForLoop_88 (by decide) (by have := hI.1.2.1; omega) (fun q88 => ?_) (fun q88 => absurd q88 (by omega))
            refine v_iinc (lv' := [_, _, _, _, _, _, _, _, _, _]) dX0_expandForLoop_108 rfl (Nat.le_of_ble_eq_true rfl) rfl rfl ?_
            refine v_goto (tgt := 24) dX0_expandForLoop_111 (by decide) ?_
            have e1 := er.trans (ls9_old hS ho (by rw [← j2]; exact gtD_mem j1))
            exact ih (r + 1) τ (by omega) (by rw [e1]; exact hS) (by rw [e1]; exact hI) ⟨X, by rw [e1]; exact eX⟩ he _ _
          · refine v_if_ge (tgt := 108) dX0_expandForLoop_88 (by decide) (by decide) (fun q88 => absurd q88 (by decide)) (fun q88 => ?_)
            refine v_aload_n dX0_expandForLoop_91 rfl ?_
            refine v_lload dX0_expandForLoop_92 rfl ?_
            refine v_iload_n dX0_expandForLoop_94 rfl ?_
            refine v_iload dX0_expandForLoop_95 rfl ?_
            refine v_iload dX0_expandForLoop_97 rfl ?_
            refine v_callVi4 dX0_expandForLoop_99 kX0_119 s_36 (Nat.le_of_ble_eq_true rfl) (c_X0_addStep (by omega) oy hI hkS (by omega) (by omega) hm (fun z => ?_) (fun z υ hI2 e2 => ?_))
            · refine v_if_ne (tgt := 108) dX0_expandForLoop_102 (by decide) (by decide) (fun q102 => absurd q102 (by decide)) (fun q102 => ?_)
              refine v_bipush dX0_expandForLoop_105 (by decide) ?_
              exact v_ireturn dX0_expandForLoop_107 rfl (h1 τ (by rw [fin _ (er.trans (ls9_full hS ho hm (by omega))) (by simp)]) he)
            · refine v_if_ne (tgt := 108) dX0_expandForLoop_102 (by decide) (by decide) (fun q102 => ?_) (fun q102 => absurd q102 (by decide))
              refine v_iinc (lv' := [_, _, _, _, _, _, _, _, _, _]) dX0_expandForLoop_108 rfl (Nat.le_of_ble_eq_true rfl) rfl rfl ?_
              refine v_goto (tgt := 24) dX0_expandForLoop_111 (by decide) ?_
              have e1 := er.trans (ls9_new hS ho hm z)
              exact ih (r + 1) υ (by omega) (by rw [e1]) (by rw [e1]; exact hI2) ⟨X ++ [(ys, k, (r : Int), (p : Int))], by rw [e1, eX, List.append_assoc]⟩ (he.tr e2) _ _
      · refine v_lstore (lv' := [_, _, _, _, _, _, _, _, _, _]) dX0_expandForLoop_43 (Nat.le_of_ble_eq_true rfl) rfl rfl ?_
        refine v_lload dX0_expandForLoop_45 rfl ?_
        refine v_ldc2 dX0_expandForLoop_47 wX0_84 ?_
        refine v_lcmp_ne (tgt := 57) dX0_expandForLoop_50 dX0_expandForLoop_51 (by decide) (by decide) (fun q50 => absurd rfl q50) (fun q50 => ?_)
        refine v_goto (tgt := 108) dX0_expandForLoop_54 (by decide) ?_
        refine v_iinc (lv' := [_, _, _, _, _, _, _, _, _, _]) dX0_expandForLoop_108 rfl (Nat.le_of_ble_eq_true rfl) rfl rfl ?_
        refine v_goto (tgt := 24) dX0_expandForLoop_111 (by decide) ?_
        have e1 := (er _ hs).trans (ls9_st hS)
        exact ih (r + 1) τ (by omega) (by rw [e1]; exact hS) (by rw [e1]; exact hI) ⟨X, by rw [e1]; exact eX⟩ he _ _
  have K1 : ∀ (m : Nat) (p : Nat) (τ : S9), p + m = (en9 E k).1.length → (lq9 l lf rg R (en9 E k).1 k (E, none) p).2 = none → LI9 τ n (lq9 l lf rg R (en9 E k).1 k (E, none) p).1 → (∃ X, (lq9 l lf rg R (en9 E k).1 k (E, none) p).1 = E ++ X) → eq9 (fun k => k < 36 ∨ 44 < k) σ τ → ∀ l7 l8 l9, Vv (d + 4) mX0_expandForLoop 11 [.ref 36, .ref 1, .int (iI k), .ref 33, .long (lI (encW (en9 E k).1)), .null, .int (iI p), l7, l8, l9] [] τ (QI P) := by
    intro m
    induction m with
    | zero =>
      intro p τ hp hS hI hX he l7 l8 l9
      have ep : p = (en9 E k).1.length := by omega
      refine v_iload dX0_expandForLoop_11 rfl ?_
      refine v_lload dX0_expandForLoop_13 rfl ?_
      refine v_callSi1 dX0_expandForLoop_15 kX0_73 (Nat.le_of_ble_eq_true rfl) (c_X8_sizeOf sw ?_)
      refine v_icmp_ge (tgt := 120) dX0_expandForLoop_18 (by decide) (by omega) (fun q18 => ?_) (fun q18 => absurd q18 (by omega))
      refine v_bipush dX0_expandForLoop_120 (by decide) ?_
      exact v_ireturn dX0_expandForLoop_122 rfl (by rw [ep] at hS hI hX; exact h0 τ hS hI hX he)
    | succ m ih =>
      intro p τ hp hS hI hX he l7 l8 l9
      refine v_iload dX0_expandForLoop_11 rfl ?_
      refine v_lload dX0_expandForLoop_13 rfl ?_
      refine v_callSi1 dX0_expandForLoop_15 kX0_73 (Nat.le_of_ble_eq_true rfl) (c_X8_sizeOf sw ?_)
      refine v_icmp_ge (tgt := 120) dX0_expandForLoop_18 (by decide) (by omega) (fun q18 => absurd q18 (by omega)) (fun q18 => ?_)
      refine v_iconst dX0_expandForLoop_21 ?_
      refine v_istore (lv' := [_, _, _, _, _, _, _, _, _, _]) dX0_expandForLoop_22 (Nat.le_of_ble_eq_true rfl) rfl rfl ?_
      refine K2 p (by omega) _ rfl (fun υ a1 a2 a3 a4 l7 l8 l9 => ?_) R.toNat 0 τ (by omega) hS hI hX he _ _
      refine v_iinc (lv' := [_, _, _, _, _, _, _, _, _, _]) dX0_expandForLoop_114 rfl (Nat.le_of_ble_eq_true rfl) rfl rfl ?_
      refine v_goto (tgt := 11) dX0_expandForLoop_117 (by decide) ?_
      exact ih (p + 1) υ (by omega) a1 a2 a3 a4 _ _ _
  have l200 := H.1.2.1
  rw [List.length_map] at l200
  have wk : gL σ 37 k = encW (en9 E k).1 := by
    have h8 := H.1.2.2.2.2.1 k (by rw [List.length_map]; omega)
    rw [map_gtD hk] at h8
    exact h8
  refine v_aload_n dX0_expandForLoop_0 rfl ?_
  refine v_getR (k1 := 37) dX0_expandForLoop_1 s_36 fX0_15 rfl ?_
  refine v_iload_n dX0_expandForLoop_4 rfl ?_
  refine v_laload dX0_expandForLoop_5 s_37 (by omega) ?_
  rw [wk]
  refine v_lstore (lv' := [_, _, _, _, _, _, _, _, _, _]) dX0_expandForLoop_6 (Nat.le_of_ble_eq_true rfl) rfl rfl ?_
  refine v_iconst dX0_expandForLoop_8 ?_
  refine v_istore (lv' := [_, _, _, _, _, _, _, _, _, _]) dX0_expandForLoop_9 (Nat.le_of_ble_eq_true rfl) rfl rfl ?_
  exact K1 _ 0 σ (Nat.zero_add _) rfl H ⟨[], (List.append_nil _).symm⟩ eq9.rf _ _ _
theorem c_X0_searchLoop {l : List Int} {P : Int → S9 → Prop} (v : Va n R lf rg wt lev stt ap str) (c : SyC σ 1 n R lf rg wt lev stt ap str) (hl : OkL n 6 l) (hl1 : 1 ≤ l.length)
    (h0 : (lk9 l lf rg R 200).2 = none → ∀ τ, eq9 (fun k => k < 36 ∨ 44 < k) σ τ → P (-6) τ) (h1 : (lk9 l lf rg R 200).2 = some none → ∀ τ, eq9 (fun k => k < 36 ∨ 44 < k) σ τ → P (-7) τ)
    (h2 : ∀ τ k r p L, (lk9 l lf rg R 200).2 = some (some (k, r, p)) → (0 ≤ r ∧ r ≤ 8) → (0 ≤ p ∧ p ≤ 12) → WF9 (lk9 l lf rg R 200).1 → k < (lk9 l lf rg R 200).1.length → pt9 (lk9 l lf rg R 200).1 L k → L.length ≤ 199 → gI τ 33 0 = L.length + 1 → (∀ i : Int, 0 ≤ i → i ≤ (L.length : Int) → gI τ 34 i = (ll9 r p L i).1 ∧ gI τ 35 i = (ll9 r p L i).2) → eq9 (fun k => k < 33 ∨ 44 < k) σ τ → P (L.length + 1) τ) : Cc (d + 5) mX0_searchLoop [.ref 36, .ref 1, .long (lI (encW l)), .ref 33] σ (QI P) := by
  have hn := v.1
  have hR := v.2.1
  have sl : St l := hl.st (by omega) (by decide)
  refine Cc_of (by decide +kernel) (fun _ => Nat.le_of_ble_eq_true rfl) rfl (lv := [_, _, _, _, _, _, _]) ?_
  have K : ∀ (m : Nat) (k : Nat) (τ : S9), k + m = 200 → (lk9 l lf rg R k).2 = none → LI9 τ n (lk9 l lf rg R k).1 → (en9 (lk9 l lf rg R k).1 0).1 = l → eq9 (fun k => k < 36 ∨ 44 < k) σ τ → ∀ l6, Vv (d + 5) mX0_searchLoop 8 [.ref 36, .ref 1, .long (lI (encW l)), .null, .ref 33, .int (iI k), l6] [] τ (QI P) := by
    intro m
    induction m with
    | zero =>
      intro k τ hk hS hI he0 he l6
      have g1 := hI.1.1
      have l2 := hI.1.2.1
      rw [List.length_map] at g1 l2
      have ek : k = 200 := by omega
      refine v_iload dX0_searchLoop_8 rfl ?_
      refine v_aload_n dX0_searchLoop_10 rfl ?_
      refine v_getI (ji := 0) dX0_searchLoop_11 s_36 fX0_9 rfl ?_
      rw [g1]
      refine v_icmp_ge (tgt := 52) dX0_searchLoop_14 (by decide) (by omega) (fun q14 => ?_) (fun q14 => absurd q14 (by omega))
      refine v_bipush dX0_searchLoop_52 (by decide) ?_
      exact v_ireturn dX0_searchLoop_54 rfl (by rw [ek] at hS; exact h0 hS τ he)
    | succ m ih =>
      intro k τ hk hS hI he0 he l6
      have g1 := hI.1.1
      have l2 := hI.1.2.1
      rw [List.length_map] at g1 l2
      have c2 := c.eq (by omega) (he.mono (fun k hk => by omega))
      have hSe : ((lk9 l lf rg R k).1, (none : Option (Option (Nat × Int × Int)))) = lk9 l lf rg R k := by rw [← hS]
      have en : k < (lk9 l lf rg R k).1.length → lk9 l lf rg R (k + 1) = lq9 l lf rg R (en9 (lk9 l lf rg R k).1 k).1 k ((lk9 l lf rg R k).1, none) (en9 (lk9 l lf rg R k).1 k).1.length := fun q => by
        rw [hSe]
        exact if_pos ⟨hS, q⟩
      have e200 : k < (lk9 l lf rg R k).1.length → (lk9 l lf rg R (k + 1)).2 ≠ none → lk9 l lf rg R 200 = lk9 l lf rg R (k + 1) := fun q q2 => by
        have := lk9_stay (Or.inl q2) (200 - (k + 1))
        rw [show k + 1 + (200 - (k + 1)) = 200 by omega] at this
        exact this
      refine v_iload dX0_searchLoop_8 rfl ?_
      refine v_aload_n dX0_searchLoop_10 rfl ?_
      refine v_getI (ji := 0) dX0_searchLoop_11 s_36 fX0_9 rfl ?_
      rw [g1]
      refine v_icmp_ge (tgt := 52) dX0_searchLoop_14 (by decide) (by omega) (fun q14 => ?_) (fun q14 => ?_)
      · refine v_bipush dX0_searchLoop_52 (by decide) ?_
        exact v_ireturn dX0_searchLoop_54 rfl (h0 (by
        have := lk9_stay (l := l) (lf := lf) (rg := rg) (R := R) (k := k) (Or.inr (by omega)) (200 - k)
        rw [show k + (200 - k) = 200 by omega] at this
        rw [this]
        exact hS) τ he)
      · refine v_iload dX0_searchLoop_17 rfl ?_
        refine v_sipush dX0_searchLoop_19 (by decide) ?_
        refine v_icmp_ge (tgt := 52) dX0_searchLoop_22 (by decide) (by omega) (fun q22 => absurd q22 (by omega)) (fun q22 => ?_)
        refine v_aload_n dX0_searchLoop_25 rfl ?_
        refine v_aload_n dX0_searchLoop_26 rfl ?_
        refine v_iload dX0_searchLoop_27 rfl ?_
        refine v_aload dX0_searchLoop_29 rfl ?_
        have kl : k < (lk9 l lf rg R k).1.length := by omega
        have en := en kl
        refine v_callVi3 dX0_searchLoop_31 kX0_107 s_36 (Nat.le_of_ble_eq_true rfl) (c_X0_expandForLoop v c2 hI kl he0 hl1 (fun υ a1 a2 a3 a4 => ?_) (fun υ a1 a2 => ?_) (fun υ r p L a1 ar ap awf ak a2 al a3 a4 a5 => ?_))
        · refine v_istore (lv' := [_, _, _, _, _, _, _]) dX0_searchLoop_34 (Nat.le_of_ble_eq_true rfl) rfl rfl ?_
          refine v_iload dX0_searchLoop_36 rfl ?_
          refine v_bipush dX0_searchLoop_38 (by decide) ?_
          refine v_icmp_eq (tgt := 46) dX0_searchLoop_40 (by decide) (by decide) (fun q40 => ?_) (fun q40 => absurd rfl q40)
          refine v_iinc (lv' := [_, _, _, _, _, _, _]) dX0_searchLoop_46 rfl (Nat.le_of_ble_eq_true rfl) rfl rfl ?_
          refine v_goto (tgt := 8) dX0_searchLoop_49 (by decide) ?_
          obtain ⟨X, eX⟩ := a3
          refine ih (k + 1) υ (by omega) (by rw [en]; exact a1) (by rw [en]; exact a2) ?_ (he.tr a4) _
          rw [en, eX, en9_appl (by omega)]
          exact he0
        · refine v_istore (lv' := [_, _, _, _, _, _, _]) dX0_searchLoop_34 (Nat.le_of_ble_eq_true rfl) rfl rfl ?_
          refine v_iload dX0_searchLoop_36 rfl ?_
          refine v_bipush dX0_searchLoop_38 (by decide) ?_
          refine v_icmp_eq (tgt := 46) dX0_searchLoop_40 (by decide) (by decide) (fun q40 => absurd q40 (by decide)) (fun q40 => ?_)
          refine v_iload dX0_searchLoop_43 rfl ?_
          exact v_ireturn dX0_searchLoop_45 rfl (h1 (by rw [e200 kl (by rw [en, a1]; simp), en, a1]) υ (he.tr a2))
        · refine v_istore (lv' := [_, _, _, _, _, _, _]) dX0_searchLoop_34 (Nat.le_of_ble_eq_true rfl) rfl rfl ?_
          refine v_iload dX0_searchLoop_36 rfl ?_
          refine v_bipush dX0_searchLoop_38 (by decide) ?_
          refine v_icmp_eq (tgt := 46) dX0_searchLoop_40 (by decide) (by omega) (fun q40 => absurd q40 (by omega)) (fun q40 => ?_)
          refine v_iload dX0_searchLoop_43 rfl ?_
          exact v_ireturn dX0_searchLoop_45 rfl (by
          have e2 := e200 kl (by rw [en, a1]; simp)
          rw [en] at e2
          exact h2 υ k r p L (by rw [e2]; exact a1) ar ap (by rw [e2]; exact awf) (by rw [e2]; exact ak) (by rw [e2]; exact a2) al a3 a4 ((he.mono (fun k hk => by omega)).tr a5))
  refine v_aload_n dX0_searchLoop_0 rfl ?_
  refine v_lload_n dX0_searchLoop_1 rfl ?_
  refine v_callVv1 dX0_searchLoop_2 kX0_65 s_36 (Nat.le_of_ble_eq_true rfl) (c_X0_start sl (fun τ T e s1 s2 s3 => ?_))
  refine v_iconst dX0_searchLoop_5 ?_
  refine v_istore (lv' := [_, _, _, _, _, _, _]) dX0_searchLoop_6 (Nat.le_of_ble_eq_true rfl) rfl rfl ?_
  refine K 200 0 τ (by omega) rfl ⟨T, fun j hj hj1 => ?_, Nat.le_refl 1, fun j hj => ?_, fun j hj hj1 => ?_⟩ rfl e _
  · have hj : j < 1 := hj
    omega
  · have hj : j < 1 := hj
    have ej : j = 0 := by omega
    subst ej
    exact ⟨⟨hl.1, by have := hl.2; show l.length ≤ 12; omega⟩, [], rfl, s2, by decide⟩
  · have hj : j < 1 := hj
    omega
theorem c_X9_findLoop {x : Int} {P : Int → S9 → Prop} (v : Va n R lf rg wt lev stt ap str) (c : SyC σ 1 n R lf rg wt lev stt ap str) (hx : (-2147483648 ≤ x ∧ x < 2147483648)) (hno : ¬ (0 ≤ x ∧ x < R) → P (-3) σ)
    (h0 : 0 ≤ x ∧ x < R → (lk9 (lf x) lf rg R 200).2 = none → ∀ τ, eq9 (fun k => k < 36 ∨ 44 < k) σ τ → P (-6) τ) (h1 : 0 ≤ x ∧ x < R → (lk9 (lf x) lf rg R 200).2 = some none → ∀ τ, eq9 (fun k => k < 36 ∨ 44 < k) σ τ → P (-7) τ)
    (h2 : 0 ≤ x ∧ x < R → ∀ τ k r p L, (lk9 (lf x) lf rg R 200).2 = some (some (k, r, p)) → (0 ≤ r ∧ r ≤ 8) → (0 ≤ p ∧ p ≤ 12) → WF9 (lk9 (lf x) lf rg R 200).1 → k < (lk9 (lf x) lf rg R 200).1.length → pt9 (lk9 (lf x) lf rg R 200).1 L k → L.length ≤ 199 → gI τ 33 0 = L.length + 1 → (∀ i : Int, 0 ≤ i → i ≤ (L.length : Int) → gI τ 34 i = (ll9 r p L i).1 ∧ gI τ 35 i = (ll9 r p L i).2) → eq9 (fun k => k < 33 ∨ 44 < k) σ τ → P (L.length + 1) τ) : Cc (d + 6) mX9_findLoop [.ref 0, .int (iI x)] σ (QI P) := by
  have hn := v.1
  have hR := v.2.1
  refine Cc_of (by decide +kernel) (fun _ => Nat.le_of_ble_eq_true rfl) rfl (lv := [_, _]) ?_
  refine v_aload_n dX9_findLoop_0 rfl ?_
  refine v_getR (k1 := 1) dX9_findLoop_1 s_0 fX9_14 rfl ?_
  refine v_iload_n dX9_findLoop_4 rfl ?_
  refine v_callVi1 dX9_findLoop_5 kX9_110 s_1 (Nat.le_of_ble_eq_true rfl) (c_X5_hasRule c.2.1 (by omega) hx (fun z => ?_) (fun z => ?_))
  · refine v_if_eq (tgt := 38) dX9_findLoop_8 (by decide) (by decide) (fun q8 => absurd q8 (by decide)) (fun q8 => ?_)
    refine v_aload_n dX9_findLoop_11 rfl ?_
    refine v_getR (k1 := 36) dX9_findLoop_12 s_0 fX9_42 rfl ?_
    refine v_aload_n dX9_findLoop_15 rfl ?_
    refine v_getR (k1 := 1) dX9_findLoop_16 s_0 fX9_14 rfl ?_
    refine v_aload_n dX9_findLoop_19 rfl ?_
    refine v_getR (k1 := 1) dX9_findLoop_20 s_0 fX9_14 rfl ?_
    refine v_getR (k1 := 2) dX9_findLoop_23 s_1 fX9_117 rfl ?_
    refine v_iload_n dX9_findLoop_26 rfl ?_
    refine v_laload dX9_findLoop_27 s_2 (by omega) ?_
    rw [c.l z]
    refine v_aload_n dX9_findLoop_28 rfl ?_
    refine v_getR (k1 := 33) dX9_findLoop_29 s_0 fX9_35 rfl ?_
    refine v_callVi3 dX9_findLoop_32 kX9_216 s_36 (Nat.le_of_ble_eq_true rfl) (c_X0_searchLoop v c (v.2.2.1 x z.1 z.2).1 (v.2.2.1 x z.1 z.2).2.1 (fun a1 τ a2 => ?_) (fun a1 τ a2 => ?_) (fun τ k r p L a1 ar ap awf ak a2 al a3 a4 a5 => ?_))
    · refine v_goto (tgt := 40) dX9_findLoop_35 (by decide) ?_
      exact v_ireturn dX9_findLoop_40 rfl (h0 z a1 τ a2)
    · refine v_goto (tgt := 40) dX9_findLoop_35 (by decide) ?_
      exact v_ireturn dX9_findLoop_40 rfl (h1 z a1 τ a2)
    · refine v_goto (tgt := 40) dX9_findLoop_35 (by decide) ?_
      exact v_ireturn dX9_findLoop_40 rfl (h2 z τ k r p L a1 ar ap awf ak a2 al a3 a4 a5)
  · refine v_if_eq (tgt := 38) dX9_findLoop_8 (by decide) (by decide) (fun q8 => ?_) (fun q8 => absurd q8 (by decide))
    refine v_bipush dX9_findLoop_38 (by decide) ?_
    exact v_ireturn dX9_findLoop_40 rfl (hno z)
end
