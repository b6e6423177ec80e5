section
variable {d : Nat} {n R : Int} {lf rg : Int → List Int} {wt lev : Int → Int} {stt : Int} {ap : Int → UInt32} {str : List Int} {σ : S9}
theorem c_X10_steps {P : Int → S9 → Prop} (v : Va n R lf rg wt lev stt ap str) (c : SyMn σ n R lf rg wt lev stt ap str) (h1 : ∀ ys, fst9 lf rg R str = some ys → OkL n 12 ys → ∀ τ, eq9 (fun k => k ≠ 97 ∧ k ≠ 104) σ τ → gI τ 97 = up9 (gI σ 97) 11 ys.length → (∀ i : Int, 0 ≤ i → i < ys.length → gI τ 104 i = at9 ys i) → P 1 τ) (h0 : fst9 lf rg R str = none → P 0 σ) : Cc (d + 3) mX10_steps [.ref 97] σ (QI P) := by
  have hn := v.1
  have hR := v.2.1
  have ostr := v.2.2.2.2.2
  have lstr := ostr.2
  refine Cc_of (by decide +kernel) (fun _ => Nat.le_of_ble_eq_true rfl) rfl (lv := [_, _, _, _, _, _, _]) ?_
  have K1 : ∀ (m : Nat) (p : Int), 0 ≤ p → p + m = str.length → fst9 lf rg R str = fsp9 lf rg R.toNat str m p → ∀ l4 l5 l6, Vv (d + 3) mX10_steps 7 [.ref 97, .long (lI (em9 str)), .null, .int (iI p), l4, l5, l6] [] σ (QI P) := by
    intro m
    induction m with
    | zero =>
      intro p hp hm hf l4 l5 l6
      refine v_iload_n dX10_steps_7 rfl ?_
      refine v_aload_n dX10_steps_8 rfl ?_
      refine v_getI (ji := 11) dX10_steps_9 s_97 fX10_124 rfl ?_
      rw [c.2.2.2.1]
      refine v_icmp_ge (tgt := 66) dX10_steps_12 (by decide) (by omega) (fun q12 => ?_) (fun q12 => absurd q12 (by omega))
      refine v_iconst dX10_steps_66 ?_
      exact v_zreturn dX10_steps_67 rfl (by decide) (h0 hf)
    | succ m ih =>
      intro p hp hm hf l4 l5 l6
      have K2 : ∀ (q : Nat) (r : Int), 0 ≤ r → r + q = R → fsr9 lf rg str p R.toNat 0 = fsr9 lf rg str p q r → ∀ l5 l6, Vv (d + 3) mX10_steps 18 [.ref 97, .long (lI (em9 str)), .null, .int (iI p), .int (iI r), l5, l6] [] σ (QI P) := by
        intro q
        induction q with
        | zero =>
          intro r hr hq hg l5 l6
          refine v_iload dX10_steps_18 rfl ?_
          refine v_aload_n dX10_steps_20 rfl ?_
          refine v_getI (ji := 1) dX10_steps_21 s_97 fX10_119 rfl ?_
          rw [c.2.1]
          refine v_icmp_ge (tgt := 60) dX10_steps_24 (by decide) (by omega) (fun q24 => ?_) (fun q24 => absurd q24 (by omega))
          refine v_iinc (lv' := [_, _, _, _, _, _, _]) dX10_steps_60 rfl (Nat.le_of_ble_eq_true rfl) rfl rfl ?_
          refine v_goto (tgt := 7) dX10_steps_63 (by decide) ?_
          exact ih (p + 1) (by omega) (by omega) (by rw [hf, fsp9, hg]; rfl) _ _ _
        | succ q ih2 =>
          intro r hr hq hg l5 l6
          have zr : 0 ≤ r ∧ r < R := by omega
          refine v_iload dX10_steps_18 rfl ?_
          refine v_aload_n dX10_steps_20 rfl ?_
          refine v_getI (ji := 1) dX10_steps_21 s_97 fX10_119 rfl ?_
          rw [c.2.1]
          refine v_icmp_ge (tgt := 60) dX10_steps_24 (by decide) (by omega) (fun q24 => absurd q24 (by omega)) (fun q24 => ?_)
          refine v_aload_n dX10_steps_27 rfl ?_
          refine v_lload_n dX10_steps_28 rfl ?_
          refine v_iload dX10_steps_29 rfl ?_
          refine v_iload_n dX10_steps_31 rfl ?_
          refine v_callVl3 dX10_steps_32 kX10_222 s_97 (Nat.le_of_ble_eq_true rfl) (c_X10_step9 v c (v.o6 ostr) zr (by omega) (fun ys hs => ?_) (fun hs => ?_))
          · have oy := stp9_ok v zr ostr hs
            have by2 := (v.o6 oy).bd
            refine v_lstore (lv' := [_, _, _, _, _, _, _]) dX10_steps_35 (Nat.le_of_ble_eq_true rfl) rfl rfl ?_
            refine v_lload dX10_steps_37 rfl ?_
            refine v_ldc2 dX10_steps_39 wX10_212 ?_
            refine v_lcmp_eq (tgt := 54) dX10_steps_42 dX10_steps_43 (by decide) (by omega) (fun q42 => absurd q42 (by omega)) (fun q42 => ?_)
            refine v_aload_n dX10_steps_46 rfl ?_
            refine v_lload dX10_steps_47 rfl ?_
            refine v_callVv1 dX10_steps_49 kX10_226 s_97 (Nat.le_of_ble_eq_true rfl) (c_X10_becomes (v.o6 oy) (fun τ e1 e2 e3 => ?_))
            refine v_iconst dX10_steps_52 ?_
            exact v_zreturn dX10_steps_53 rfl (by decide) (h1 ys (by rw [hf, fsp9, hg, fsr9, hs]) oy τ e1 e2 e3)
          · refine v_lstore (lv' := [_, _, _, _, _, _, _]) dX10_steps_35 (Nat.le_of_ble_eq_true rfl) rfl rfl ?_
            refine v_lload dX10_steps_37 rfl ?_
            refine v_ldc2 dX10_steps_39 wX10_212 ?_
            refine v_lcmp_eq (tgt := 54) dX10_steps_42 dX10_steps_43 (by decide) (by decide) (fun q42 => ?_) (fun q42 => absurd rfl q42)
            refine v_iinc (lv' := [_, _, _, _, _, _, _]) dX10_steps_54 rfl (Nat.le_of_ble_eq_true rfl) rfl rfl ?_
            refine v_goto (tgt := 18) dX10_steps_57 (by decide) ?_
            exact ih2 (r + 1) (by omega) (by omega) (by rw [hg, fsr9, hs]) _ _
      refine v_iload_n dX10_steps_7 rfl ?_
      refine v_aload_n dX10_steps_8 rfl ?_
      refine v_getI (ji := 11) dX10_steps_9 s_97 fX10_124 rfl ?_
      rw [c.2.2.2.1]
      refine v_icmp_ge (tgt := 66) dX10_steps_12 (by decide) (by omega) (fun q12 => absurd q12 (by omega)) (fun q12 => ?_)
      refine v_iconst dX10_steps_15 ?_
      refine v_istore (lv' := [_, _, _, _, _, _, _]) dX10_steps_16 (Nat.le_of_ble_eq_true rfl) rfl rfl ?_
      exact K2 R.toNat 0 (by omega) (by omega) rfl _ _
  refine v_aload_n dX10_steps_0 rfl ?_
  refine v_callVl0 dX10_steps_1 kX10_218 s_97 (Nat.le_of_ble_eq_true rfl) (c_X10_current v c ?_)
  refine v_lstore_n (lv' := [_, _, _, _, _, _, _]) dX10_steps_4 (Nat.le_of_ble_eq_true rfl) rfl rfl ?_
  refine v_iconst dX10_steps_5 ?_
  refine v_istore_n (lv' := [_, _, _, _, _, _, _]) dX10_steps_6 (Nat.le_of_ble_eq_true rfl) rfl rfl ?_
  exact K1 str.length 0 (by omega) (by omega) rfl _ _ _
theorem SyM.nst (c : SyMn σ n R lf rg wt lev stt ap str) {τ : S9} {ys : List Int} (e1 : eq9 (fun k => k ≠ 97 ∧ k ≠ 104) σ τ) (e2 : gI τ 97 = up9 (gI σ 97) 11 ys.length) (e3 : ∀ i : Int, 0 ≤ i → i < ys.length → gI τ 104 i = at9 ys i) : SyMn τ n R lf rg wt lev stt ap ys := by
  obtain ⟨c1, c2, c3, c4, c5, c6, c7⟩ := c
  refine ⟨by rw [e2, up9_ne (by decide)]; exact c1, by rw [e2, up9_ne (by decide)]; exact c2, by rw [e2, up9_ne (by decide)]; exact c3, by rw [e2, up9_eq], ?_, ?_, fun k a b => e3 k (by omega) (by omega)⟩
  · rw [(e1 98 (by decide)).1, (e1 99 (by decide)).1]; exact c5
  · rw [(e1 100 (by decide)).1, (e1 101 (by decide)).1, (e1 102 (by decide)).2.2.1]; exact c6
theorem Va.nst (v : Va n R lf rg wt lev stt ap str) {ys : List Int} (h : OkL n 12 ys) : Va n R lf rg wt lev stt ap ys := ⟨v.1, v.2.1, v.2.2.1, v.2.2.2.1, v.2.2.2.2.1, h⟩
theorem c_X10_normalize {P : Int → S9 → Prop} {s : Int} (v : Va n R lf rg wt lev stt ap str) (c : SyMn σ n R lf rg wt lev stt ap str) (hs : (-2147483648 ≤ s ∧ s < 2147483648)) (h1 : ¬ (0 ≤ s ∧ s ≤ 1000) → P (-1) σ) (h2 : (0 ≤ s ∧ s ≤ 1000) → ∀ ys τ, ys = (nrm9 lf rg R s.toNat str).1 → eq9 (fun k => k ≠ 97 ∧ k ≠ 104) σ τ → gI τ 97 = up9 (gI σ 97) 11 ys.length → (∀ i : Int, 0 ≤ i → i < ys.length → gI τ 104 i = at9 ys i) → P (nrm9 lf rg R s.toNat str).2 τ) : Cc (d + 4) mX10_normalize [.ref 97, .int (iI s)] σ (QI P) := by
  have hn := v.1
  have hR := v.2.1
  refine Cc_of (by decide +kernel) (fun _ => Nat.le_of_ble_eq_true rfl) rfl (lv := [_, _, _]) ?_
  have K : (0 ≤ s ∧ s ≤ 1000) → ∀ (m : Nat) (k : Int) (τ : S9) (w : List Int), 0 ≤ k → k + m = s → OkL n 12 w → eq9 (fun k => k ≠ 97 ∧ k ≠ 104) σ τ → gI τ 97 = up9 (gI σ 97) 11 w.length → (∀ i : Int, 0 ≤ i → i < w.length → gI τ 104 i = at9 w i) → (nrm9 lf rg R s.toNat str).1 = (nrm9 lf rg R m w).1 → (nrm9 lf rg R s.toNat str).2 = k + (nrm9 lf rg R m w).2 → Vv (d + 4) mX10_normalize 16 [.ref 97, .int (iI s), .int (iI k)] [] τ (QI P) := by
    intro hs2 m
    induction m with
    | zero =>
      intro k τ w hk hm hw e1 e2 e3 n1 n2
      refine v_iload_n dX10_normalize_16 rfl ?_
      refine v_iload_n dX10_normalize_17 rfl ?_
      refine v_icmp_ge (tgt := 34) dX10_normalize_18 (by decide) (by omega) (fun q18 => ?_) (fun q18 => absurd q18 (by omega))
      refine v_iload_n dX10_normalize_34 rfl ?_
      exact v_ireturn dX10_normalize_35 rfl (by have h8 := h2 hs2 w τ n1.symm e1 e2 e3; rw [n2, nrm9, Int.add_zero] at h8; exact h8)
    | succ m ih =>
      intro k τ w hk hm hw e1 e2 e3 n1 n2
      have c2 := c.nst e1 e2 e3
      have v2 := v.nst hw
      refine v_iload_n dX10_normalize_16 rfl ?_
      refine v_iload_n dX10_normalize_17 rfl ?_
      refine v_icmp_ge (tgt := 34) dX10_normalize_18 (by decide) (by omega) (fun q18 => absurd q18 (by omega)) (fun q18 => ?_)
      refine v_aload_n dX10_normalize_21 rfl ?_
      refine v_callVi0 dX10_normalize_22 kX10_232 s_97 (Nat.le_of_ble_eq_true rfl) (c_X10_steps v2 c2 (fun ys hf oy υ u1 u2 u3 => ?_) (fun hf => ?_))
      · refine v_if_eq (tgt := 34) dX10_normalize_25 (by decide) (by decide) (fun q25 => absurd q25 (by decide)) (fun q25 => ?_)
        refine v_iinc (lv' := [_, _, _]) dX10_normalize_28 rfl (Nat.le_of_ble_eq_true rfl) rfl rfl ?_
        refine v_goto (tgt := 16) dX10_normalize_31 (by decide) ?_
        refine ih (k + 1) υ ys (by omega) (by omega) oy (e1.tr u1) ?_ u3 ?_ ?_
        · rw [u2, e2]; funext y; by_cases e : y = 11
          · rw [e, up9_eq, up9_eq]
          · rw [up9_ne e, up9_ne e, up9_ne e]
        · rw [n1, nrm9, hf]
        · rw [n2, nrm9, hf]; show k + ((nrm9 lf rg R m ys).2 + 1) = _; omega
      · refine v_if_eq (tgt := 34) dX10_normalize_25 (by decide) (by decide) (fun q25 => ?_) (fun q25 => absurd q25 (by decide))
        refine v_iload_n dX10_normalize_34 rfl ?_
        exact v_ireturn dX10_normalize_35 rfl (by have n1 := n1; have n2 := n2; rw [nrm9, hf] at n1 n2; have h8 := h2 hs2 w τ n1.symm e1 e2 e3; rw [n2] at h8; exact (show k + 0 = k by omega) ▸ h8)
  have eS : gI σ 97 = up9 (gI σ 97) 11 str.length := by
    funext y
    by_cases e : y = 11
    · rw [e, up9_eq]; exact c.2.2.2.1
    · rw [up9_ne e]
  refine v_iload_n dX10_normalize_0 rfl ?_
  refine v_i2l dX10_normalize_1 (by omega) ?_
  refine v_lconst0 dX10_normalize_2 ?_
  refine v_ldc2 dX10_normalize_3 wX10_230 ?_
  refine v_callSi3 dX10_normalize_6 kX10_115 (Nat.le_of_ble_eq_true rfl) (c_X10_in (by omega) (by omega) (by omega) (fun z => ?_) (fun z => ?_))
  · refine v_if_ne (tgt := 14) dX10_normalize_9 (by decide) (by decide) (fun q9 => ?_) (fun q9 => absurd q9 (by decide))
    refine v_iconst dX10_normalize_14 ?_
    refine v_istore_n (lv' := [_, _, _]) dX10_normalize_15 (Nat.le_of_ble_eq_true rfl) rfl rfl ?_
    exact K (by omega) s.toNat 0 σ str (by omega) (by omega) v.2.2.2.2.2 eq9.rf eS c.tt rfl (by omega)
  · refine v_if_ne (tgt := 14) dX10_normalize_9 (by decide) (by decide) (fun q9 => absurd q9 (by decide)) (fun q9 => ?_)
    refine v_iconst dX10_normalize_12 ?_
    exact v_ireturn dX10_normalize_13 rfl (h1 (by omega))
theorem c_X10_contains {w l : List Int} {r : Int} {P : Int → S9 → Prop} (hw : O6 w) (hl : OkL 6 6 l) (hl1 : 1 ≤ l.length) (hr : 0 ≤ r ∧ r < 8) (e1 : gI σ 98 (2 * r) = l.length) (e2 : ∀ k : Int, 0 ≤ k → k < l.length → gI σ 99 (12 * r + k) = at9 l k) (h1 : ho9 l w = true → P 1 σ) (h0 : ¬ ho9 l w = true → P 0 σ) : Cc (d + 2) mX10_contains [.ref 97, .long (lI (em9 w)), .int (iI r)] σ (QI P) := by
  have hw12 := hw.2
  refine Cc_of (by decide +kernel) (fun _ => Nat.le_of_ble_eq_true rfl) rfl (lv := [_, _, _, _, _, _, _]) ?_
  have K : ∀ (m : Nat) (p b : Int), 0 ≤ p → p + m = w.length → (b = 0 ∨ b = 1) → (b = 1 ↔ ∃ q, 0 ≤ q ∧ q < p ∧ occ9 l w q) → Vv (d + 2) mX10_contains 12 [.ref 97, .long (lI (em9 w)), .null, .int (iI r), .int (iI w.length), .int (iI b), .int (iI p)] [] σ (QI P) := by
    intro m
    induction m with
    | zero =>
      intro p b hp hm hb hI
      refine v_iload dX10_contains_12 rfl ?_
      refine v_iload dX10_contains_14 rfl ?_
      refine v_icmp_ge (tgt := 50) dX10_contains_16 (by decide) (by omega) (fun q16 => ?_) (fun q16 => absurd q16 (by omega))
      refine v_iload dX10_contains_50 rfl ?_
      refine v_zreturn dX10_contains_52 rfl (by omega) (by
        rcases hb with rfl | rfl
        · refine h0 (fun z => ?_)
          obtain ⟨q, hq⟩ := ho9_iff.mp z
          exact absurd (hI.mpr ⟨q, hq.1, by have := hq.2.1; omega, hq⟩) (by decide)
        · obtain ⟨q, _, _, hq⟩ := hI.mp rfl
          exact h1 (ho9_iff.mpr ⟨q, hq⟩))
    | succ m ih =>
      intro p b hp hm hb hI
      refine v_iload dX10_contains_12 rfl ?_
      refine v_iload dX10_contains_14 rfl ?_
      refine v_icmp_ge (tgt := 50) dX10_contains_16 (by decide) (by omega) (fun q16 => absurd q16 (by omega)) (fun q16 => ?_)
      refine v_iload dX10_contains_19 rfl ?_
      refine v_if_ne (tgt := 37) dX10_contains_21 (by decide) (by omega) (fun q21 => ?_) (fun q21 => ?_)
      · refine v_iconst dX10_contains_37 ?_
        refine v_goto (tgt := 42) dX10_contains_38 (by decide) ?_
        refine v_istore (lv' := [_, _, _, _, _, _, _]) dX10_contains_42 (Nat.le_of_ble_eq_true rfl) rfl rfl ?_
        refine v_iinc (lv' := [_, _, _, _, _, _, _]) dX10_contains_44 rfl (Nat.le_of_ble_eq_true rfl) rfl rfl ?_
        refine v_goto (tgt := 12) dX10_contains_47 (by decide) ?_
        refine ih (p + 1) _ (by omega) (by omega) (by decide) ?_
        first
        | exact ⟨fun _ => by obtain ⟨q, a, b2, e⟩ := hI.mp (by omega); exact ⟨q, a, by omega, e⟩, fun _ => rfl⟩
        | exact ⟨fun _ => ⟨p, hp, by omega, z⟩, fun _ => rfl⟩
        | exact ⟨fun q => absurd q (by decide), fun ⟨q, a, b2, e⟩ => if y : q = p then absurd (y ▸ e) z else absurd (hI.mpr ⟨q, a, by omega, e⟩) (by omega)⟩
      · refine v_aload_n dX10_contains_24 rfl ?_
        refine v_lload_n dX10_contains_25 rfl ?_
        refine v_iload dX10_contains_26 rfl ?_
        refine v_iload_n dX10_contains_28 rfl ?_
        refine v_iload dX10_contains_29 rfl ?_
        refine v_callVi4 dX10_contains_31 kX10_208 s_97 (Nat.le_of_ble_eq_true rfl) (c_X10_stands hw hl hr (by omega) e1 e2 (fun z => ?_) (fun z => ?_))
        · refine v_if_eq (tgt := 41) dX10_contains_34 (by decide) (by decide) (fun q34 => absurd q34 (by decide)) (fun q34 => ?_)
          refine v_iconst dX10_contains_37 ?_
          refine v_goto (tgt := 42) dX10_contains_38 (by decide) ?_
          refine v_istore (lv' := [_, _, _, _, _, _, _]) dX10_contains_42 (Nat.le_of_ble_eq_true rfl) rfl rfl ?_
          refine v_iinc (lv' := [_, _, _, _, _, _, _]) dX10_contains_44 rfl (Nat.le_of_ble_eq_true rfl) rfl rfl ?_
          refine v_goto (tgt := 12) dX10_contains_47 (by decide) ?_
          refine ih (p + 1) _ (by omega) (by omega) (by decide) ?_
          first
          | exact ⟨fun _ => by obtain ⟨q, a, b2, e⟩ := hI.mp (by omega); exact ⟨q, a, by omega, e⟩, fun _ => rfl⟩
          | exact ⟨fun _ => ⟨p, hp, by omega, z⟩, fun _ => rfl⟩
          | exact ⟨fun q => absurd q (by decide), fun ⟨q, a, b2, e⟩ => if y : q = p then absurd (y ▸ e) z else absurd (hI.mpr ⟨q, a, by omega, e⟩) (by omega)⟩
        · refine v_if_eq (tgt := 41) dX10_contains_34 (by decide) (by decide) (fun q34 => ?_) (fun q34 => absurd q34 (by decide))
          refine v_iconst dX10_contains_41 ?_
          refine v_istore (lv' := [_, _, _, _, _, _, _]) dX10_contains_42 (Nat.le_of_ble_eq_true rfl) rfl rfl ?_
          refine v_iinc (lv' := [_, _, _, _, _, _, _]) dX10_contains_44 rfl (Nat.le_of_ble_eq_true rfl) rfl rfl ?_
          refine v_goto (tgt := 12) dX10_contains_47 (by decide) ?_
          refine ih (p + 1) _ (by omega) (by omega) (by decide) ?_
          first
          | exact ⟨fun _ => by obtain ⟨q, a, b2, e⟩ := hI.mp (by omega); exact ⟨q, a, by omega, e⟩, fun _ => rfl⟩
          | exact ⟨fun _ => ⟨p, hp, by omega, z⟩, fun _ => rfl⟩
          | exact ⟨fun q => absurd q (by decide), fun ⟨q, a, b2, e⟩ => if y : q = p then absurd (y ▸ e) z else absurd (hI.mpr ⟨q, a, by omega, e⟩) (by omega)⟩
  refine v_lload_n dX10_contains_0 rfl ?_
  refine v_callSi1 dX10_contains_1 kX10_204 (Nat.le_of_ble_eq_true rfl) (c_X10_sizeOf hw ?_)
  refine v_istore (lv' := [_, _, _, _, _, _, _]) dX10_contains_4 (Nat.le_of_ble_eq_true rfl) rfl rfl ?_
  refine v_iconst dX10_contains_6 ?_
  refine v_istore (lv' := [_, _, _, _, _, _, _]) dX10_contains_7 (Nat.le_of_ble_eq_true rfl) rfl rfl ?_
  refine v_iconst dX10_contains_9 ?_
  refine v_istore (lv' := [_, _, _, _, _, _, _]) dX10_contains_10 (Nat.le_of_ble_eq_true rfl) rfl rfl ?_
  exact K w.length 0 0 (by omega) (by omega) (Or.inl rfl) ⟨fun q => absurd q (by decide), fun ⟨q, a, b, _⟩ => by omega⟩
end
