/-! ===== the reference's loops ===== -/
def LM9 (σ : S9) (n : Int) (E : List E9) : Prop := gI σ 97 40 = E.length ∧ (∀ k : Nat, k < E.length → gL σ 123 k = em9 (en9 E k).1) ∧ (1 ≤ E.length ∧ E.length ≤ 200) ∧ WF9 E ∧ (∀ k : Nat, k < E.length → OkL n 12 (en9 E k).1 ∧ ∃ L, pt9 E L k ∧ L.length ≤ k) ∧ ∀ k : Nat, k < E.length → 1 ≤ k → gI σ 124 k = (en9 E k).2.1 ∧ gI σ 125 k = (en9 E k).2.2.1 ∧ gI σ 126 k = (en9 E k).2.2.2
section
variable {d : Nat} {n R : Int} {lf rg : Int → List Int} {wt lev : Int → Int} {stt : Int} {ap : Int → UInt32} {str : List Int} {σ : S9}
theorem LM9.fm {E : List E9} (v : Va n R lf rg wt lev stt ap str) (H : LM9 σ n E) : FM9 σ (E.map (·.1)) := by
  refine ⟨by rw [List.length_map]; exact H.1, fun i hi => ?_, by rw [List.length_map]; exact H.2.2.1.2, fun z hz => ?_⟩
  · rw [List.length_map] at hi
    rw [map_gtD hi]
    exact H.2.1 i hi
  · obtain ⟨i, hi, ei⟩ := mem_gtD hz
    rw [List.length_map] at hi
    rw [map_gtD hi] at ei
    rw [← ei]
    exact v.o6 (H.2.2.2.2.1 i hi).1
theorem LM9.put {E : List E9} {y : List Int} {k : Nat} {r p : Int} (H : LM9 σ n E) (hk : k < E.length) (hl : E.length < 200) (oy : OkL n 12 y) (hr : 0 ≤ r ∧ r ≤ 8) (hp : 0 ≤ p ∧ p ≤ 12) {τ : S9} (e1 : gI τ 97 40 = E.length + 1) (e2 : gL τ 123 = up9 (gL σ 123) E.length (em9 y)) (e3 : gI τ 124 = up9 (gI σ 124) E.length k) (e4 : gI τ 125 = up9 (gI σ 125) E.length r) (e5 : gI τ 126 = up9 (gI σ 126) E.length p) : LM9 τ n (E ++ [(y, k, r, p)]) := by
  obtain ⟨h1, h2, h3, h4, h5, h6⟩ := H
  have el : (E ++ [(y, k, r, p)]).length = E.length + 1 := by rw [List.length_append]; rfl
  refine ⟨by rw [e1, el]; rfl, fun j hj => ?_, by omega, fun j hj hj1 => ?_, fun j hj => ?_, fun j hj hj1 => ?_⟩
  · rw [el] at hj
    by_cases e : j = E.length
    · rw [e2, e, en9_last, up9_eq]
    · rw [e2, en9_app (by omega), up9_ne (by omega)]
      exact h2 j (by omega)
  · rw [el] at hj
    by_cases e : j = E.length
    · rw [e, en9_last]
      exact ⟨hk, hr, hp⟩
    · rw [en9_app (by omega)]
      exact h4 j (by omega) hj1
  · rw [el] at hj
    by_cases e : j = E.length
    · rw [e, en9_last]
      obtain ⟨_, L, L1, L2⟩ := h5 k hk
      refine ⟨oy, (r, p) :: L, ⟨by omega, ?_, ?_⟩, by rw [List.length_cons]; omega⟩
      · rw [en9_last]
      · rw [en9_last]
        exact pt9_app h4 hk L1
    · rw [en9_app (by omega)]
      obtain ⟨a, L, L1, L2⟩ := h5 j (by omega)
      exact ⟨a, L, pt9_app h4 (by omega) L1, L2⟩
  · rw [el] at hj
    by_cases e : j = E.length
    · rw [e, en9_last, e3, e4, e5, up9_eq, up9_eq, up9_eq]
      exact ⟨rfl, rfl, rfl⟩
    · rw [en9_app (by omega), e3, e4, e5, up9_ne (by omega), up9_ne (by omega), up9_ne (by omega)]
      exact h6 j (by omega) hj1
theorem c_X10_loops {E : List E9} {k : Nat} {r p : Int} {L : List (Int × Int)} {P : Int → S9 → Prop} (H : LM9 σ n E) (hk : k < E.length) (hL : pt9 E L k) (hLk : L.length ≤ k) (h : ∀ τ, eq9 (fun x => x ≠ 97 ∧ x ≠ 105 ∧ x ≠ 106) σ τ → gI τ 97 = up9 (gI σ 97) 12 (L.length + 1) → (∀ i : Int, 0 ≤ i → i ≤ (L.length : Int) → gI τ 105 i = (ll9 r p L i).1 ∧ gI τ 106 i = (ll9 r p L i).2) → P (L.length + 1) τ) : Cc d mX10_loops [.ref 97, .int (iI k), .int (iI r), .int (iI p)] σ (QI P) := by
  obtain ⟨g1, g2, g3, WF, g5, g6⟩ := H
  refine Cc_of (by decide +kernel) (fun _ => Nat.le_of_ble_eq_true rfl) rfl (lv := [_, _, _, _, _, _]) ?_
  have K2 : ∀ (M : List (Int × Int)) (j : Nat) (τ : S9), j < E.length → pt9 E M j → M.length ≤ L.length → (∀ i : Nat, i < M.length → M.getD i (0, 0) = L.getD (L.length - M.length + i) (0, 0)) → eq9 (fun x => x ≠ 97 ∧ x ≠ 105 ∧ x ≠ 106) σ τ → gI τ 97 = up9 (gI σ 97) 12 (L.length + 1) → (∀ i : Int, (M.length : Int) ≤ i → i ≤ L.length → gI τ 105 i = (ll9 r p L i).1 ∧ gI τ 106 i = (ll9 r p L i).2) → Vv d mX10_loops 70 [.ref 97, .int (iI k), .int (iI r), .int (iI p), .int (iI (M.length - 1)), .int (iI j)] [] τ (QI P) := by
    intro M
    induction M with
    | nil =>
      intro j τ hj hM hMl hMi he hc hx
      have hc2 : gI τ 97 12 = L.length + 1 := by rw [hc, up9_eq]
      have hM : j = 0 := hM
      rw [List.length_nil] at hx ⊢
      refine v_iload dX10_loops_70 rfl ?_
      refine v_if_eq (tgt := 118) dX10_loops_72 (by decide) (by omega) (fun q72 => ?_) (fun q72 => absurd q72 (by omega))
      refine v_aload_n dX10_loops_118 rfl ?_
      refine v_getI (ji := 12) dX10_loops_119 s_97 fX10_127 rfl ?_
      rw [hc2]
      exact v_ireturn dX10_loops_122 rfl (h τ he hc (fun i a b => hx i a b))
    | cons x M ih =>
      intro j τ hj hM hMl hMi he hc hx
      obtain ⟨m1, m2, m3⟩ := hM
      rw [List.length_cons] at hMl hMi hx ⊢
      have w := WF j hj (by omega)
      have ej := g6 j hj (by omega)
      have f124 : gI τ 124 = gI σ 124 := (he 124 (by decide)).1
      have f125 : gI τ 125 = gI σ 125 := (he 125 (by decide)).1
      have f126 : gI τ 126 = gI σ 126 := (he 126 (by decide)).1
      have hxi : ll9 r p L M.length = x := by
        unfold ll9
        have h8 := hMi 0 (by omega)
        rw [show ((L.length : Int) - M.length).toNat = (L.length - (M.length + 1)) + 1 by omega, List.getD_cons_succ]
        rw [show L.length - (M.length + 1) + 0 = L.length - (M.length + 1) by omega] at h8
        rw [← h8]
        rfl
      refine v_iload dX10_loops_70 rfl ?_
      refine v_if_eq (tgt := 118) dX10_loops_72 (by decide) (by omega) (fun q72 => absurd q72 (by omega)) (fun q72 => ?_)
      refine v_aload_n dX10_loops_75 rfl ?_
      refine v_getR (k1 := 105) dX10_loops_76 s_97 fX10_38 rfl ?_
      refine v_iload dX10_loops_79 rfl ?_
      refine v_aload_n dX10_loops_81 rfl ?_
      refine v_getR (k1 := 125) dX10_loops_82 s_97 fX10_100 rfl ?_
      refine v_iload dX10_loops_85 rfl ?_
      refine v_iaload dX10_loops_87 s_125 (by omega) ?_
      rw [f125, ej.2.1]
      refine v_iastore dX10_loops_88 s_105 (by omega) ?_
      refine v_aload_n dX10_loops_89 rfl ?_
      refine v_getR (k1 := 106) dX10_loops_90 s_97 fX10_41 rfl ?_
      refine v_iload dX10_loops_93 rfl ?_
      refine v_aload_n dX10_loops_95 rfl ?_
      refine v_getR (k1 := 126) dX10_loops_96 s_97 fX10_103 rfl ?_
      refine v_iload dX10_loops_99 rfl ?_
      refine v_iaload dX10_loops_101 s_126 (by omega) ?_
      rw [gI_aI_ne (by decide), f126, ej.2.2]
      refine v_iastore dX10_loops_102 s_106 (by omega) ?_
      refine v_iinc (lv' := [_, _, _, _, _, _]) dX10_loops_103 rfl (Nat.le_of_ble_eq_true rfl) rfl rfl ?_
      refine v_aload_n dX10_loops_106 rfl ?_
      refine v_getR (k1 := 124) dX10_loops_107 s_97 fX10_97 rfl ?_
      refine v_iload dX10_loops_110 rfl ?_
      refine v_iaload dX10_loops_112 s_124 (by omega) ?_
      rw [gI_aI_ne (by decide), gI_aI_ne (by decide), f124, ej.1]
      refine v_istore (lv' := [_, _, _, _, _, _]) dX10_loops_113 (Nat.le_of_ble_eq_true rfl) rfl rfl ?_
      refine v_goto (tgt := 70) dX10_loops_115 (by decide) ?_
      have h9 := ih (en9 E j).2.1 (sI (sI τ 105 (((M.length + 1 : Nat) : Int) - 1) (en9 E j).2.2.1) 106 (((M.length + 1 : Nat) : Int) - 1) (en9 E j).2.2.2) (by omega) m3 (by omega) (fun i hi => ?_) (he.tr ((eq9.aI (fun z => z.2.1 rfl)).tr (eq9.aI (fun z => z.2.2 rfl)))) (by rw [gI_aI_ne (by decide), gI_aI_ne (by decide)]; exact hc) (fun i a b => ?_)
      · rw [show ((M.length + 1 : Nat) : Int) - 1 + -1 = (M.length : Int) - 1 by omega]
        exact h9
      · have h8 := hMi (i + 1) (by omega)
        rw [List.getD_cons_succ, show L.length - (M.length + 1) + (i + 1) = L.length - M.length + i by omega] at h8
        exact h8
      · rw [gI_aI_ne (by decide), gI_aI_eq, gI_aI_eq, gI_aI_ne (by decide)]
        by_cases e : i = M.length
        · rw [e, show ((M.length + 1 : Nat) : Int) - 1 = M.length by omega, up9_eq, up9_eq, hxi, m2]; exact ⟨rfl, rfl⟩
        · rw [up9_ne (by omega), up9_ne (by omega)]; exact hx i (by omega) b
  have K1 : ∀ (M : List (Int × Int)) (j : Nat) (cn : Int) (τ : S9), j < E.length → pt9 E M j → 1 ≤ cn → cn + M.length = L.length + 1 → eq9 (fun x => x ≠ 97) σ τ → gI τ 97 = up9 (gI σ 97) 12 cn → ∀ l5, Vv d mX10_loops 8 [.ref 97, .int (iI k), .int (iI r), .int (iI p), .int (iI j), l5] [] τ (QI P) := by
    intro M
    induction M with
    | nil =>
      intro j cn τ hj hM hc1 hcl he hc l5
      have hM : j = 0 := hM
      rw [List.length_nil] at hcl
      have ec : cn = L.length + 1 := by omega
      rw [ec] at hc
      have hc2 : gI τ 97 12 = L.length + 1 := by rw [hc, up9_eq]
      refine v_iload dX10_loops_8 rfl ?_
      refine v_if_eq (tgt := 35) dX10_loops_10 (by decide) (by omega) (fun q10 => ?_) (fun q10 => absurd q10 (by omega))
      refine v_aload_n dX10_loops_35 rfl ?_
      refine v_getR (k1 := 105) dX10_loops_36 s_97 fX10_38 rfl ?_
      refine v_aload_n dX10_loops_39 rfl ?_
      refine v_getI (ji := 12) dX10_loops_40 s_97 fX10_127 rfl ?_
      rw [hc2]
      refine v_iconst dX10_loops_43 ?_
      refine v_isub dX10_loops_44 ?_
      refine v_iload_n dX10_loops_45 rfl ?_
      refine v_iastore dX10_loops_46 s_105 (by omega) ?_
      refine v_aload_n dX10_loops_47 rfl ?_
      refine v_getR (k1 := 106) dX10_loops_48 s_97 fX10_41 rfl ?_
      refine v_aload_n dX10_loops_51 rfl ?_
      refine v_getI (ji := 12) dX10_loops_52 s_97 fX10_127 rfl ?_
      rw [gI_aI_ne (by decide), hc2]
      refine v_iconst dX10_loops_55 ?_
      refine v_isub dX10_loops_56 ?_
      refine v_iload_n dX10_loops_57 rfl ?_
      refine v_iastore dX10_loops_58 s_106 (by omega) ?_
      refine v_aload_n dX10_loops_59 rfl ?_
      refine v_getI (ji := 12) dX10_loops_60 s_97 fX10_127 rfl ?_
      rw [gI_aI_ne (by decide), gI_aI_ne (by decide), hc2]
      refine v_iconst dX10_loops_63 ?_
      refine v_isub dX10_loops_64 ?_
      refine v_istore (lv' := [_, _, _, _, _, _]) dX10_loops_65 (Nat.le_of_ble_eq_true rfl) rfl rfl ?_
      refine v_iload_n dX10_loops_67 rfl ?_
      refine v_istore (lv' := [_, _, _, _, _, _]) dX10_loops_68 (Nat.le_of_ble_eq_true rfl) rfl rfl ?_
      have h9 := K2 L k (sI (sI τ 105 (L.length + 1 - 1) r) 106 (L.length + 1 - 1) p) hk hL (by omega) (fun i hi => by rw [show L.length - L.length + i = i by omega]) (((he.mono (fun x hx => hx.1)).tr (eq9.aI (fun z => z.2.1 rfl))).tr (eq9.aI (fun z => z.2.2 rfl))) (by rw [gI_aI_ne (by decide), gI_aI_ne (by decide)]; exact hc) (fun i a b => ?_)
      · rw [show (L.length : Int) + 1 - 2 = L.length - 1 by omega]
        exact h9
      · rw [show i = L.length by omega, gI_aI_ne (by decide), gI_aI_eq, gI_aI_eq, show (L.length : Int) + 1 - 1 = L.length by omega, up9_eq, up9_eq]
        unfold ll9
        rw [show ((L.length : Int) - L.length).toNat = 0 by omega]
        exact ⟨rfl, rfl⟩
    | cons x M ih =>
      intro j cn τ hj hM hc1 hcl he hc l5
      obtain ⟨m1, m2, m3⟩ := hM
      rw [List.length_cons] at hcl
      have w := WF j hj (by omega)
      have ej := g6 j hj (by omega)
      have hc2 : gI τ 97 12 = cn := by rw [hc, up9_eq]
      have f124 : gI τ 124 = gI σ 124 := (he 124 (by decide)).1
      refine v_iload dX10_loops_8 rfl ?_
      refine v_if_eq (tgt := 35) dX10_loops_10 (by decide) (by omega) (fun q10 => absurd q10 (by omega)) (fun q10 => ?_)
      refine v_aload_n dX10_loops_13 rfl ?_
      refine v_dup dX10_loops_14 rfl ?_
      refine v_getI (ji := 12) dX10_loops_15 s_97 fX10_127 rfl ?_
      rw [hc2]
      refine v_iconst dX10_loops_18 ?_
      refine v_iadd dX10_loops_19 ?_
      refine v_putI (ji := 12) dX10_loops_20 s_97 pfX10_127 rfl ?_
      refine v_aload_n dX10_loops_23 rfl ?_
      refine v_getR (k1 := 124) dX10_loops_24 s_97 fX10_97 rfl ?_
      refine v_iload dX10_loops_27 rfl ?_
      refine v_iaload dX10_loops_29 s_124 (by omega) ?_
      rw [gI_aI_ne (by decide), f124, ej.1]
      refine v_istore (lv' := [_, _, _, _, _, _]) dX10_loops_30 (Nat.le_of_ble_eq_true rfl) rfl rfl ?_
      refine v_goto (tgt := 8) dX10_loops_32 (by decide) ?_
      exact ih (en9 E j).2.1 (cn + 1) _ (by omega) m3 (by omega) (by omega) (he.tr (eq9.aI (fun z => z rfl))) (by rw [gI_aI_eq, hc, up9_up9]) _
  refine v_aload_n dX10_loops_0 rfl ?_
  refine v_iconst dX10_loops_1 ?_
  refine v_putI (ji := 12) dX10_loops_2 s_97 pfX10_127 rfl ?_
  refine v_iload_n dX10_loops_5 rfl ?_
  refine v_istore (lv' := [_, _, _, _, _, _]) dX10_loops_6 (Nat.le_of_ble_eq_true rfl) rfl rfl ?_
  exact K1 L k 1 _ hk hL (by omega) (by omega) (eq9.aI (fun z => z rfl)) (by rw [gI_aI_eq]) _
theorem c_X10_findLoop {x : Int} {P : Int → S9 → Prop} (v : Va n R lf rg wt lev stt ap str) (c : SyMn σ n R lf rg wt lev stt ap str) (hx : (-2147483648 ≤ x ∧ x < 2147483648)) (hno : ¬ (0 ≤ x ∧ x < R) → P (-3) σ)
    (h0 : 0 ≤ x ∧ x < R → (lk9 (lf x) lf rg R 200).2 = none → ∀ τ, eq9 (fun x => x ≠ 97 ∧ x ≠ 123 ∧ x ≠ 124 ∧ x ≠ 125 ∧ x ≠ 126) σ τ → (∃ m, gI τ 97 = up9 (gI σ 97) 40 m) → P (-6) τ) (h1 : 0 ≤ x ∧ x < R → (lk9 (lf x) lf rg R 200).2 = some none → ∀ τ, eq9 (fun x => x ≠ 97 ∧ x ≠ 123 ∧ x ≠ 124 ∧ x ≠ 125 ∧ x ≠ 126) σ τ → (∃ m, gI τ 97 = up9 (gI σ 97) 40 m) → P (-7) τ)
    (h2 : 0 ≤ x ∧ x < R → ∀ τ k r p L m, (lk9 (lf x) lf rg R 200).2 = some (some (k, r, p)) → pt9 (lk9 (lf x) lf rg R 200).1 L k → gI τ 97 = up9 (up9 (gI σ 97) 40 m) 12 (L.length + 1) → (∀ i : Int, 0 ≤ i → i ≤ (L.length : Int) → gI τ 105 i = (ll9 r p L i).1 ∧ gI τ 106 i = (ll9 r p L i).2) → eq9 (fun x => x ≠ 97 ∧ x ≠ 105 ∧ x ≠ 106 ∧ x ≠ 123 ∧ x ≠ 124 ∧ x ≠ 125 ∧ x ≠ 126) σ τ → P (L.length + 1) τ) : Cc (d + 3) mX10_findLoop [.ref 97, .int (iI x)] σ (QI P) := by
  have hn := v.1
  have hR := v.2.1
  refine Cc_of (by decide +kernel) (fun _ => Nat.le_of_ble_eq_true rfl) rfl (lv := [_, _, _, _, _, _, _, _, _]) ?_
  have KK : 0 ≤ x ∧ x < R → ∀ τ, eq9 (fun x => x ≠ 97 ∧ x ≠ 123 ∧ x ≠ 124 ∧ x ≠ 125 ∧ x ≠ 126) σ τ → gI τ 97 = up9 (gI σ 97) 40 1 → gL τ 123 0 = em9 (lf x) → ∀ l3 l4 l5 l6 l7 l8, Vv (d + 3) mX10_findLoop 71 [.ref 97, .int (iI x), .int (iI 0), l3, l4, l5, l6, l7, l8] [] τ (QI P) := by
    intro zx
    obtain ⟨l, el⟩ : ∃ l, lf x = l := ⟨_, rfl⟩
    rw [el] at h0 h1 h2
    rw [el]
    have ol : OkL n 6 l := by rw [← el]; exact (v.2.2.1 x zx.1 zx.2).1
    have hl1 : 1 ≤ l.length := by rw [← el]; exact (v.2.2.1 x zx.1 zx.2).2.1
    have ol6 : OkL 6 6 l := by rw [← el]; exact v.ol zx
    have K1 : ∀ (m : Nat) (k : Nat) (τ : S9), k + m = 200 → (lk9 l lf rg R k).2 = none → LM9 τ n (lk9 l lf rg R k).1 → eq9 (fun x => x ≠ 97 ∧ x ≠ 123 ∧ x ≠ 124 ∧ x ≠ 125 ∧ x ≠ 126) σ τ → gI τ 97 = up9 (gI σ 97) 40 (lk9 l lf rg R k).1.length → ∀ l3 l4 l5 l6 l7 l8, Vv (d + 3) mX10_findLoop 71 [.ref 97, .int (iI x), .int (iI k), l3, l4, l5, l6, l7, l8] [] τ (QI P) := by
      intro m
      induction m with
      | zero =>
        intro k τ hk hS hI he e97 l3 l4 l5 l6 l7 l8
        have g1 := hI.1
        have g3 := hI.2.2.1
        have ek : k = 200 := by omega
        refine v_iload_n dX10_findLoop_71 rfl ?_
        refine v_aload_n dX10_findLoop_72 rfl ?_
        refine v_getI (ji := 40) dX10_findLoop_73 s_97 fX10_235 rfl ?_
        rw [g1]
        refine v_icmp_ge (tgt := 259) dX10_findLoop_76 (by decide) (by omega) (fun q76 => ?_) (fun q76 => absurd q76 (by omega))
        refine v_bipush dX10_findLoop_259 (by decide) ?_
        exact v_ireturn dX10_findLoop_261 rfl (by rw [ek] at hS; exact h0 zx hS τ he ⟨_, e97⟩)
      | succ m ih =>
        intro k τ1 hk hS1 hI1 he1 e971 l3 l4 l5 l6 l7 l8
        have g1 := hI1.1
        have g3 := hI1.2.2.1
        by_cases kl : k < (lk9 l lf rg R k).1.length
        · obtain ⟨E, eE⟩ : ∃ E, (lk9 l lf rg R k).1 = E := ⟨_, rfl⟩
          have hSe : lk9 l lf rg R k = (E, none) := by rw [← eE, ← hS1]
          have en : lk9 l lf rg R (k + 1) = lq9 l lf rg R (en9 E k).1 k (E, none) (en9 E k).1.length := by
            have h8 : lk9 l lf rg R (k + 1) = lq9 l lf rg R (en9 (lk9 l lf rg R k).1 k).1 k (lk9 l lf rg R k) (en9 (lk9 l lf rg R k).1 k).1.length := if_pos ⟨hS1, kl⟩
            rw [h8, hSe]
          have e200 : (lk9 l lf rg R (k + 1)).2 ≠ none → lk9 l lf rg R 200 = lk9 l lf rg R (k + 1) := fun q2 => by
            have := lk9_stay (Or.inl q2) (200 - (k + 1))
            rw [show k + 1 + (200 - (k + 1)) = 200 by omega] at this
            exact this
          rw [eE] at hI1 e971 kl g1 g3
          obtain ⟨w, ew⟩ : ∃ w, (en9 E k).1 = w := ⟨_, rfl⟩
          rw [ew] at en
          have ow : OkL n 12 w := by rw [← ew]; exact (hI1.2.2.2.2.1 k kl).1
          have o6w := v.o6 ow
          have hlw := ow.2
          have ewk : gL τ1 123 k = em9 w := by rw [hI1.2.1 k kl, ew]
          have K2 : ∀ (m2 p : Nat) (τ : S9), p + m2 = w.length → (lq9 l lf rg R w k (E, none) p).2 = none → LM9 τ n (lq9 l lf rg R w k (E, none) p).1 → (∃ X, (lq9 l lf rg R w k (E, none) p).1 = E ++ X) → eq9 (fun x => x ≠ 97 ∧ x ≠ 123 ∧ x ≠ 124 ∧ x ≠ 125 ∧ x ≠ 126) σ τ → gI τ 97 = up9 (gI σ 97) 40 (lq9 l lf rg R w k (E, none) p).1.length → ∀ l5 l6 l7 l8, Vv (d + 3) mX10_findLoop 92 [.ref 97, .int (iI x), .int (iI k), .int (iI w.length), .int (iI p), l5, l6, l7, l8] [] τ (QI P) := by
            intro m2
            induction m2 with
            | zero =>
              intro p τ hp hS hI hX he e97 l5 l6 l7 l8
              have ep : p = w.length := by omega
              rw [ep, ← en] at hS hI e97
              refine v_iload dX10_findLoop_92 rfl ?_
              refine v_iload_n dX10_findLoop_94 rfl ?_
              refine v_icmp_ge (tgt := 253) dX10_findLoop_95 (by decide) (by omega) (fun q95 => ?_) (fun q95 => absurd q95 (by omega))
              refine v_iinc (lv' := [_, _, _, _, _, _, _, _, _]) dX10_findLoop_253 rfl (Nat.le_of_ble_eq_true rfl) rfl rfl ?_
              refine v_goto (tgt := 71) dX10_findLoop_256 (by decide) ?_
              exact ih (k + 1) τ (by omega) hS hI he e97 _ _ _ _ _ _
            | succ m2 ih2 =>
              intro p τ2 hp hS2 hI2 hX2 he2 e972 l5 l6 l7 l8
              obtain ⟨S0, eS0⟩ : ∃ S0, lq9 l lf rg R w k (E, none) p = S0 := ⟨_, rfl⟩
              rw [eS0] at hS2 hI2 hX2 e972
              have K3 : ∀ (m3 r : Nat) (τ : S9), r + m3 = R.toNat → (lr9 l lf rg w k p S0 r).2 = none → LM9 τ n (lr9 l lf rg w k p S0 r).1 → (∃ X, (lr9 l lf rg w k p S0 r).1 = E ++ X) → eq9 (fun x => x ≠ 97 ∧ x ≠ 123 ∧ x ≠ 124 ∧ x ≠ 125 ∧ x ≠ 126) σ τ → gI τ 97 = up9 (gI σ 97) 40 (lr9 l lf rg w k p S0 r).1.length → ∀ l6 l7 l8, Vv (d + 3) mX10_findLoop 101 [.ref 97, .int (iI x), .int (iI k), .int (iI w.length), .int (iI p), .int (iI r), l6, l7, l8] [] τ (QI P) := by
                intro m3
                induction m3 with
                | zero =>
                  intro r τ hr hS hI hX he e97 l6 l7 l8
                  have ec : gI τ 97 1 = R := by rw [e97, up9_ne (by decide)]; exact c.2.1
                  have er : lq9 l lf rg R w k (E, none) (p + 1) = lr9 l lf rg w k p S0 r := by
                    show lr9 l lf rg w k p (lq9 l lf rg R w k (E, none) p) R.toNat = _
                    rw [eS0, ← show r = R.toNat by omega]
                  refine v_iload dX10_findLoop_101 rfl ?_
                  refine v_aload_n dX10_findLoop_103 rfl ?_
                  refine v_getI (ji := 1) dX10_findLoop_104 s_97 fX10_119 rfl ?_
                  rw [ec]
                  refine v_icmp_ge (tgt := 247) dX10_findLoop_107 (by decide) (by omega) (fun q107 => ?_) (fun q107 => absurd q107 (by omega))
                  refine v_iinc (lv' := [_, _, _, _, _, _, _, _, _]) dX10_findLoop_247 rfl (Nat.le_of_ble_eq_true rfl) rfl rfl ?_
                  refine v_goto (tgt := 92) dX10_findLoop_250 (by decide) ?_
                  exact ih2 (p + 1) τ (by omega) (by rw [er]; exact hS) (by rw [er]; exact hI) (by rw [er]; exact hX) he (by rw [er]; exact e97) _ _ _ _
                | succ m3 ih3 =>
                  intro r τ hr hS hI hX he e97 l6 l7 l8
                  have cT : SyMn τ n R lf rg wt lev stt ap str := c.fnd (he.mono (fun k hk => by omega)) e97
                  have ec := cT.2.1
                  have zr : 0 ≤ (r : Int) ∧ (r : Int) < R := by omega
                  have ell := cT.ll zx
                  rw [el] at ell
                  have er : ∀ o, stp9 (lf r) (rg r) w p = o → lr9 l lf rg w k p S0 (r + 1) = ls9 l k p r o (lr9 l lf rg w k p S0 r) := fun o ho => by rw [lr9, ho]
                  obtain ⟨X, eX⟩ := hX
                  obtain ⟨S, eS⟩ : ∃ S, lr9 l lf rg w k p S0 r = S := ⟨_, rfl⟩
                  rw [eS] at hS hI eX e97
                  have hkS : k < S.1.length := by rw [eX, List.length_append]; omega
                  have ewS : gL τ 123 k = em9 w := by rw [hI.2.1 k hkS, eX, en9_appl kl, ew]
                  have fin : ∀ S1, lr9 l lf rg w k p S0 (r + 1) = S1 → S1.2 ≠ none → lk9 l lf rg R 200 = S1 := fun S1 hS1 hn1 => by
                    have x1 : lq9 l lf rg R w k (E, none) (p + 1) = S1 := by
                      show lr9 l lf rg w k p (lq9 l lf rg R w k (E, none) p) R.toNat = _
                      rw [eS0, show R.toNat = r + 1 + (R.toNat - (r + 1)) by omega, lr9_done (by rw [hS1]; exact hn1), hS1]
                    have x2 : lq9 l lf rg R w k (E, none) w.length = S1 := by
                      rw [show w.length = p + 1 + (w.length - (p + 1)) by omega, lq9_done (by rw [x1]; exact hn1), x1]
                    rw [e200 (by rw [en, x2]; exact hn1), en, x2]
                  have FM := hI.fm v
                  have F1 := FM.1
                  have hl8 := hI.2.2.1
                  have am := hI.1
                  obtain ⟨_, L, L1, L2⟩ := hI.2.2.2.2.1 k hkS
                  refine v_iload dX10_findLoop_101 rfl ?_
                  refine v_aload_n dX10_findLoop_103 rfl ?_
                  refine v_getI (ji := 1) dX10_findLoop_104 s_97 fX10_119 rfl ?_
                  rw [ec]
                  refine v_icmp_ge (tgt := 247) dX10_findLoop_107 (by decide) (by omega) (fun q107 => absurd q107 (by omega)) (fun q107 => ?_)
                  refine v_aload_n dX10_findLoop_110 rfl ?_
                  refine v_aload_n dX10_findLoop_111 rfl ?_
                  refine v_getR (k1 := 123) dX10_findLoop_112 s_97 fX10_94 rfl ?_
                  refine v_iload_n dX10_findLoop_115 rfl ?_
                  refine v_laload dX10_findLoop_116 s_123 (by omega) ?_
                  rw [ewS]
                  refine v_iload dX10_findLoop_117 rfl ?_
                  refine v_iload dX10_findLoop_119 rfl ?_
                  refine v_callVl3 dX10_findLoop_121 kX10_222 s_97 (Nat.le_of_ble_eq_true rfl) (c_X10_step9 v cT o6w zr (by omega) (fun ys hs => ?_) (fun hs => ?_))
                  · have oy := stp9_ok v zr ow hs
                    have o6y := v.o6 oy
                    have by2 := o6y.bd
                    have er := er _ hs
                    rw [eS] at er
                    refine v_lstore (lv' := [_, _, _, _, _, _, _, _, _]) dX10_findLoop_124 (Nat.le_of_ble_eq_true rfl) rfl rfl ?_
                    refine v_lload dX10_findLoop_126 rfl ?_
                    refine v_ldc2 dX10_findLoop_128 wX10_212 ?_
                    refine v_lcmp_eq (tgt := 155) dX10_findLoop_131 dX10_findLoop_132 (by decide) (by omega) (fun q131 => absurd q131 (by omega)) (fun q131 => ?_)
                    refine v_aload_n dX10_findLoop_135 rfl ?_
                    refine v_lload dX10_findLoop_136 rfl ?_
                    refine v_iload_n dX10_findLoop_138 rfl ?_
                    refine v_callVi2 dX10_findLoop_139 kX10_244 s_97 (Nat.le_of_ble_eq_true rfl) (c_X10_contains o6y ol6 hl1 (by omega) ell.1 ell.2 (fun ho => ?_) (fun ho => ?_))
                    · have f2 := fin _ (er.trans (ls9_loop hS ho)) (by simp)
                      refine v_if_eq (tgt := 155) dX10_findLoop_142 (by decide) (by decide) (fun q142 => absurd q142 (by decide)) (fun q142 => ?_)
                      refine v_aload_n dX10_findLoop_145 rfl ?_
                      refine v_iload_n dX10_findLoop_146 rfl ?_
                      refine v_iload dX10_findLoop_147 rfl ?_
                      refine v_iload dX10_findLoop_149 rfl ?_
                      refine v_callVi3 dX10_findLoop_151 kX10_248 s_97 (Nat.le_of_ble_eq_true rfl) (c_X10_loops hI hkS L1 L2 (fun υ u1 u2 u3 => ?_))
                      exact v_ireturn dX10_findLoop_154 rfl (h2 zx υ k r p L S.1.length (by rw [f2]) (by rw [f2]; exact L1) (by rw [u2, e97]) u3 ((he.mono (fun x hx => ⟨hx.1, hx.2.2.2.1, hx.2.2.2.2.1, hx.2.2.2.2.2.1, hx.2.2.2.2.2.2⟩)).tr (u1.mono (fun x hx => ⟨hx.1, hx.2.1, hx.2.2.1⟩))))
                    · refine v_if_eq (tgt := 155) dX10_findLoop_142 (by decide) (by decide) (fun q142 => ?_) (fun q142 => absurd q142 (by decide))
                      refine v_lload dX10_findLoop_155 rfl ?_
                      refine v_ldc2 dX10_findLoop_157 wX10_212 ?_
                      refine v_lcmp_ne (tgt := 168) dX10_findLoop_160 dX10_findLoop_161 (by decide) (by omega) (fun q160 => ?_) (fun q160 => absurd q160 (by omega))
                      refine v_aload_n dX10_findLoop_168 rfl ?_
                      refine v_lload dX10_findLoop_169 rfl ?_
                      refine v_callVi1 dX10_findLoop_171 kX10_238 s_97 (Nat.le_of_ble_eq_true rfl) (c_X10_placeOf o6y FM (fun j hj ej => ?_) (fun hm => ?_))
                      · have hj2 := hj
                        rw [List.length_map] at hj2
                        refine v_istore (lv' := [_, _, _, _, _, _, _, _, _]) dX10_findLoop_174 (Nat.le_of_ble_eq_true rfl) rfl rfl ?_
                        refine v_iload dX10_findLoop_176 rfl ?_
                        refine v_sipush dX10_findLoop_178 (by decide) ?_
                        refine v_icmp_ne (tgt := 187) dX10_findLoop_181 (by decide) (by omega) (fun q181 => ?_) (fun q181 => absurd q181 (by omega))
                        refine v_iload dX10_findLoop_187 rfl ?_
                        refine v_aload_n dX10_findLoop_189 rfl ?_
                        refine v_getI (ji := 40) dX10_findLoop_190 s_97 fX10_235 rfl ?_
                        rw [am]
                        refine v_icmp_ne (tgt := 241) dX10_findLoop_193 (by decide) (by omega) (fun q193 => ?_) (fun q193 => absurd q193 (by omega))
                        refine v_iinc (lv' := [_, _, _, _, _, _, _, _, _]) dX10_findLoop_241 rfl (Nat.le_of_ble_eq_true rfl) rfl rfl ?_
                        refine v_goto (tgt := 101) dX10_findLoop_244 (by decide) ?_
                        have e1 := er.trans (ls9_old hS ho (by rw [← ej]; exact gtD_mem hj))
                        exact ih3 (r + 1) τ (by omega) (by rw [e1]; exact hS) (by rw [e1]; exact hI) ⟨X, by rw [e1]; exact eX⟩ he (by rw [e1]; exact e97) _ _ _
                      · rw [List.length_map]
                        refine v_istore (lv' := [_, _, _, _, _, _, _, _, _]) dX10_findLoop_174 (Nat.le_of_ble_eq_true rfl) rfl rfl ?_
                        refine v_iload dX10_findLoop_176 rfl ?_
                        refine v_sipush dX10_findLoop_178 (by decide) ?_
                        refine v_icmp_ne (tgt := 187) dX10_findLoop_181 (by decide) (by omega) (fun q181 => ?_) (fun q181 => ?_)
                        · refine v_iload dX10_findLoop_187 rfl ?_
                          refine v_aload_n dX10_findLoop_189 rfl ?_
                          refine v_getI (ji := 40) dX10_findLoop_190 s_97 fX10_235 rfl ?_
                          rw [am]
                          refine v_icmp_ne (tgt := 241) dX10_findLoop_193 (by decide) (by omega) (fun q193 => absurd q193 (by omega)) (fun q193 => ?_)
                          refine v_aload_n dX10_findLoop_196 rfl ?_
                          refine v_getR (k1 := 123) dX10_findLoop_197 s_97 fX10_94 rfl ?_
                          refine v_iload dX10_findLoop_200 rfl ?_
                          refine v_lload dX10_findLoop_202 rfl ?_
                          refine v_lastore dX10_findLoop_204 s_123 (by omega) ?_
                          refine v_aload_n dX10_findLoop_205 rfl ?_
                          refine v_getR (k1 := 124) dX10_findLoop_206 s_97 fX10_97 rfl ?_
                          refine v_iload dX10_findLoop_209 rfl ?_
                          refine v_iload_n dX10_findLoop_211 rfl ?_
                          refine v_iastore dX10_findLoop_212 s_124 (by omega) ?_
                          refine v_aload_n dX10_findLoop_213 rfl ?_
                          refine v_getR (k1 := 125) dX10_findLoop_214 s_97 fX10_100 rfl ?_
                          refine v_iload dX10_findLoop_217 rfl ?_
                          refine v_iload dX10_findLoop_219 rfl ?_
                          refine v_iastore dX10_findLoop_221 s_125 (by omega) ?_
                          refine v_aload_n dX10_findLoop_222 rfl ?_
                          refine v_getR (k1 := 126) dX10_findLoop_223 s_97 fX10_103 rfl ?_
                          refine v_iload dX10_findLoop_226 rfl ?_
                          refine v_iload dX10_findLoop_228 rfl ?_
                          refine v_iastore dX10_findLoop_230 s_126 (by omega) ?_
                          refine v_aload_n dX10_findLoop_231 rfl ?_
                          refine v_dup dX10_findLoop_232 rfl ?_
                          refine v_getI (ji := 40) dX10_findLoop_233 s_97 fX10_235 rfl ?_
                          rw [gI_aI_ne (by decide), gI_aI_ne (by decide), gI_aI_ne (by decide)]
                          have amx : gI (sL τ 123 (S.1.length : Int) (em9 ys)) 97 40 = S.1.length := am
                          rw [amx]
                          refine v_iconst dX10_findLoop_236 ?_
                          refine v_iadd dX10_findLoop_237 ?_
                          refine v_putI (ji := 40) dX10_findLoop_238 s_97 pfX10_235 rfl ?_
                          refine v_iinc (lv' := [_, _, _, _, _, _, _, _, _]) dX10_findLoop_241 rfl (Nat.le_of_ble_eq_true rfl) rfl rfl ?_
                          refine v_goto (tgt := 101) dX10_findLoop_244 (by decide) ?_
                          have e1 := er.trans (ls9_new hS ho hm (by omega))
                          refine ih3 (r + 1) _ (by omega) (by rw [e1]) ?_ ⟨X ++ [(ys, k, (r : Int), (p : Int))], by rw [e1, eX, List.append_assoc]⟩ (he.tr (((((eq9.aL (fun z => z.2.1 rfl)).tr (eq9.aI (fun z => z.2.2.1 rfl))).tr (eq9.aI (fun z => z.2.2.2.1 rfl))).tr (eq9.aI (fun z => z.2.2.2.2 rfl))).tr (eq9.aI (fun z => z.1 rfl)))) ?_ _ _ _
                          · rw [e1]
                            refine hI.put hkS (by omega) oy (by omega) (by omega) ?_ ?_ ?_ ?_ ?_
                            · rw [gI_aI_eq, up9_eq]
                            · show gL (sL τ 123 (S.1.length : Int) (em9 ys)) 123 = _
                              rw [gL_aL_eq]
                            · rw [gI_aI_ne (by decide), gI_aI_ne (by decide), gI_aI_ne (by decide), gI_aI_eq]
                              rfl
                            · rw [gI_aI_ne (by decide), gI_aI_ne (by decide), gI_aI_eq, gI_aI_ne (by decide)]
                              rfl
                            · rw [gI_aI_ne (by decide), gI_aI_eq, gI_aI_ne (by decide), gI_aI_ne (by decide)]
                              rfl
                          · rw [e1, gI_aI_eq, gI_aI_ne (by decide), gI_aI_ne (by decide), gI_aI_ne (by decide)]
                            show up9 (gI τ 97) 40 _ = _
                            rw [e97, up9_up9, List.length_append]
                            rfl
                        · refine v_bipush dX10_findLoop_184 (by decide) ?_
                          exact v_ireturn dX10_findLoop_186 rfl (h1 zx (by rw [fin _ (er.trans (ls9_full hS ho hm (by omega))) (by simp)]) τ he ⟨_, e97⟩)
                  · refine v_lstore (lv' := [_, _, _, _, _, _, _, _, _]) dX10_findLoop_124 (Nat.le_of_ble_eq_true rfl) rfl rfl ?_
                    refine v_lload dX10_findLoop_126 rfl ?_
                    refine v_ldc2 dX10_findLoop_128 wX10_212 ?_
                    refine v_lcmp_eq (tgt := 155) dX10_findLoop_131 dX10_findLoop_132 (by decide) (by decide) (fun q131 => ?_) (fun q131 => absurd rfl q131)
                    refine v_lload dX10_findLoop_155 rfl ?_
                    refine v_ldc2 dX10_findLoop_157 wX10_212 ?_
                    refine v_lcmp_ne (tgt := 168) dX10_findLoop_160 dX10_findLoop_161 (by decide) (by decide) (fun q160 => absurd rfl q160) (fun q160 => ?_)
                    refine v_iconst dX10_findLoop_164 ?_
                    refine v_goto (tgt := 174) dX10_findLoop_165 (by decide) ?_
                    refine v_istore (lv' := [_, _, _, _, _, _, _, _, _]) dX10_findLoop_174 (Nat.le_of_ble_eq_true rfl) rfl rfl ?_
                    refine v_iload dX10_findLoop_176 rfl ?_
                    refine v_sipush dX10_findLoop_178 (by decide) ?_
                    refine v_icmp_ne (tgt := 187) dX10_findLoop_181 (by decide) (by decide) (fun q181 => ?_) (fun q181 => absurd q181 (by decide))
                    refine v_iload dX10_findLoop_187 rfl ?_
                    refine v_aload_n dX10_findLoop_189 rfl ?_
                    refine v_getI (ji := 40) dX10_findLoop_190 s_97 fX10_235 rfl ?_
                    refine v_icmp_ne (tgt := 241) dX10_findLoop_193 (by decide) (by rw [am]; omega) (fun q193 => ?_) (fun q193 => absurd q193 (by rw [am]; omega))
                    refine v_iinc (lv' := [_, _, _, _, _, _, _, _, _]) dX10_findLoop_241 rfl (Nat.le_of_ble_eq_true rfl) rfl rfl ?_
                    refine v_goto (tgt := 101) dX10_findLoop_244 (by decide) ?_
                    have e1 := (er _ hs).trans (ls9_st (by rw [eS]; exact hS))
                    rw [eS] at e1
                    exact ih3 (r + 1) τ (by omega) (by rw [e1]; exact hS) (by rw [e1]; exact hI) ⟨X, by rw [e1]; exact eX⟩ he (by rw [e1]; exact e97) _ _ _
              refine v_iload dX10_findLoop_92 rfl ?_
              refine v_iload_n dX10_findLoop_94 rfl ?_
              refine v_icmp_ge (tgt := 253) dX10_findLoop_95 (by decide) (by omega) (fun q95 => absurd q95 (by omega)) (fun q95 => ?_)
              refine v_iconst dX10_findLoop_98 ?_
              refine v_istore (lv' := [_, _, _, _, _, _, _, _, _]) dX10_findLoop_99 (Nat.le_of_ble_eq_true rfl) rfl rfl ?_
              exact K3 R.toNat 0 τ2 (by omega) hS2 hI2 hX2 he2 e972 _ _ _
          refine v_iload_n dX10_findLoop_71 rfl ?_
          refine v_aload_n dX10_findLoop_72 rfl ?_
          refine v_getI (ji := 40) dX10_findLoop_73 s_97 fX10_235 rfl ?_
          rw [g1]
          refine v_icmp_ge (tgt := 259) dX10_findLoop_76 (by decide) (by omega) (fun q76 => absurd q76 (by omega)) (fun q76 => ?_)
          refine v_aload_n dX10_findLoop_79 rfl ?_
          refine v_getR (k1 := 123) dX10_findLoop_80 s_97 fX10_94 rfl ?_
          refine v_iload_n dX10_findLoop_83 rfl ?_
          refine v_laload dX10_findLoop_84 s_123 (by omega) ?_
          rw [ewk]
          refine v_callSi1 dX10_findLoop_85 kX10_204 (Nat.le_of_ble_eq_true rfl) (c_X10_sizeOf o6w ?_)
          refine v_istore_n (lv' := [_, _, _, _, _, _, _, _, _]) dX10_findLoop_88 (Nat.le_of_ble_eq_true rfl) rfl rfl ?_
          refine v_iconst dX10_findLoop_89 ?_
          refine v_istore (lv' := [_, _, _, _, _, _, _, _, _]) dX10_findLoop_90 (Nat.le_of_ble_eq_true rfl) rfl rfl ?_
          exact K2 w.length 0 τ1 (by omega) rfl hI1 ⟨[], (List.append_nil _).symm⟩ he1 e971 _ _ _ _
        · have hst : (lk9 l lf rg R 200).2 = none := by
            have := lk9_stay (l := l) (lf := lf) (rg := rg) (R := R) (k := k) (Or.inr (by omega)) (200 - k)
            rw [show k + (200 - k) = 200 by omega] at this
            rw [this]
            exact hS1
          refine v_iload_n dX10_findLoop_71 rfl ?_
          refine v_aload_n dX10_findLoop_72 rfl ?_
          refine v_getI (ji := 40) dX10_findLoop_73 s_97 fX10_235 rfl ?_
          rw [g1]
          refine v_icmp_ge (tgt := 259) dX10_findLoop_76 (by decide) (by omega) (fun q76 => ?_) (fun q76 => absurd q76 (by omega))
          refine v_bipush dX10_findLoop_259 (by decide) ?_
          exact v_ireturn dX10_findLoop_261 rfl (h0 zx hst τ1 he1 ⟨_, e971⟩)
    intro τ he e97 e0 l3 l4 l5 l6 l7 l8
    refine K1 200 0 τ (by omega) rfl ⟨by rw [e97, up9_eq]; rfl, fun j hj => ?_, ⟨Nat.le_refl _, by show 1 ≤ 200; decide⟩, fun j hj hj1 => ?_, fun j hj => ?_, fun j hj hj1 => ?_⟩ he e97 _ _ _ _ _ _
    · have hj : j < 1 := hj
      have ej : j = 0 := by omega
      subst ej
      exact e0
    · have hj : j < 1 := hj
      omega
    · have hj : j < 1 := hj
      have ej : j = 0 := by omega
      subst ej
      exact ⟨⟨ol.1, by have := ol.2; show l.length ≤ 12; omega⟩, [], rfl, Nat.le_refl _⟩
    · have hj : j < 1 := hj
      omega
  have KI : 0 ≤ x ∧ x < R → ∀ (m : Nat) (j : Nat) (τ : S9), j + m = (lf x).length → eq9 (fun x => x ≠ 97 ∧ x ≠ 123 ∧ x ≠ 124 ∧ x ≠ 125 ∧ x ≠ 126) σ τ → gI τ 97 = gI σ 97 → gL τ 123 0 = em9 ((lf x).take j) → Vv (d + 3) mX10_findLoop 20 [.ref 97, .int (iI x), .int (iI j), .null, .null, .null, .null, .null, .null] [] τ (QI P) := by
    intro zx m
    have hl := (v.ol zx).2
    induction m with
    | zero =>
      intro j τ hj he e97 e0
      have ell := (c.ll zx).1
      have f98 : gI τ 98 = gI σ 98 := (he 98 (by decide)).1
      rw [List.take_of_length_le (by omega)] at e0
      refine v_iload_n dX10_findLoop_20 rfl ?_
      refine v_aload_n dX10_findLoop_21 rfl ?_
      refine v_getR (k1 := 98) dX10_findLoop_22 s_97 fX10_15 rfl ?_
      refine v_iconst dX10_findLoop_25 ?_
      refine v_iload_n dX10_findLoop_26 rfl ?_
      refine v_imul dX10_findLoop_27 ?_
      refine v_iaload dX10_findLoop_28 s_98 (by omega) ?_
      rw [f98, ell]
      refine v_icmp_ge (tgt := 64) dX10_findLoop_29 (by decide) (by omega) (fun q29 => ?_) (fun q29 => absurd q29 (by omega))
      refine v_aload_n dX10_findLoop_64 rfl ?_
      refine v_iconst dX10_findLoop_65 ?_
      refine v_putI (ji := 40) dX10_findLoop_66 s_97 pfX10_235 rfl ?_
      refine v_iconst dX10_findLoop_69 ?_
      refine v_istore_n (lv' := [_, _, _, _, _, _, _, _, _]) dX10_findLoop_70 (Nat.le_of_ble_eq_true rfl) rfl rfl ?_
      exact KK zx _ (he.tr (eq9.aI (fun z => z.1 rfl))) (by rw [gI_aI_eq, e97]) e0 _ _ _ _ _ _
    | succ m ih =>
      intro j τ hj he e97 e0
      have ell := c.ll zx
      have f98 : gI τ 98 = gI σ 98 := (he 98 (by decide)).1
      have f99 : gI τ 99 = gI σ 99 := (he 99 (by decide)).1
      have ea := ell.2 j (by omega) (by omega)
      have hm := (v.ol zx).1 _ (at9_mem (xs := lf x) (p := j) (by omega))
      have et := at9_take (xs := lf x) (k := j) (by omega)
      rw [show ((j : Int) + 1).toNat = j + 1 by omega, Int.toNat_natCast] at et
      refine v_iload_n dX10_findLoop_20 rfl ?_
      refine v_aload_n dX10_findLoop_21 rfl ?_
      refine v_getR (k1 := 98) dX10_findLoop_22 s_97 fX10_15 rfl ?_
      refine v_iconst dX10_findLoop_25 ?_
      refine v_iload_n dX10_findLoop_26 rfl ?_
      refine v_imul dX10_findLoop_27 ?_
      refine v_iaload dX10_findLoop_28 s_98 (by omega) ?_
      rw [f98, ell.1]
      refine v_icmp_ge (tgt := 64) dX10_findLoop_29 (by decide) (by omega) (fun q29 => absurd q29 (by omega)) (fun q29 => ?_)
      refine v_aload_n dX10_findLoop_32 rfl ?_
      refine v_getR (k1 := 123) dX10_findLoop_33 s_97 fX10_94 rfl ?_
      refine v_iconst dX10_findLoop_36 ?_
      refine v_aload_n dX10_findLoop_37 rfl ?_
      refine v_getR (k1 := 123) dX10_findLoop_38 s_97 fX10_94 rfl ?_
      refine v_iconst dX10_findLoop_41 ?_
      refine v_laload dX10_findLoop_42 s_123 (by omega) ?_
      rw [e0]
      refine v_aload_n dX10_findLoop_43 rfl ?_
      refine v_getR (k1 := 99) dX10_findLoop_44 s_97 fX10_19 rfl ?_
      refine v_bipush dX10_findLoop_47 (by decide) ?_
      refine v_iload_n dX10_findLoop_49 rfl ?_
      refine v_imul dX10_findLoop_50 ?_
      refine v_iload_n dX10_findLoop_51 rfl ?_
      refine v_iadd dX10_findLoop_52 ?_
      refine v_iaload dX10_findLoop_53 s_99 (by omega) ?_
      rw [f99, ea]
      refine v_callSl2 dX10_findLoop_54 kX10_214 (Nat.le_of_ble_eq_true rfl) (c_X10_with hm ?_)
      refine v_lastore dX10_findLoop_57 s_123 (by omega) ?_
      refine v_iinc (lv' := [_, _, _, _, _, _, _, _, _]) dX10_findLoop_58 rfl (Nat.le_of_ble_eq_true rfl) rfl rfl ?_
      refine v_goto (tgt := 20) dX10_findLoop_61 (by decide) ?_
      refine ih (j + 1) _ (by omega) (he.tr (eq9.aL (fun z => z.2.1 rfl))) e97 ?_
      rw [gL_aL_eq, up9_eq, et]
  refine v_aload_n dX10_findLoop_0 rfl ?_
  refine v_iload_n dX10_findLoop_1 rfl ?_
  refine v_callVi1 dX10_findLoop_2 kX10_152 s_97 (Nat.le_of_ble_eq_true rfl) (c_X10_isRule c.2.1 (by omega) hx (fun zx => ?_) (fun zx => ?_))
  · refine v_if_ne (tgt := 11) dX10_findLoop_5 (by decide) (by decide) (fun q5 => ?_) (fun q5 => absurd q5 (by decide))
    refine v_aload_n dX10_findLoop_11 rfl ?_
    refine v_getR (k1 := 123) dX10_findLoop_12 s_97 fX10_94 rfl ?_
    refine v_iconst dX10_findLoop_15 ?_
    refine v_lconst0 dX10_findLoop_16 ?_
    refine v_lastore dX10_findLoop_17 s_123 (by omega) ?_
    refine v_iconst dX10_findLoop_18 ?_
    refine v_istore_n (lv' := [_, _, _, _, _, _, _, _, _]) dX10_findLoop_19 (Nat.le_of_ble_eq_true rfl) rfl rfl ?_
    exact KI zx (lf x).length 0 _ (by omega) (eq9.aL (fun z => z.2.1 rfl)) rfl (by rw [gL_aL_eq, up9_eq]; rfl)
  · refine v_if_ne (tgt := 11) dX10_findLoop_5 (by decide) (by decide) (fun q5 => absurd q5 (by decide)) (fun q5 => ?_)
    refine v_bipush dX10_findLoop_8 (by decide) ?_
    exact v_ireturn dX10_findLoop_10 rfl (hno zx)
end
