/-! ===== strings that were found: the table ===== -/
/-- how many of the first places are taken -/
def nz9 (f : Int → Int) : Nat → Int
  | 0 => 0
  | k + 1 => nz9 f k + (if f k ≠ 0 then 1 else 0)
theorem nz9_all {f : Int → Int} : ∀ k : Nat, (∀ p : Int, 0 ≤ p → p < k → f p ≠ 0) → nz9 f k = k
  | 0, _ => rfl
  | k + 1, h => by
    unfold nz9
    rw [nz9_all k (fun p a b => h p a (by omega)), if_pos (h k (by omega) (by omega))]
    omega
theorem nz9_congr {f g : Int → Int} : ∀ k : Nat, (∀ p : Int, 0 ≤ p → p < k → f p = g p) → nz9 f k = nz9 g k
  | 0, _ => rfl
  | k + 1, h => by
    unfold nz9
    rw [nz9_congr k (fun p a b => h p a (by omega)), h k (by omega) (by omega)]
theorem nz9_up {f : Int → Int} {q z : Int} (hz : z ≠ 0) (hf : f q = 0) : ∀ k : Nat, 0 ≤ q → q < k → nz9 (up9 f q z) k = nz9 f k + 1
  | 0, a, b => by omega
  | k + 1, a, b => by
    unfold nz9
    by_cases e : q = k
    · rw [nz9_congr (f := up9 f q z) (g := f) k (fun p c d => up9_ne (by omega)), ← e, up9_eq, if_pos hz, hf, if_neg (by decide)]
      omega
    · rw [nz9_up hz hf k a (by omega), up9_ne (by omega)]
      omega
theorem iand511 {a : Int} (h : 0 ≤ a) : iI a &&& iI 511 = iI (a % 512) := iand9 9 h (by decide) rfl
/-- the place where a word's search begins -/
def hs9 (z : Int) : Int := ((lI (z * -7046029254386353131)).toUInt64 >>> ((iI 55).toInt64.toUInt64 &&& Int64.toUInt64 63)).toInt64.toInt
theorem hs9_bd (z : Int) : 0 ≤ hs9 z ∧ hs9 z < 512 := by
  unfold hs9
  obtain ⟨n, hn, e⟩ := wb_of (lI (z * -7046029254386353131))
  rw [e, show iI 55 = nI 55 from rfl, wb_shr hn (by decide), ← lI_nat]
  have h1 : n / 2 ^ 55 < 512 := by
    rw [Nat.div_lt_iff_lt_mul (by decide)]
    exact hn
  rw [lI_toInt (by omega) (by omega)]
  omega
theorem hs9_lI (z : Int) : ((lI (z * -7046029254386353131)).toUInt64 >>> ((iI 55).toInt64.toUInt64 &&& Int64.toUInt64 63)).toInt64 = lI (hs9 z) := (lI_of _).symm
/-- the table tab leads to the words wd, which are ws -/
def TB9 (tab wd : Int → Int) (ws : List (List Int)) : Prop :=
  ws.length ≤ 200 ∧ (∀ w ∈ ws, St w) ∧ ws.Nodup ∧ (∀ i : Nat, i < ws.length → wd i = encW (ws.getD i [])) ∧ (∀ p : Int, 0 ≤ p → p < 512 → 0 ≤ tab p ∧ tab p ≤ ws.length) ∧ nz9 tab 512 = ws.length ∧
  (∀ i : Nat, i < ws.length → ∃ s : Int, 0 ≤ s ∧ s < 512 ∧ tab ((hs9 (encW (ws.getD i [])) + s) % 512) = i + 1 ∧ ∀ t, 0 ≤ t → t < s → tab ((hs9 (encW (ws.getD i [])) + t) % 512) ≠ 0)
def HT9 (σ : S9) (ws : List (List Int)) : Prop := gI σ 36 0 = ws.length ∧ TB9 (gI σ 38) (gL σ 37) ws
theorem gtD_mem {ws : List (List Int)} {i : Nat} (h : i < ws.length) : ws.getD i [] ∈ ws := by
  rw [List.getD_eq_getElem?_getD, List.getElem?_eq_getElem h]
  exact List.getElem_mem h
theorem mem_gtD {ws : List (List Int)} {w : List Int} (h : w ∈ ws) : ∃ i : Nat, i < ws.length ∧ ws.getD i [] = w := by
  obtain ⟨i, hi, e⟩ := List.getElem_of_mem h
  refine ⟨i, hi, ?_⟩
  rw [List.getD_eq_getElem?_getD, List.getElem?_eq_getElem hi]
  exact e
theorem gtD_app {ws : List (List Int)} {w : List Int} {i : Nat} (h : i < ws.length) : (ws ++ [w]).getD i [] = ws.getD i [] := by
  rw [List.getD_eq_getElem?_getD, List.getD_eq_getElem?_getD, List.getElem?_append_left h]
theorem gtD_last {ws : List (List Int)} {w : List Int} : (ws ++ [w]).getD ws.length [] = w := by
  rw [List.getD_eq_getElem?_getD, List.getElem?_append_right (by omega)]
  simp
section
variable {d : Nat} {σ : S9} {ws : List (List Int)} {w : List Int}
theorem c_X0_placeOf {P : Int → S9 → Prop} (hw : St w) (T : TB9 (gI σ 38) (gL σ 37) ws) (h1 : ∀ (p : Int) (i : Nat), 0 ≤ p → p < 512 → i < ws.length → ws.getD i [] = w → gI σ 38 p = i + 1 → P p σ) (h0 : ∀ s : Int, 0 ≤ s → s < 512 → w ∉ ws → gI σ 38 ((hs9 (encW w) + s) % 512) = 0 → (∀ t, 0 ≤ t → t < s → gI σ 38 ((hs9 (encW w) + t) % 512) ≠ 0) → P ((hs9 (encW w) + s) % 512) σ) : Cc d mX0_placeOf [.ref 36, .long (lI (encW w))] σ (QI P) := by
  obtain ⟨T1, T2, T3, T4, T5, T6, T7⟩ := T
  have hb := hs9_bd (encW w)
  have hwb := hw.bdW
  refine Cc_of (by decide +kernel) (fun _ => Nat.le_of_ble_eq_true rfl) rfl (lv := [_, _, _, _, _, _, _]) ?_
  have K : ∀ (m : Nat) (s : Int), 0 ≤ s → s + m = 512 → (∀ t, 0 ≤ t → t < s → gI σ 38 ((hs9 (encW w) + t) % 512) ≠ 0 ∧ gL σ 37 (gI σ 38 ((hs9 (encW w) + t) % 512) - 1) ≠ encW w) → ∀ l5 l6, Vv d mX0_placeOf 13 [.ref 36, .long (lI (encW w)), .null, .int (iI (hs9 (encW w))), .int (iI s), l5, l6] [] σ (QI P) := by
    intro m
    induction m with
    | zero =>
      intro s hs hm hI l5 l6
      exfalso
      have := nz9_all (f := gI σ 38) 512 (fun p a b => by
        have h9 := (hI ((p - hs9 (encW w)) % 512) (by omega) (by omega)).1
        rw [show (hs9 (encW w) + (p - hs9 (encW w)) % 512) % 512 = p by omega] at h9
        exact h9)
      omega
    | succ m ih =>
      intro s hs hm hI l5 l6
      have ht := T5 ((hs9 (encW w) + s) % 512) (by omega) (by omega)
      have hwd : gI σ 38 ((hs9 (encW w) + s) % 512) ≠ 0 → ∃ i : Nat, i < ws.length ∧ gI σ 38 ((hs9 (encW w) + s) % 512) = i + 1 ∧ gL σ 37 (gI σ 38 ((hs9 (encW w) + s) % 512) - 1) = encW (ws.getD i []) := fun q => by
        refine ⟨(gI σ 38 ((hs9 (encW w) + s) % 512) - 1).toNat, by omega, by omega, ?_⟩
        rw [← T4 _ (by omega), show (((gI σ 38 ((hs9 (encW w) + s) % 512) - 1).toNat : Nat) : Int) = gI σ 38 ((hs9 (encW w) + s) % 512) - 1 by omega]
      have hlb : gI σ 38 ((hs9 (encW w) + s) % 512) ≠ 0 → 0 ≤ gL σ 37 (gI σ 38 ((hs9 (encW w) + s) % 512) - 1) ∧ gL σ 37 (gI σ 38 ((hs9 (encW w) + s) % 512) - 1) < 893353197568 := fun q => by
        obtain ⟨i, i1, _, i3⟩ := hwd q
        rw [i3]
        exact (T2 _ (gtD_mem i1)).bdW
      refine v_iload dX0_placeOf_13 rfl ?_
      refine v_sipush dX0_placeOf_15 (by decide) ?_
      refine v_icmp_ge (tgt := 76) dX0_placeOf_18 (by decide) (by omega) (fun q18 => absurd q18 (by omega)) (fun q18 => ?_)
      refine v_iload_n dX0_placeOf_21 rfl ?_
      refine v_iload dX0_placeOf_22 rfl ?_
      refine v_iadd dX0_placeOf_24 ?_
      refine v_sipush dX0_placeOf_25 (by decide) ?_
      refine v_iand dX0_placeOf_28 (iand511 (by omega)) ?_
      refine v_istore (lv' := [_, _, _, _, _, _, _]) dX0_placeOf_29 (Nat.le_of_ble_eq_true rfl) rfl rfl ?_
      refine v_aload_n dX0_placeOf_31 rfl ?_
      refine v_getR (k1 := 38) dX0_placeOf_32 s_36 fX0_19 rfl ?_
      refine v_iload dX0_placeOf_35 rfl ?_
      refine v_iaload dX0_placeOf_37 s_38 (by omega) ?_
      refine v_iconst dX0_placeOf_38 ?_
      refine v_isub dX0_placeOf_39 ?_
      refine v_istore (lv' := [_, _, _, _, _, _, _]) dX0_placeOf_40 (Nat.le_of_ble_eq_true rfl) rfl rfl ?_
      refine v_iload dX0_placeOf_42 rfl ?_
      refine v_if_lt (tgt := 67) dX0_placeOf_44 (by decide) (by omega) (fun q44 => ?_) (fun q44 => ?_)
      · refine v_iload dX0_placeOf_67 rfl ?_
        refine v_ireturn dX0_placeOf_69 rfl (by first
        | exact h0 s hs (by omega) (fun hm2 => by
            obtain ⟨i, i1, i2⟩ := mem_gtD hm2
            obtain ⟨s2, s0, s1, s3, s4⟩ := T7 i i1
            rw [i2] at s3 s4
            by_cases e : s2 < s
            · refine (hI s2 s0 e).2 ?_
              rw [s3, show (i : Int) + 1 - 1 = i by omega, T4 i i1, i2]
            · by_cases e2 : s2 = s
              · rw [← e2] at q44; omega
              · exact s4 s hs (by omega) (by omega)) (by omega) (fun t a b => (hI t a b).1)
        | (obtain ⟨i, i1, i2, i3⟩ := hwd (by omega)
           exact h1 _ i (by omega) (by omega) i1 (encW_inj (T2 _ (gtD_mem i1)) hw (by rw [← i3]; exact q63)) i2))
      · refine v_iload dX0_placeOf_47 rfl ?_
        refine v_sipush dX0_placeOf_49 (by decide) ?_
        refine v_icmp_ge (tgt := 67) dX0_placeOf_52 (by decide) (by omega) (fun q52 => absurd q52 (by omega)) (fun q52 => ?_)
        refine v_aload_n dX0_placeOf_55 rfl ?_
        refine v_getR (k1 := 37) dX0_placeOf_56 s_36 fX0_15 rfl ?_
        refine v_iload dX0_placeOf_59 rfl ?_
        refine v_laload dX0_placeOf_61 s_37 (by omega) ?_
        refine v_lload_n dX0_placeOf_62 rfl ?_
        have hlb := hlb (by omega)
        refine v_lcmp_ne (tgt := 70) dX0_placeOf_63 dX0_placeOf_64 (by decide) (by omega) (fun q63 => ?_) (fun q63 => ?_)
        · refine v_iinc (lv' := [_, _, _, _, _, _, _]) dX0_placeOf_70 rfl (Nat.le_of_ble_eq_true rfl) rfl rfl ?_
          refine v_goto (tgt := 13) dX0_placeOf_73 (by decide) ?_
          refine ih (s + 1) (by omega) (by omega) (fun t a b => ?_) _ _
          by_cases e : t = s
          · rw [e]; exact ⟨by omega, q63⟩
          · exact hI t a (by omega)
        · refine v_iload dX0_placeOf_67 rfl ?_
          refine v_ireturn dX0_placeOf_69 rfl (by first
        | exact h0 s hs (by omega) (fun hm2 => by
            obtain ⟨i, i1, i2⟩ := mem_gtD hm2
            obtain ⟨s2, s0, s1, s3, s4⟩ := T7 i i1
            rw [i2] at s3 s4
            by_cases e : s2 < s
            · refine (hI s2 s0 e).2 ?_
              rw [s3, show (i : Int) + 1 - 1 = i by omega, T4 i i1, i2]
            · by_cases e2 : s2 = s
              · rw [← e2] at q44; omega
              · exact s4 s hs (by omega) (by omega)) (by omega) (fun t a b => (hI t a b).1)
        | (obtain ⟨i, i1, i2, i3⟩ := hwd (by omega)
           exact h1 _ i (by omega) (by omega) i1 (encW_inj (T2 _ (gtD_mem i1)) hw (by rw [← i3]; exact q63)) i2))
  refine v_lload_n dX0_placeOf_0 rfl ?_
  refine v_ldc2 dX0_placeOf_1 wX0_54 ?_
  refine v_lmul dX0_placeOf_4 ?_
  refine v_bipush dX0_placeOf_5 (by decide) ?_
  refine v_lushr dX0_placeOf_7 (hs9_lI _) ?_
  refine v_l2i dX0_placeOf_8 ?_
  refine v_istore_n (lv' := [_, _, _, _, _, _, _]) dX0_placeOf_9 (Nat.le_of_ble_eq_true rfl) rfl rfl ?_
  refine v_iconst dX0_placeOf_10 ?_
  refine v_istore (lv' := [_, _, _, _, _, _, _]) dX0_placeOf_11 (Nat.le_of_ble_eq_true rfl) rfl rfl ?_
  exact K 512 0 (by omega) (by omega) (fun t a b => by omega) _ _
theorem c_X0_numberOf {P : Int → S9 → Prop} (hw : St w) (T : TB9 (gI σ 38) (gL σ 37) ws) (h1 : ∀ (i : Nat), i < ws.length → ws.getD i [] = w → P i σ) (h0 : w ∉ ws → P (-1) σ) : Cc (d + 1) mX0_numberOf [.ref 36, .long (lI (encW w))] σ (QI P) := by
  refine Cc_of (by decide +kernel) (fun _ => Nat.le_of_ble_eq_true rfl) rfl (lv := [_, _, _]) ?_
  refine v_aload_n dX0_numberOf_0 rfl ?_
  refine v_getR (k1 := 38) dX0_numberOf_1 s_36 fX0_19 rfl ?_
  refine v_aload_n dX0_numberOf_4 rfl ?_
  refine v_lload_n dX0_numberOf_5 rfl ?_
  refine v_callVi1 dX0_numberOf_6 kX0_56 s_36 (Nat.le_of_ble_eq_true rfl) (c_X0_placeOf hw T (fun p i a b i1 i2 i3 => ?_) (fun s a b hm q z => ?_))
  · refine v_iaload dX0_numberOf_9 s_38 (by omega) ?_
    rw [i3]
    refine v_iconst dX0_numberOf_10 ?_
    refine v_isub dX0_numberOf_11 ?_
    exact v_ireturn dX0_numberOf_12 rfl (by rw [show (i : Int) + 1 - 1 = i by omega]; exact h1 i i1 i2)
  · refine v_iaload dX0_numberOf_9 s_38 (by omega) ?_
    rw [q]
    refine v_iconst dX0_numberOf_10 ?_
    refine v_isub dX0_numberOf_11 ?_
    exact v_ireturn dX0_numberOf_12 rfl (h0 hm)
theorem c_X0_add {P : Int → S9 → Prop} (hw : St w) (H : HT9 σ ws) (hn : w ∉ ws) (h0 : ws.length = 200 → P (-1) σ) (h1 : ws.length < 200 → ∀ τ, HT9 τ (ws ++ [w]) → eq9 (fun k => k < 36 ∨ k = 41 ∨ k = 42 ∨ 43 < k) σ τ → gI τ 39 = up9 (gI σ 39) ws.length (-1) → gI τ 40 = up9 (gI σ 40) ws.length 0 → gI τ 43 = up9 (gI σ 43) ws.length 0 → P ws.length τ) : Cc (d + 1) mX0_add [.ref 36, .long (lI (encW w))] σ (QI P) := by
  obtain ⟨H0, T⟩ := H
  have T1 := T.1
  refine Cc_of (by decide +kernel) (fun _ => Nat.le_of_ble_eq_true rfl) rfl (lv := [_, _, _, _]) ?_
  refine v_aload_n dX0_add_0 rfl ?_
  refine v_getI (ji := 0) dX0_add_1 s_36 fX0_9 rfl ?_
  rw [H0]
  refine v_sipush dX0_add_4 (by decide) ?_
  refine v_icmp_lt (tgt := 12) dX0_add_7 (by decide) (by omega) (fun q7 => ?_) (fun q7 => ?_)
  · refine v_aload_n dX0_add_12 rfl ?_
    refine v_getI (ji := 0) dX0_add_13 s_36 fX0_9 rfl ?_
    rw [H0]
    have T8 : TB9 (gI σ 38) (up9 (gL σ 37) ws.length (encW w)) ws := ⟨T.1, T.2.1, T.2.2.1, fun i hi => by rw [up9_ne (by omega)]; exact T.2.2.2.1 i hi, T.2.2.2.2⟩
    refine v_istore_n (lv' := [_, _, _, _]) dX0_add_16 (Nat.le_of_ble_eq_true rfl) rfl rfl ?_
    refine v_aload_n dX0_add_17 rfl ?_
    refine v_getR (k1 := 37) dX0_add_18 s_36 fX0_15 rfl ?_
    refine v_iload_n dX0_add_21 rfl ?_
    refine v_lload_n dX0_add_22 rfl ?_
    refine v_lastore dX0_add_23 s_37 (by omega) ?_
    refine v_aload_n dX0_add_24 rfl ?_
    refine v_getR (k1 := 39) dX0_add_25 s_36 fX0_23 rfl ?_
    refine v_iload_n dX0_add_28 rfl ?_
    refine v_iconst dX0_add_29 ?_
    refine v_iastore dX0_add_30 s_39 (by omega) ?_
    refine v_aload_n dX0_add_31 rfl ?_
    refine v_getR (k1 := 40) dX0_add_32 s_36 fX0_26 rfl ?_
    refine v_iload_n dX0_add_35 rfl ?_
    refine v_iconst dX0_add_36 ?_
    refine v_iastore dX0_add_37 s_40 (by omega) ?_
    refine v_aload_n dX0_add_38 rfl ?_
    refine v_getR (k1 := 43) dX0_add_39 s_36 fX0_35 rfl ?_
    refine v_iload_n dX0_add_42 rfl ?_
    refine v_iconst dX0_add_43 ?_
    refine v_iastore dX0_add_44 s_43 (by omega) ?_
    refine v_aload_n dX0_add_45 rfl ?_
    refine v_getR (k1 := 38) dX0_add_46 s_36 fX0_19 rfl ?_
    refine v_aload_n dX0_add_49 rfl ?_
    refine v_lload_n dX0_add_50 rfl ?_
    have T9 : TB9 (gI (sI (sI (sI (sL σ 37 ws.length (encW w)) 39 ws.length (-1)) 40 ws.length 0) 43 ws.length 0) 38) (gL (sI (sI (sI (sL σ 37 ws.length (encW w)) 39 ws.length (-1)) 40 ws.length 0) 43 ws.length 0) 37) ws := by
      rw [gI_aI_ne (by decide), gI_aI_ne (by decide), gI_aI_ne (by decide)]
      show TB9 (gI σ 38) (gL (sL σ 37 ws.length (encW w)) 37) ws
      rw [gL_aL_eq]
      exact T8
    refine v_callVi1 dX0_add_51 kX0_56 s_36 (Nat.le_of_ble_eq_true rfl) (c_X0_placeOf hw T9 (fun p i a b i1 i2 i3 => ?_) (fun s s0 s1 hm q z => ?_))
    · exact absurd (i2 ▸ gtD_mem i1) hn
    · refine v_iload_n dX0_add_54 rfl ?_
      refine v_iconst dX0_add_55 ?_
      refine v_iadd dX0_add_56 ?_
      refine v_iastore dX0_add_57 s_38 (by omega) ?_
      refine v_aload_n dX0_add_58 rfl ?_
      refine v_dup dX0_add_59 rfl ?_
      refine v_getI (ji := 0) dX0_add_60 s_36 fX0_9 rfl ?_
      rw [gI_aI_ne (by decide), gI_aI_ne (by decide), gI_aI_ne (by decide), gI_aI_ne (by decide), gI_aL, H0]
      refine v_iconst dX0_add_63 ?_
      refine v_iadd dX0_add_64 ?_
      refine v_putI (ji := 0) dX0_add_65 s_36 pfX0_9 rfl ?_
      refine v_iload_n dX0_add_68 rfl ?_
      refine v_ireturn dX0_add_69 rfl (by
      rw [gI_aI_ne (by decide), gI_aI_ne (by decide), gI_aI_ne (by decide), gI_aL] at q
      have z : ∀ t, 0 ≤ t → t < s → gI σ 38 ((hs9 (encW w) + t) % 512) ≠ 0 := fun t a b => by
        have := z t a b
        rw [gI_aI_ne (by decide), gI_aI_ne (by decide), gI_aI_ne (by decide), gI_aL] at this
        exact this
      have hb := hs9_bd (encW w)
      obtain ⟨_, T2, T3, T4, T5, T6, T7⟩ := T
      refine h1 (by omega) _ ⟨?_, ?_, ?_, ?_, ?_, ?_, ?_, ?_⟩ ?_ ?_ ?_ ?_
      · rw [gI_aI_eq, up9_eq, List.length_append]; simp
      · rw [List.length_append]; simp; omega
      · intro y hy
        rcases List.mem_append.mp hy with h | h
        · exact T2 y h
        · rw [List.mem_singleton.mp h]; exact hw
      · rw [List.nodup_append]
        refine ⟨T3, by simp, fun a ha b hb e => ?_⟩
        rw [List.mem_singleton.mp hb] at e
        exact hn (e ▸ ha)
      · intro i hi
        rw [List.length_append] at hi
        show gL (sL σ 37 ws.length (encW w)) 37 i = _
        rw [gL_aL_eq]
        by_cases e : i = ws.length
        · rw [e, up9_eq, gtD_last]
        · rw [up9_ne (by omega), gtD_app (by simp at hi; omega)]
          exact T4 i (by simp at hi; omega)
      · intro p a b
        rw [List.length_append, gI_aI_ne (by decide), gI_aI_eq, gI_aI_ne (by decide), gI_aI_ne (by decide), gI_aI_ne (by decide), gI_aL]
        have := T5 p a b
        by_cases e : p = (hs9 (encW w) + s) % 512
        · rw [e, up9_eq]; simp; omega
        · rw [up9_ne e]; simp; omega
      · rw [List.length_append, gI_aI_ne (by decide), gI_aI_eq, gI_aI_ne (by decide), gI_aI_ne (by decide), gI_aI_ne (by decide), gI_aL, nz9_up (by omega) q 512 (by omega) (by omega), T6]
        simp
      · intro i hi
        rw [List.length_append] at hi
        rw [gI_aI_ne (by decide), gI_aI_eq, gI_aI_ne (by decide), gI_aI_ne (by decide), gI_aI_ne (by decide), gI_aL]
        by_cases e : i = ws.length
        · rw [e, gtD_last]
          refine ⟨s, s0, s1, by rw [up9_eq], fun t a b => ?_⟩
          by_cases e2 : (hs9 (encW w) + t) % 512 = (hs9 (encW w) + s) % 512
          · rw [e2, up9_eq]; omega
          · rw [up9_ne e2]; exact z t a b
        · rw [gtD_app (by simp at hi; omega)]
          obtain ⟨s2, c0, c1, c3, c4⟩ := T7 i (by simp at hi; omega)
          refine ⟨s2, c0, c1, ?_, fun t a b => ?_⟩
          · rw [up9_ne (fun e2 => by rw [e2, q] at c3; omega)]; exact c3
          · by_cases e2 : (hs9 (encW (ws.getD i [])) + t) % 512 = (hs9 (encW w) + s) % 512
            · rw [e2, up9_eq]; omega
            · rw [up9_ne e2]; exact c4 t a b
      · exact (((((eq9.aL (by omega)).tr (eq9.aI (by omega))).tr (eq9.aI (by omega))).tr (eq9.aI (by omega))).tr (eq9.aI (by omega))).tr (eq9.aI (by omega))
      · rw [gI_aI_ne (by decide), gI_aI_ne (by decide), gI_aI_ne (by decide), gI_aI_ne (by decide), gI_aI_eq, gI_aL]
      · rw [gI_aI_ne (by decide), gI_aI_ne (by decide), gI_aI_ne (by decide), gI_aI_eq, gI_aI_ne (by decide), gI_aL]
      · rw [gI_aI_ne (by decide), gI_aI_ne (by decide), gI_aI_eq, gI_aI_ne (by decide), gI_aI_ne (by decide), gI_aL])
  · refine v_iconst dX0_add_10 ?_
    exact v_ireturn dX0_add_11 rfl (h0 (by omega))
end
