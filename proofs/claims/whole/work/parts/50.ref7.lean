/-! ===== strings as numbers of digits 1 to 6 ===== -/
def em9 (xs : List Int) : Int := enc8 (xs.map (· + 1))
/-- a string that the reference can hold -/
def O6 (xs : List Int) : Prop := (∀ x ∈ xs, 0 ≤ x ∧ x < 6) ∧ xs.length ≤ 12
theorem O6.lt8 {xs : List Int} (h : O6 xs) : Lt8 (xs.map (· + 1)) := fun y hy => by
  obtain ⟨x, hx, rfl⟩ := List.mem_map.mp hy
  have := h.1 x hx
  omega
theorem O6.take {xs : List Int} (h : O6 xs) (k : Nat) : O6 (xs.take k) := ⟨fun x hx => h.1 x (List.mem_of_mem_take hx), by rw [List.length_take]; have := h.2; omega⟩
theorem O6.bd {xs : List Int} (h : O6 xs) : 0 ≤ em9 xs ∧ em9 xs < 68719476736 := by
  have h1 := enc8_bd h.lt8
  have h2 := p8_le (n := (xs.map (· + 1)).length) (by rw [List.length_map]; exact h.2)
  unfold em9
  omega
theorem em9_s (xs : List Int) (x : Int) : em9 (xs ++ [x]) = em9 xs * 8 + (x + 1) := by
  unfold em9
  rw [List.map_append, enc8_app]
  show enc8 (xs.map (· + 1)) * 8 ^ 1 + ((x + 1) * 8 ^ 0 + 0) = _
  omega
theorem em9_pos {xs : List Int} (h : O6 xs) (hne : xs ≠ []) : 0 < em9 xs := by
  obtain ⟨ys, y, rfl⟩ : ∃ ys y, xs = ys ++ [y] := ⟨xs.dropLast, xs.getLast hne, (List.dropLast_concat_getLast _).symm⟩
  rw [em9_s]
  have h1 := h.1 y (List.mem_append_right _ List.mem_cons_self)
  have h2 : O6 ys := ⟨fun x hx => h.1 x (List.mem_append_left _ hx), by have := h.2; rw [List.length_append] at this; omega⟩
  have := h2.bd
  omega
theorem em9_div {xs : List Int} (h : O6 xs) {k : Nat} (hk : k < xs.length) : em9 (xs.take (k + 1)) / 8 = em9 (xs.take k) := by
  have e := at9_take (xs := xs) (k := k) (by omega)
  rw [show ((k : Int) + 1).toNat = k + 1 by omega, Int.toNat_natCast] at e
  rw [e, em9_s]
  have := h.1 _ (at9_mem (xs := xs) (p := k) (by omega))
  omega
theorem at9_map {xs : List Int} {p : Int} (h : 0 ≤ p ∧ p < xs.length) : at9 (xs.map (· + 1)) p = at9 xs p + 1 := by
  unfold at9
  rw [List.getD_eq_getElem?_getD, List.getD_eq_getElem?_getD, List.getElem?_map, List.getElem?_eq_getElem (by omega)]
  rfl
theorem em9_at {xs : List Int} (h : O6 xs) {p : Int} (hp : 0 ≤ p ∧ p < xs.length) : em9 xs / 8 ^ ((xs.length : Int) - 1 - p).toNat % 8 = at9 xs p + 1 := by
  have := enc8_at h.lt8 (p := p) (by rw [List.length_map]; exact hp)
  rw [List.length_map, at9_map hp] at this
  exact this
theorem em9_inj {a b : List Int} (ha : O6 a) (hb : O6 b) (h : em9 a = em9 b) : a = b := by
  have key : ∀ (m : Nat) (a b : List Int), a.length = m → O6 a → O6 b → em9 a = em9 b → a = b := by
    intro m
    induction m with
    | zero =>
      intro a b hl ha hb h
      rw [List.length_eq_zero_iff.mp hl] at h ⊢
      refine Classical.byContradiction (fun q => ?_)
      have := em9_pos hb (fun e => q e.symm)
      rw [← h] at this
      exact absurd this (by decide)
    | succ m ih =>
      intro a b hl ha hb h
      have hane : a ≠ [] := fun e => by rw [e] at hl; cases hl
      have hbne : b ≠ [] := fun e => by rw [e] at h; have := em9_pos ha hane; rw [h] at this; exact absurd this (by decide)
      obtain ⟨a1, x, rfl⟩ : ∃ ys y, a = ys ++ [y] := ⟨a.dropLast, a.getLast hane, (List.dropLast_concat_getLast _).symm⟩
      obtain ⟨b1, y, rfl⟩ : ∃ ys y, b = ys ++ [y] := ⟨b.dropLast, b.getLast hbne, (List.dropLast_concat_getLast _).symm⟩
      rw [em9_s, em9_s] at h
      have h1 := ha.1 x (List.mem_append_right _ List.mem_cons_self)
      have h2 := hb.1 y (List.mem_append_right _ List.mem_cons_self)
      have e1 : em9 a1 = em9 b1 := by omega
      have e2 : x = y := by omega
      rw [ih a1 b1 (by rw [List.length_append] at hl; simp at hl; exact hl) ⟨fun x hx => ha.1 x (List.mem_append_left _ hx), by have := ha.2; rw [List.length_append] at this; omega⟩ ⟨fun x hx => hb.1 x (List.mem_append_left _ hx), by have := hb.2; rw [List.length_append] at this; omega⟩ e1, e2]
  exact key a.length a b rfl ha hb h
theorem sub_at {w l : List Int} {p : Int} (hp : 0 ≤ p) (hl : p + l.length ≤ w.length) : (w.drop p.toNat).take l.length = l ↔ ∀ k : Int, 0 ≤ k → k < l.length → at9 w (p + k) = at9 l k := by
  have el : ((w.drop p.toNat).take l.length).length = l.length := by rw [List.length_take, List.length_drop]; omega
  have eg : ∀ k : Nat, k < l.length → ((w.drop p.toNat).take l.length)[k]? = some (at9 w (p + k)) := fun k hk => by
    rw [List.getElem?_take_of_lt hk, List.getElem?_drop]
    unfold at9
    rw [List.getD_eq_getElem?_getD, show (p + (k : Int)).toNat = p.toNat + k by omega, List.getElem?_eq_getElem (by omega)]
    rfl
  constructor
  · intro h k k0 k1
    have h1 := eg k.toNat (by omega)
    rw [h, List.getElem?_eq_getElem (by omega), Option.some.injEq, Int.toNat_of_nonneg k0] at h1
    rw [← h1]
    unfold at9
    rw [List.getD_eq_getElem?_getD, List.getElem?_eq_getElem (by omega)]
    rfl
  · intro h
    refine List.ext_getElem? (fun k => ?_)
    by_cases hk : k < l.length
    · rw [eg k hk, h k (by omega) (by omega), List.getElem?_eq_getElem hk]
      unfold at9
      rw [List.getD_eq_getElem?_getD, Int.toNat_natCast, List.getElem?_eq_getElem hk]
      rfl
    · rw [List.getElem?_eq_none (by omega), List.getElem?_eq_none (by omega)]
section
variable {d : Nat} {n R : Int} {lf rg : Int → List Int} {wt lev : Int → Int} {stt : Int} {ap : Int → UInt32} {str : List Int} {σ : S9}
theorem c_X10_sizeOf {xs : List Int} {P : Int → S9 → Prop} (hx : O6 xs) (h : P xs.length σ) : Cc d mX10_sizeOf [.long (lI (em9 xs))] σ (QI P) := by
  have hl := hx.2
  refine Cc_of (by decide +kernel) (fun _ => Nat.le_of_ble_eq_true rfl) rfl (lv := [_, _, _, _, _]) ?_
  have K : ∀ (m : Nat) (j : Int), 0 ≤ j → j + m = xs.length → Vv d mX10_sizeOf 4 [.long (lI (em9 xs)), .null, .int (iI j), .long (lI (em9 (xs.take m))), .null] [] σ (QI P) := by
    intro m
    induction m with
    | zero =>
      intro j hj0 hj
      rw [show em9 (xs.take 0) = 0 from rfl]
      refine v_lload_n dX10_sizeOf_4 rfl ?_
      refine v_lconst0 dX10_sizeOf_5 ?_
      refine v_lcmp_le (tgt := 20) dX10_sizeOf_6 dX10_sizeOf_7 (by decide) (by decide) (fun q6 => ?_) (fun q6 => absurd q6 (by decide))
      refine v_iload_n dX10_sizeOf_20 rfl ?_
      exact v_ireturn dX10_sizeOf_21 rfl (by rw [show j = xs.length by omega]; exact h)
    | succ m ih =>
      intro j hj0 hj
      have hb := (hx.take (m + 1)).bd
      have hp := em9_pos (hx.take (m + 1)) (fun e => by have := congrArg List.length e; rw [List.length_take, List.length_nil] at this; omega)
      have ed := em9_div hx (show m < xs.length by omega)
      refine v_lload_n dX10_sizeOf_4 rfl ?_
      refine v_lconst0 dX10_sizeOf_5 ?_
      refine v_lcmp_le (tgt := 20) dX10_sizeOf_6 dX10_sizeOf_7 (by decide) (by omega) (fun q6 => absurd q6 (by omega)) (fun q6 => ?_)
      refine v_iinc (lv' := [_, _, _, _, _]) dX10_sizeOf_10 rfl (Nat.le_of_ble_eq_true rfl) rfl rfl ?_
      refine v_lload_n dX10_sizeOf_13 rfl ?_
      refine v_iconst dX10_sizeOf_14 ?_
      refine v_lshr dX10_sizeOf_15 (lshr9 (by omega) (by decide)) ?_
      refine v_lstore_n (lv' := [_, _, _, _, _]) dX10_sizeOf_16 (Nat.le_of_ble_eq_true rfl) rfl rfl ?_
      refine v_goto (tgt := 4) dX10_sizeOf_17 (by decide) ?_
      have ih := ih (j + 1) (by omega) (by omega)
      rw [← ed] at ih
      exact ih
  refine v_iconst dX10_sizeOf_0 ?_
  refine v_istore_n (lv' := [_, _, _, _, _]) dX10_sizeOf_1 (Nat.le_of_ble_eq_true rfl) rfl rfl ?_
  refine v_lload_n dX10_sizeOf_2 rfl ?_
  refine v_lstore_n (lv' := [_, _, _, _, _]) dX10_sizeOf_3 (Nat.le_of_ble_eq_true rfl) rfl rfl ?_
  have h8 := K xs.length 0 (by omega) (by omega)
  rw [List.take_of_length_le (Nat.le_refl _)] at h8
  exact h8
theorem c_X10_letterOf {xs : List Int} {p : Int} {P : Int → S9 → Prop} (hx : O6 xs) (hp : 0 ≤ p ∧ p < xs.length) (h : P (at9 xs p) σ) : Cc d mX10_letterOf [.long (lI (em9 xs)), .int (iI xs.length), .int (iI p)] σ (QI P) := by
  have hl := hx.2
  have hb := hx.bd
  have ea := em9_at hx hp
  have e8 := p2_8 ((xs.length : Int) - 1 - p) (by omega)
  have hd1 : 0 ≤ em9 xs / 2 ^ (3 * ((xs.length : Int) - 1 - p)).toNat := Int.ediv_nonneg hb.1 (Int.le_of_lt (Int.pow_pos (by decide)))
  have hd2 : em9 xs / 2 ^ (3 * ((xs.length : Int) - 1 - p)).toNat ≤ em9 xs := Int.ediv_le_self _ hb.1
  have em : em9 xs / 2 ^ (3 * ((xs.length : Int) - 1 - p)).toNat % 2 ^ 3 - 1 = at9 xs p := by
    rw [e8]
    show em9 xs / 8 ^ ((xs.length : Int) - 1 - p).toNat % 8 - 1 = _
    omega
  refine Cc_of (by decide +kernel) (fun _ => Nat.le_of_ble_eq_true rfl) rfl (lv := [_, _, _, _]) ?_
  refine v_lload_n dX10_letterOf_0 rfl ?_
  refine v_iconst dX10_letterOf_1 ?_
  refine v_iload_n dX10_letterOf_2 rfl ?_
  refine v_iconst dX10_letterOf_3 ?_
  refine v_isub dX10_letterOf_4 ?_
  refine v_iload_n dX10_letterOf_5 rfl ?_
  refine v_isub dX10_letterOf_6 ?_
  refine v_imul dX10_letterOf_7 ?_
  refine v_lshr dX10_letterOf_8 (lshr9 (by omega) (by omega)) ?_
  refine v_ldc2 dX10_letterOf_9 wX10_196 ?_
  refine v_land dX10_letterOf_12 (land9 3 (by omega) (by decide) rfl) ?_
  refine v_l2i dX10_letterOf_13 ?_
  refine v_iconst dX10_letterOf_14 ?_
  refine v_isub dX10_letterOf_15 ?_
  rw [em]
  exact v_ireturn dX10_letterOf_16 rfl (h)
theorem c_X10_with {xs : List Int} {x : Int} {P : Int → S9 → Prop} (hx : 0 ≤ x ∧ x < 6) (h : P (em9 (xs ++ [x])) σ) : Cc d mX10_with [.long (lI (em9 xs)), .int (iI x)] σ (QL P) := by
  refine Cc_of (by decide +kernel) (fun _ => Nat.le_of_ble_eq_true rfl) rfl (lv := [_, _, _]) ?_
  refine v_ldc2 dX10_with_0 wX10_198 ?_
  refine v_lload_n dX10_with_3 rfl ?_
  refine v_lmul dX10_with_4 ?_
  refine v_iload_n dX10_with_5 rfl ?_
  refine v_i2l dX10_with_6 (by omega) ?_
  refine v_ladd dX10_with_7 ?_
  refine v_lconst1 dX10_with_8 ?_
  refine v_ladd dX10_with_9 ?_
  exact v_lreturn dX10_with_10 rfl (by rw [em9_s] at h; rw [show 8 * em9 xs + x + 1 = em9 xs * 8 + (x + 1) by omega]; exact h)
theorem c_X10_stands {xs l : List Int} {r p : Int} {P : Int → S9 → Prop} (hx : O6 xs) (hl : OkL 6 6 l) (hr : 0 ≤ r ∧ r < 8) (hp : (-2147483648 ≤ p ∧ p < 2147483648)) (e1 : gI σ 98 (2 * r) = l.length) (e2 : ∀ k : Int, 0 ≤ k → k < l.length → gI σ 99 (12 * r + k) = at9 l k) (h1 : occ9 l xs p → P 1 σ) (h0 : ¬ occ9 l xs p → P 0 σ) : Cc (d + 1) mX10_stands [.ref 97, .long (lI (em9 xs)), .int (iI xs.length), .int (iI r), .int (iI p)] σ (QI P) := by
  have hl6 := hl.2
  have hx12 := hx.2
  refine Cc_of (by decide +kernel) (fun _ => Nat.le_of_ble_eq_true rfl) rfl (lv := [_, _, _, _, _, _, _, _, _]) ?_
  have K : (0 ≤ p ∧ p + l.length ≤ xs.length) → ∀ (m : Nat) (k b : Int), 0 ≤ k → k + m = l.length → (b = 0 ∨ b = 1) → (b = 1 ↔ ∀ j : Int, 0 ≤ j → j < k → at9 xs (p + j) = at9 l j) → Vv (d + 1) mX10_stands 28 [.ref 97, .long (lI (em9 xs)), .null, .int (iI xs.length), .int (iI r), .int (iI p), .int (iI l.length), .int (iI b), .int (iI k)] [] σ (QI P) := by
    intro hpl m
    induction m with
    | zero =>
      intro k b hk hm hb hI
      refine v_iload dX10_stands_28 rfl ?_
      refine v_iload dX10_stands_30 rfl ?_
      refine v_icmp_ge (tgt := 79) dX10_stands_32 (by decide) (by omega) (fun q32 => ?_) (fun q32 => absurd q32 (by omega))
      refine v_iload dX10_stands_79 rfl ?_
      exact v_zreturn dX10_stands_81 rfl (by omega) (by
        rcases hb with rfl | rfl
        · refine h0 (fun z => absurd (hI.mpr (fun j a c => (sub_at hpl.1 hpl.2).mp z.2.2 j a (by omega))) (by decide))
        · exact h1 ⟨hpl.1, hpl.2, (sub_at hpl.1 hpl.2).mpr (fun j a c => hI.mp rfl j a (by omega))⟩)
    | succ m ih =>
      intro k b hk hm hb hI
      have ha := hl.1 _ (at9_mem (xs := l) (p := k) (by omega))
      have hc := hx.1 _ (at9_mem (xs := xs) (p := p + k) (by omega))
      refine v_iload dX10_stands_28 rfl ?_
      refine v_iload dX10_stands_30 rfl ?_
      refine v_icmp_ge (tgt := 79) dX10_stands_32 (by decide) (by omega) (fun q32 => absurd q32 (by omega)) (fun q32 => ?_)
      refine v_iload dX10_stands_35 rfl ?_
      refine v_if_eq (tgt := 79) dX10_stands_37 (by decide) (by omega) (fun q37 => ?_) (fun q37 => ?_)
      · refine v_iload dX10_stands_79 rfl ?_
        exact v_zreturn dX10_stands_81 rfl (by omega) (by
        rcases hb with rfl | rfl
        · refine h0 (fun z => absurd (hI.mpr (fun j a c => (sub_at hpl.1 hpl.2).mp z.2.2 j a (by omega))) (by decide))
        · exact absurd q37 (by decide))
      · refine v_lload_n dX10_stands_40 rfl ?_
        refine v_iload_n dX10_stands_41 rfl ?_
        refine v_iload dX10_stands_42 rfl ?_
        refine v_iload dX10_stands_44 rfl ?_
        refine v_iadd dX10_stands_46 ?_
        refine v_callSi3 dX10_stands_47 kX10_200 (Nat.le_of_ble_eq_true rfl) (c_X10_letterOf hx (by omega) ?_)
        refine v_aload_n dX10_stands_50 rfl ?_
        refine v_getR (k1 := 99) dX10_stands_51 s_97 fX10_19 rfl ?_
        refine v_bipush dX10_stands_54 (by decide) ?_
        refine v_iload dX10_stands_56 rfl ?_
        refine v_imul dX10_stands_58 ?_
        refine v_iload dX10_stands_59 rfl ?_
        refine v_iadd dX10_stands_61 ?_
        refine v_iaload dX10_stands_62 s_99 (by omega) ?_
        rw [e2 k hk (by omega)]
        refine v_icmp_ne (tgt := 70) dX10_stands_63 (by decide) (by omega) (fun q63 => ?_) (fun q63 => ?_)
        · refine v_iconst dX10_stands_70 ?_
          refine v_istore (lv' := [_, _, _, _, _, _, _, _, _]) dX10_stands_71 (Nat.le_of_ble_eq_true rfl) rfl rfl ?_
          refine v_iinc (lv' := [_, _, _, _, _, _, _, _, _]) dX10_stands_73 rfl (Nat.le_of_ble_eq_true rfl) rfl rfl ?_
          refine v_goto (tgt := 28) dX10_stands_76 (by decide) ?_
          refine ih (k + 1) _ (by omega) (by omega) (by decide) ?_
          first
          | exact ⟨fun q => absurd q (by decide), fun q => absurd (q k hk (by omega)) q63⟩
          | exact ⟨fun _ j a c => if e : j = k then (by rw [e]; exact q63) else hI.mp (by omega) j a (by omega), fun _ => rfl⟩
        · refine v_iconst dX10_stands_66 ?_
          refine v_goto (tgt := 71) dX10_stands_67 (by decide) ?_
          refine v_istore (lv' := [_, _, _, _, _, _, _, _, _]) dX10_stands_71 (Nat.le_of_ble_eq_true rfl) rfl rfl ?_
          refine v_iinc (lv' := [_, _, _, _, _, _, _, _, _]) dX10_stands_73 rfl (Nat.le_of_ble_eq_true rfl) rfl rfl ?_
          refine v_goto (tgt := 28) dX10_stands_76 (by decide) ?_
          refine ih (k + 1) _ (by omega) (by omega) (by decide) ?_
          first
          | exact ⟨fun q => absurd q (by decide), fun q => absurd (q k hk (by omega)) q63⟩
          | exact ⟨fun _ j a c => if e : j = k then (by rw [e]; exact q63) else hI.mp (by omega) j a (by omega), fun _ => rfl⟩
  have K0 : ¬ (0 ≤ p ∧ p ≤ (xs.length : Int) - l.length) → Vv (d + 1) mX10_stands 28 [.ref 97, .long (lI (em9 xs)), .null, .int (iI xs.length), .int (iI r), .int (iI p), .int (iI l.length), .int (iI 0), .int (iI 0)] [] σ (QI P) := by
    intro z
    refine v_iload dX10_stands_28 rfl ?_
    refine v_iload dX10_stands_30 rfl ?_
    refine v_icmp_ge (tgt := 79) dX10_stands_32 (by decide) (by omega) (fun q32 => ?_) (fun q32 => ?_)
    · refine v_iload dX10_stands_79 rfl ?_
      exact v_zreturn dX10_stands_81 rfl (by decide) (h0 (fun q => by have := q.1; have := q.2.1; omega))
    · refine v_iload dX10_stands_35 rfl ?_
      refine v_if_eq (tgt := 79) dX10_stands_37 (by decide) (by decide) (fun q37 => ?_) (fun q37 => absurd rfl q37)
      refine v_iload dX10_stands_79 rfl ?_
      exact v_zreturn dX10_stands_81 rfl (by decide) (h0 (fun q => by have := q.1; have := q.2.1; omega))
  refine v_aload_n dX10_stands_0 rfl ?_
  refine v_getR (k1 := 98) dX10_stands_1 s_97 fX10_15 rfl ?_
  refine v_iconst dX10_stands_4 ?_
  refine v_iload dX10_stands_5 rfl ?_
  refine v_imul dX10_stands_7 ?_
  refine v_iaload dX10_stands_8 s_98 (by omega) ?_
  rw [e1]
  refine v_istore (lv' := [_, _, _, _, _, _, _, _, _]) dX10_stands_9 (Nat.le_of_ble_eq_true rfl) rfl rfl ?_
  refine v_iload dX10_stands_11 rfl ?_
  refine v_i2l dX10_stands_13 (by omega) ?_
  refine v_lconst0 dX10_stands_14 ?_
  refine v_iload_n dX10_stands_15 rfl ?_
  refine v_iload dX10_stands_16 rfl ?_
  refine v_isub dX10_stands_18 ?_
  refine v_i2l dX10_stands_19 (by omega) ?_
  refine v_callSi3 dX10_stands_20 kX10_115 (Nat.le_of_ble_eq_true rfl) (c_X10_in (by omega) (by omega) (by omega) (fun z => ?_) (fun z => ?_))
  · refine v_istore (lv' := [_, _, _, _, _, _, _, _, _]) dX10_stands_23 (Nat.le_of_ble_eq_true rfl) rfl rfl ?_
    refine v_iconst dX10_stands_25 ?_
    refine v_istore (lv' := [_, _, _, _, _, _, _, _, _]) dX10_stands_26 (Nat.le_of_ble_eq_true rfl) rfl rfl ?_
    exact K (by omega) l.length 0 1 (by omega) (by omega) (Or.inr rfl) ⟨fun _ j a c => by omega, fun _ => rfl⟩
  · refine v_istore (lv' := [_, _, _, _, _, _, _, _, _]) dX10_stands_23 (Nat.le_of_ble_eq_true rfl) rfl rfl ?_
    refine v_iconst dX10_stands_25 ?_
    refine v_istore (lv' := [_, _, _, _, _, _, _, _, _]) dX10_stands_26 (Nat.le_of_ble_eq_true rfl) rfl rfl ?_
    exact K0 z
end
