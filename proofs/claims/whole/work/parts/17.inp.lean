/-! ===== equality of worlds ===== -/
theorem S9ext {a b : S9} (h1 : ∀ k, gI a k = gI b k) (h2 : ∀ k, gL a k = gL b k) (h3 : ∀ k, gF a k = gF b k) (h4 : ∀ k, gD a k = gD b k) : a = b := by
  obtain ⟨a1, a2, a3, a4⟩ := a
  obtain ⟨b1, b2, b3, b4⟩ := b
  have e1 : a1 = b1 := funext h1
  have e2 : a2 = b2 := funext h2
  have e3 : a3 = b3 := funext h3
  have e4 : a4 = b4 := funext h4
  subst e1 e2 e3 e4
  rfl
theorem aI_same (σ : S9) (k : Nat) : aI σ k (gI σ k) = σ := S9ext (fun k' => by rw [gI_aI]; split <;> simp_all) (fun _ => rfl) (fun _ => rfl) (fun _ => rfl)
theorem aI_aI (σ : S9) (k : Nat) (f g : Int → Int) : aI (aI σ k f) k g = aI σ k g := S9ext (fun k' => by simp only [gI_aI]; split <;> rfl) (fun _ => rfl) (fun _ => rfl) (fun _ => rfl)
theorem aI_comm {σ : S9} {k k' : Nat} (h : k ≠ k') (f g : Int → Int) : aI (aI σ k f) k' g = aI (aI σ k' g) k f := S9ext (fun j => by simp only [gI_aI]; split <;> split <;> simp_all) (fun _ => rfl) (fun _ => rfl) (fun _ => rfl)
theorem aL_aL (σ : S9) (k : Nat) (f g : Int → Int) : aL (aL σ k f) k g = aL σ k g := S9ext (fun _ => rfl) (fun k' => by simp only [gL_aL]; split <;> rfl) (fun _ => rfl) (fun _ => rfl)
theorem aL_same (σ : S9) (k : Nat) : aL σ k (gL σ k) = σ := S9ext (fun _ => rfl) (fun k' => by rw [gL_aL]; split <;> simp_all) (fun _ => rfl) (fun _ => rfl)
theorem aF_aF (σ : S9) (k : Nat) (f g : Int → UInt32) : aF (aF σ k f) k g = aF σ k g := S9ext (fun _ => rfl) (fun _ => rfl) (fun k' => by simp only [gF_aF]; split <;> rfl) (fun _ => rfl)
theorem aF_same (σ : S9) (k : Nat) : aF σ k (gF σ k) = σ := S9ext (fun _ => rfl) (fun _ => rfl) (fun k' => by rw [gF_aF]; split <;> simp_all) (fun _ => rfl)
theorem aD_aD (σ : S9) (k : Nat) (f g : Int → UInt64) : aD (aD σ k f) k g = aD σ k g := S9ext (fun _ => rfl) (fun _ => rfl) (fun _ => rfl) (fun k' => by simp only [gD_aD]; split <;> rfl)
theorem aD_same (σ : S9) (k : Nat) : aD σ k (gD σ k) = σ := S9ext (fun _ => rfl) (fun _ => rfl) (fun _ => rfl) (fun k' => by rw [gD_aD]; split <;> simp_all)
theorem aL_aI (σ : S9) (k k' : Nat) (f g : Int → Int) : aL (aI σ k f) k' g = aI (aL σ k' g) k f := rfl
theorem aF_aI (σ : S9) (k k' : Nat) (f : Int → Int) (g : Int → UInt32) : aF (aI σ k f) k' g = aI (aF σ k' g) k f := rfl
theorem aD_aI (σ : S9) (k k' : Nat) (f : Int → Int) (g : Int → UInt64) : aD (aI σ k f) k' g = aI (aD σ k' g) k f := rfl
theorem aF_aL (σ : S9) (k k' : Nat) (f : Int → Int) (g : Int → UInt32) : aF (aL σ k f) k' g = aL (aF σ k' g) k f := rfl
theorem aD_aL (σ : S9) (k k' : Nat) (f : Int → Int) (g : Int → UInt64) : aD (aL σ k f) k' g = aL (aD σ k' g) k f := rfl
theorem aD_aF (σ : S9) (k k' : Nat) (f : Int → UInt32) (g : Int → UInt64) : aD (aF σ k f) k' g = aF (aD σ k' g) k f := rfl
/-- a row with the places from c to c + k made v -/
def fil9 {α : Type} (f : Int → α) (c k : Int) (v : α) : Int → α := fun j => if c ≤ j ∧ j < c + k then v else f j
theorem fil9_0 {α : Type} (f : Int → α) (c : Int) (v : α) : fil9 f c 0 v = f := by
  funext j
  unfold fil9
  rw [if_neg (by omega)]
theorem fil9_s {α : Type} (f : Int → α) (c : Int) {k : Int} (hk : 0 ≤ k) (v : α) : up9 (fil9 f c k v) (c + k) v = fil9 f c (k + 1) v := by
  funext j
  unfold fil9 up9
  by_cases h : j = c + k
  · rw [if_pos h, if_pos (by omega)]
  · rw [if_neg h]
    show (if c ≤ j ∧ j < c + k then v else f j) = _
    by_cases h2 : c ≤ j ∧ j < c + k
    · rw [if_pos h2, if_pos (by omega)]
    · rw [if_neg h2, if_neg (by omega)]
theorem up9_up9 {α : Type} (f : Int → α) (i : Int) (x y : α) : up9 (up9 f i x) i y = up9 f i y := by
  funext j
  unfold up9
  split <;> rfl
section
variable {d : Nat} {σ : S9}
theorem c_X1_consume {c : Int} {R : Int → S9 → Prop} (hc : gI σ 31 0 = c) (h : R c (sI σ 31 0 0)) : Cc d mX1_consume [.ref 31] σ (QI R) := by
  refine Cc_of (by decide +kernel) (fun _ => Nat.le_of_ble_eq_true rfl) rfl (lv := [_, _]) ?_
  refine v_aload_n dX1_consume_0 rfl ?_
  refine v_getI (ji := 0) dX1_consume_1 s_31 fX1_9 rfl ?_
  rw [hc]
  refine v_istore_n (lv' := [_, _]) dX1_consume_4 (Nat.le_of_ble_eq_true rfl) rfl rfl ?_
  refine v_aload_n dX1_consume_5 rfl ?_
  refine v_iconst dX1_consume_6 ?_
  refine v_putI (ji := 0) dX1_consume_7 s_31 pfX1_9 rfl ?_
  refine v_iload_n dX1_consume_10 rfl ?_
  exact v_ireturn dX1_consume_11 rfl (h)
theorem c_X1_put {c v k : Int} {R : Int → S9 → Prop} (hc : gI σ 31 0 = c) (hcb : 0 ≤ c ∧ c ≤ 40) (hv : 0 ≤ v ∧ v ≤ 127) (hk : 1 ≤ k ∧ k ≤ 40) (h1 : c + k ≤ 40 → R 1 (sI (aI σ 32 (fil9 (gI σ 32) c k v)) 31 0 (c + k))) (h0 : ¬ c + k ≤ 40 → R 0 σ) : Cc d mX1_put [.ref 31, .int (iI v), .int (iI k)] σ (QI R) := by
  refine Cc_of (by decide +kernel) (fun _ => Nat.le_of_ble_eq_true rfl) rfl (lv := [_, _, _, _]) ?_
  have K : ∀ (m : Nat) (j : Int), 0 ≤ j → j + m = k → c + k ≤ 40 → Vv d mX1_put 15 [.ref 31, .int (iI v), .int (iI k), .int (iI j)] [] (sI (aI σ 32 (fil9 (gI σ 32) c j v)) 31 0 (c + j)) (QI R) := by
    intro m
    induction m with
    | zero =>
      intro j hj hm hk2
      have ej : j = k := by omega
      subst ej
      refine v_iload_n dX1_put_15 rfl ?_
      refine v_iload_n dX1_put_16 rfl ?_
      refine v_icmp_ge (tgt := 47) dX1_put_17 (by decide) (by omega) (fun h17 => ?_) (fun h17 => absurd h17 (by omega))
      refine v_iconst dX1_put_47 ?_
      exact v_zreturn dX1_put_48 rfl (by decide) (h1 hk2)
    | succ m ih =>
      intro j hj hm hk2
      have g1 : gI (sI (aI σ 32 (fil9 (gI σ 32) c j v)) 31 0 (c + j)) 31 0 = c + j := by rw [gI_aI_eq, up9_eq]
      have g2 : gI (sI (aI σ 32 (fil9 (gI σ 32) c j v)) 31 0 (c + j)) 32 = fil9 (gI σ 32) c j v := by rw [gI_aI_ne (by decide), gI_aI_eq]
      have g3 : sI (sI (sI (aI σ 32 (fil9 (gI σ 32) c j v)) 31 0 (c + j)) 32 (c + j) v) 31 0 (c + j + 1) = sI (aI σ 32 (fil9 (gI σ 32) c (j + 1) v)) 31 0 (c + (j + 1)) := by
        rw [show c + (j + 1) = c + j + 1 by omega]
        unfold sI
        rw [g2, fil9_s _ _ hj, aI_comm (k := 31) (k' := 32) (by decide), aI_aI, aI_aI]
        congr 1
        simp only [gI_aI]
        simp [up9_up9]
      refine v_iload_n dX1_put_15 rfl ?_
      refine v_iload_n dX1_put_16 rfl ?_
      refine v_icmp_ge (tgt := 47) dX1_put_17 (by decide) (by omega) (fun h17 => absurd h17 (by omega)) (fun h17 => ?_)
      refine v_aload_n dX1_put_20 rfl ?_
      refine v_getR (k1 := 32) dX1_put_21 s_31 fX1_15 rfl ?_
      refine v_aload_n dX1_put_24 rfl ?_
      refine v_getI (ji := 0) dX1_put_25 s_31 fX1_9 rfl ?_
      refine v_iload_n dX1_put_28 rfl ?_
      refine v_i2b dX1_put_29 (by omega) ?_
      refine v_bastore dX1_put_30 s_32 (by omega) (by omega) ?_
      refine v_aload_n dX1_put_31 rfl ?_
      refine v_dup dX1_put_32 rfl ?_
      refine v_getI (ji := 0) dX1_put_33 s_31 fX1_9 rfl ?_
      refine v_iconst dX1_put_36 ?_
      rw [gI_aI_ne (by decide), g1]
      refine v_iadd dX1_put_37 ?_
      refine v_putI (ji := 0) dX1_put_38 s_31 pfX1_9 rfl ?_
      refine v_iinc (lv' := [_, _, _, _]) dX1_put_41 rfl (Nat.le_of_ble_eq_true rfl) rfl rfl ?_
      refine v_goto (tgt := 15) dX1_put_44 (by decide) ?_
      rw [g3]
      exact ih (j + 1) (by omega) (by omega) hk2
  refine v_iload_n dX1_put_0 rfl ?_
  refine v_bipush dX1_put_1 (by decide) ?_
  refine v_aload_n dX1_put_3 rfl ?_
  refine v_getI (ji := 0) dX1_put_4 s_31 fX1_9 rfl ?_
  rw [hc]
  refine v_isub dX1_put_7 ?_
  refine v_icmp_le (tgt := 13) dX1_put_8 (by decide) (by omega) (fun h8 => ?_) (fun h8 => ?_)
  · refine v_iconst dX1_put_13 ?_
    refine v_istore_n (lv' := [_, _, _, _]) dX1_put_14 (Nat.le_of_ble_eq_true rfl) rfl rfl ?_
    have := K k.toNat 0 (by omega) (by omega) (by omega)
    rw [fil9_0, aI_same, Int.add_zero, ← hc] at this
    have e : sI σ 31 0 (gI σ 31 0) = σ := by
      have e2 : up9 (gI σ 31) 0 (gI σ 31 0) = gI σ 31 := by funext j; unfold up9; split <;> simp_all
      unfold sI; rw [e2, aI_same]
    rw [e] at this
    exact this
  · refine v_iconst dX1_put_11 ?_
    exact v_zreturn dX1_put_12 rfl (by decide) (h0 (by omega))
theorem c_X1_find {v n : Int} {R : Int → S9 → Prop} (hn : 0 ≤ n ∧ n ≤ 40) (hv : 0 ≤ v ∧ v ≤ 127) (hb : ∀ j, 0 ≤ j → j < n → 0 ≤ gI σ 32 j ∧ gI σ 32 j ≤ 127) (h1 : ∀ k, 0 ≤ k → k < n → gI σ 32 k = v → (∀ j, 0 ≤ j → j < k → gI σ 32 j ≠ v) → R k σ) (h0 : (∀ j, 0 ≤ j → j < n → gI σ 32 j ≠ v) → R (-1) σ) : Cc d mX1_find [.ref 31, .int (iI v), .int (iI n)] σ (QI R) := by
  refine Cc_of (by decide +kernel) (fun _ => Nat.le_of_ble_eq_true rfl) rfl (lv := [_, _, _, _]) ?_
  have K : ∀ (m : Nat) (k : Int), 0 ≤ k → k + m = n → (∀ j, 0 ≤ j → j < k → gI σ 32 j ≠ v) → Vv d mX1_find 2 [.ref 31, .int (iI v), .int (iI n), .int (iI k)] [] σ (QI R) := by
    intro m
    induction m with
    | zero =>
      intro k hk hm hI
      refine v_iload_n dX1_find_2 rfl ?_
      refine v_iload_n dX1_find_3 rfl ?_
      refine v_icmp_ge (tgt := 25) dX1_find_4 (by decide) (by omega) (fun h4 => ?_) (fun h4 => absurd h4 (by omega))
      refine v_iconst dX1_find_25 ?_
      exact v_ireturn dX1_find_26 rfl (h0 (fun j a1 a2 => hI j a1 (by omega)))
    | succ m ih =>
      intro k hk hm hI
      have hbk := hb k (by omega) (by omega)
      refine v_iload_n dX1_find_2 rfl ?_
      refine v_iload_n dX1_find_3 rfl ?_
      refine v_icmp_ge (tgt := 25) dX1_find_4 (by decide) (by omega) (fun h4 => absurd h4 (by omega)) (fun h4 => ?_)
      refine v_aload_n dX1_find_7 rfl ?_
      refine v_getR (k1 := 32) dX1_find_8 s_31 fX1_15 rfl ?_
      refine v_iload_n dX1_find_11 rfl ?_
      refine v_baload dX1_find_12 s_32 (by omega) ?_
      refine v_iload_n dX1_find_13 rfl ?_
      refine v_icmp_ne (tgt := 19) dX1_find_14 (by decide) (by omega) (fun h14 => ?_) (fun h14 => ?_)
      · refine v_iinc (lv' := [_, _, _, _]) dX1_find_19 rfl (Nat.le_of_ble_eq_true rfl) rfl rfl ?_
        refine v_goto (tgt := 2) dX1_find_22 (by decide) ?_
        exact ih (k + 1) (by omega) (by omega) (fun j a1 a2 => if e : j = k then (by rw [e]; exact h14) else hI j a1 (by omega))
      · refine v_iload_n dX1_find_17 rfl ?_
        exact v_ireturn dX1_find_18 rfl (h1 k hk (by omega) h14 hI)
  refine v_iconst dX1_find_0 ?_
  refine v_istore_n (lv' := [_, _, _, _]) dX1_find_1 (Nat.le_of_ble_eq_true rfl) rfl rfl ?_
  exact K n.toNat 0 (by omega) (by omega) (fun j a1 a2 => by omega)
/-- the letters that some bytes spell -/
def seg9 (f : Int → Int) (a : Int) (n : Nat) : List Int := (List.range n).map (fun i : Nat => f (a + (i : Int)) - 97)
theorem seg9_len (f : Int → Int) (a : Int) (n : Nat) : (seg9 f a n).length = n := by unfold seg9; rw [List.length_map, List.length_range]
theorem seg9_s (f : Int → Int) (a : Int) (n : Nat) : seg9 f a (n + 1) = seg9 f a n ++ [f (a + n) - 97] := by unfold seg9; rw [List.range_succ, List.map_append]; rfl
theorem seg9_mem {f : Int → Int} {a : Int} {n : Nat} {x : Int} (h : x ∈ seg9 f a n) : ∃ i : Nat, i < n ∧ x = f (a + i) - 97 := by
  unfold seg9 at h
  obtain ⟨i, h1, h2⟩ := List.mem_map.mp h
  exact ⟨i, List.mem_range.mp h1, h2.symm⟩
theorem seg9_congr {f g : Int → Int} {a : Int} {n : Nat} (h : ∀ i : Nat, i < n → f (a + i) = g (a + i)) : seg9 f a n = seg9 g a n := by
  unfold seg9
  exact List.map_congr_left (fun i hi => by rw [h i (List.mem_range.mp hi)])
theorem encW_nil : encW [] = 0 := by simp [encW, enc8]
theorem c_X1_read {a b most n : Int} {R : Int → S9 → Prop} (hab : 0 ≤ a ∧ a ≤ b ∧ b ≤ 40) (hm : 0 ≤ most ∧ most ≤ 12) (hn : 1 ≤ n ∧ n ≤ 6) (hb : ∀ j, a ≤ j → j < b → 0 ≤ gI σ 32 j ∧ gI σ 32 j ≤ 127)
    (h1 : b - a ≤ most → (∀ j, a ≤ j → j < b → 0 ≤ gI σ 32 j - 97 ∧ gI σ 32 j - 97 < n) → R (encW (seg9 (gI σ 32) a (b - a).toNat)) σ) (h0 : ¬ (b - a ≤ most ∧ ∀ j, a ≤ j → j < b → 0 ≤ gI σ 32 j - 97 ∧ gI σ 32 j - 97 < n) → R (-1) σ) : Cc (d + 3) mX1_read [.ref 31, .int (iI a), .int (iI b), .int (iI most), .int (iI n)] σ (QL R) := by
  refine Cc_of (by decide +kernel) (fun _ => Nat.le_of_ble_eq_true rfl) rfl (lv := [_, _, _, _, _, _, _, _, _]) ?_
  have K : ∀ (m : Nat) (k : Int) (v8 : Value), a ≤ k → k + m = b → b - a ≤ most → (∀ j, a ≤ j → j < k → 0 ≤ gI σ 32 j - 97 ∧ gI σ 32 j - 97 < n) → Vv (d + 3) mX1_read 17 [.ref 31, .int (iI a), .int (iI b), .int (iI most), .int (iI n), .long (lI (encW (seg9 (gI σ 32) a (k - a).toNat))), .null, .int (iI k), v8] [] σ (QL R) := by
    intro m
    induction m with
    | zero =>
      intro k v8 hk hm2 hle hI
      have ek : k = b := by omega
      subst ek
      refine v_iload dX1_read_17 rfl ?_
      refine v_iload_n dX1_read_19 rfl ?_
      refine v_icmp_ge (tgt := 66) dX1_read_20 (by decide) (by omega) (fun h20 => ?_) (fun h20 => absurd h20 (by omega))
      refine v_lload dX1_read_66 rfl ?_
      exact v_lreturn dX1_read_68 rfl (h1 hle hI)
    | succ m ih =>
      intro k v8 hk hm2 hle hI
      have hbk := hb k (by omega) (by omega)
      have es : seg9 (gI σ 32) a (k + 1 - a).toNat = seg9 (gI σ 32) a (k - a).toNat ++ [gI σ 32 k - 97] := by
        rw [show (k + 1 - a).toNat = (k - a).toNat + 1 by omega, seg9_s, show a + ((k - a).toNat : Int) = k by omega]
      refine v_iload dX1_read_17 rfl ?_
      refine v_iload_n dX1_read_19 rfl ?_
      refine v_icmp_ge (tgt := 66) dX1_read_20 (by decide) (by omega) (fun h20 => absurd h20 (by omega)) (fun h20 => ?_)
      refine v_aload_n dX1_read_23 rfl ?_
      refine v_getR (k1 := 32) dX1_read_24 s_31 fX1_15 rfl ?_
      refine v_iload dX1_read_27 rfl ?_
      refine v_baload dX1_read_29 s_32 (by omega) ?_
      refine v_bipush dX1_read_30 (by decide) ?_
      refine v_isub dX1_read_32 ?_
      refine v_istore (lv' := [_, _, _, _, _, _, _, _, _]) dX1_read_33 (Nat.le_of_ble_eq_true rfl) rfl rfl ?_
      refine v_iload dX1_read_35 rfl ?_
      refine v_if_lt (tgt := 47) dX1_read_37 (by decide) (by omega) (fun h37 => ?_) (fun h37 => ?_)
      · refine v_ldc2 dX1_read_47 wX1_19 ?_
        exact v_lreturn dX1_read_50 rfl (h0 (fun z => by have := z.2 k (by omega) (by omega); omega))
      · refine v_iload dX1_read_40 rfl ?_
        refine v_iload dX1_read_42 rfl ?_
        refine v_icmp_lt (tgt := 51) dX1_read_44 (by decide) (by omega) (fun h44 => ?_) (fun h44 => ?_)
        · refine v_lload dX1_read_51 rfl ?_
          refine v_iload dX1_read_53 rfl ?_
          refine v_callSl2 dX1_read_55 kX1_21 (Nat.le_of_ble_eq_true rfl) (c_X8_extended (σ := σ) (xs := seg9 (gI σ 32) a (k - a).toNat) (x := gI σ 32 k - 97) ⟨fun x hx => by rw [← es] at hx; obtain ⟨i, hi, rfl⟩ := seg9_mem hx; exact (if e : a + i = k then (by rw [e]; omega) else (by have := hI (a + i) (by omega) (by omega); omega)), by rw [← es, seg9_len]; omega⟩ ?_)
          refine v_lstore (lv' := [_, _, _, _, _, _, _, _, _]) dX1_read_58 (Nat.le_of_ble_eq_true rfl) rfl rfl ?_
          refine v_iinc (lv' := [_, _, _, _, _, _, _, _, _]) dX1_read_60 rfl (Nat.le_of_ble_eq_true rfl) rfl rfl ?_
          refine v_goto (tgt := 17) dX1_read_63 (by decide) ?_
          have := ih (k + 1) (.int (iI (gI σ 32 k - 97))) (by omega) (by omega) hle (fun j a1 a2 => if e : j = k then (by subst e; omega) else hI j a1 (by omega))
          rw [es] at this
          exact this
        · refine v_ldc2 dX1_read_47 wX1_19 ?_
          exact v_lreturn dX1_read_50 rfl (h0 (fun z => by have := z.2 k (by omega) (by omega); omega))
  refine v_iload_n dX1_read_0 rfl ?_
  refine v_iload_n dX1_read_1 rfl ?_
  refine v_isub dX1_read_2 ?_
  refine v_iload_n dX1_read_3 rfl ?_
  refine v_icmp_le (tgt := 11) dX1_read_4 (by decide) (by omega) (fun h4 => ?_) (fun h4 => ?_)
  · refine v_lconst0 dX1_read_11 ?_
    refine v_lstore (lv' := [_, _, _, _, _, _, _, _, _]) dX1_read_12 (Nat.le_of_ble_eq_true rfl) rfl rfl ?_
    refine v_iload_n dX1_read_14 rfl ?_
    refine v_istore (lv' := [_, _, _, _, _, _, _, _, _]) dX1_read_15 (Nat.le_of_ble_eq_true rfl) rfl rfl ?_
    have := K (b - a).toNat a .null (by omega) (by omega) (by omega) (fun j a1 a2 => by omega)
    rw [show (a - a).toNat = 0 by omega, show seg9 (gI σ 32) a 0 = [] from rfl, encW_nil] at this
    exact this
  · refine v_ldc2 dX1_read_7 wX1_19 ?_
    exact v_lreturn dX1_read_10 rfl (h0 (fun z => by omega))
end
