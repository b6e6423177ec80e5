/-! ===== strings as lists of letters, and as numbers of digits 0 to 7 ===== -/
def enc8 : List Int → Int
  | [] => 0
  | x :: xs => x * 8 ^ xs.length + enc8 xs
def Lt8 (xs : List Int) : Prop := ∀ x ∈ xs, 0 ≤ x ∧ x < 8
def St (xs : List Int) : Prop := Lt8 xs ∧ xs.length ≤ 12
def encW (xs : List Int) : Int := xs.length * 68719476736 + enc8 xs
theorem enc8_app (a b : List Int) : enc8 (a ++ b) = enc8 a * 8 ^ b.length + enc8 b := by
  induction a with
  | nil => simp [enc8]
  | cons x a ih =>
    show x * 8 ^ (a ++ b).length + enc8 (a ++ b) = (x * 8 ^ a.length + enc8 a) * 8 ^ b.length + enc8 b
    rw [ih, List.length_append, Int.pow_add, Int.add_mul, Int.mul_assoc, Int.add_assoc]
theorem p8_pos (n : Nat) : (0 : Int) < 8 ^ n := Int.pow_pos (by decide)
theorem enc8_bd : ∀ {xs : List Int}, Lt8 xs → 0 ≤ enc8 xs ∧ enc8 xs < 8 ^ xs.length
  | [], _ => by simp [enc8]
  | x :: xs, h => by
    have ih := enc8_bd (fun y hy => h y (List.mem_cons_of_mem _ hy))
    have hx := h x List.mem_cons_self
    have hp := p8_pos xs.length
    show 0 ≤ x * 8 ^ xs.length + enc8 xs ∧ x * 8 ^ xs.length + enc8 xs < 8 ^ (xs.length + 1)
    rw [Int.pow_succ]
    generalize (8 : Int) ^ xs.length = q at *
    have h1 : 0 ≤ x * q := Int.mul_nonneg hx.1 (by omega)
    have h2 : x * q ≤ 7 * q := Int.mul_le_mul_of_nonneg_right (by omega) (by omega)
    omega
theorem Lt8.app {a b : List Int} (ha : Lt8 a) (hb : Lt8 b) : Lt8 (a ++ b) := fun x hx => (List.mem_append.mp hx).elim (ha x) (hb x)
theorem Lt8.take {a : List Int} (h : Lt8 a) (n : Nat) : Lt8 (a.take n) := fun x hx => h x (List.mem_of_mem_take hx)
theorem Lt8.drop {a : List Int} (h : Lt8 a) (n : Nat) : Lt8 (a.drop n) := fun x hx => h x (List.mem_of_mem_drop hx)
theorem enc8_div {xs : List Int} (h : Lt8 xs) (k : Nat) : enc8 xs / 8 ^ (xs.drop k).length = enc8 (xs.take k) := by
  have e : enc8 xs = enc8 (xs.take k) * 8 ^ (xs.drop k).length + enc8 (xs.drop k) := by rw [← enc8_app, List.take_append_drop]
  have b := enc8_bd (h.drop k)
  rw [e, Int.add_comm, Int.add_mul_ediv_right _ _ (by have := p8_pos (xs.drop k).length; omega), Int.ediv_eq_zero_of_lt b.1 b.2, Int.zero_add]
theorem enc8_mod {xs : List Int} (h : Lt8 xs) (k : Nat) : enc8 xs % 8 ^ (xs.drop k).length = enc8 (xs.drop k) := by
  have e : enc8 xs = enc8 (xs.take k) * 8 ^ (xs.drop k).length + enc8 (xs.drop k) := by rw [← enc8_app, List.take_append_drop]
  have b := enc8_bd (h.drop k)
  rw [e, Int.add_comm, Int.add_mul_emod_self_right, Int.emod_eq_of_lt b.1 b.2]
theorem enc8_inj : ∀ {a b : List Int}, Lt8 a → Lt8 b → a.length = b.length → enc8 a = enc8 b → a = b
  | [], [], _, _, _, _ => rfl
  | x :: a, y :: b, ha, hb, hl, he => by
    have hl' : a.length = b.length := by simpa using hl
    have h1 := enc8_bd (fun z hz => ha z (List.mem_cons_of_mem _ hz))
    have h2 := enc8_bd (fun z hz => hb z (List.mem_cons_of_mem _ hz))
    have he' : x * 8 ^ a.length + enc8 a = y * 8 ^ b.length + enc8 b := he
    rw [← hl'] at he' h2
    have hp := p8_pos a.length
    have hxy : x = y := by
      have e1 : (x * 8 ^ a.length + enc8 a) / 8 ^ a.length = x := by rw [Int.add_comm, Int.add_mul_ediv_right _ _ (by omega), Int.ediv_eq_zero_of_lt h1.1 h1.2, Int.zero_add]
      have e2 : (y * 8 ^ a.length + enc8 b) / 8 ^ a.length = y := by rw [Int.add_comm, Int.add_mul_ediv_right _ _ (by omega), Int.ediv_eq_zero_of_lt h2.1 h2.2, Int.zero_add]
      rw [← e1, he', e2]
    subst hxy
    have : enc8 a = enc8 b := by omega
    rw [enc8_inj (fun z hz => ha z (List.mem_cons_of_mem _ hz)) (fun z hz => hb z (List.mem_cons_of_mem _ hz)) hl' this]
theorem p8_le {n : Nat} (h : n ≤ 12) : (8 : Int) ^ n ≤ 68719476736 := by
  have h1 : 8 ^ n ≤ 8 ^ 12 := Nat.pow_le_pow_right (by decide) h
  have h2 : ((8 ^ n : Nat) : Int) ≤ ((8 ^ 12 : Nat) : Int) := Int.ofNat_le.mpr h1
  simpa using h2
theorem St.bd {xs : List Int} (h : St xs) : 0 ≤ enc8 xs ∧ enc8 xs < 68719476736 := by
  have h1 := enc8_bd h.1
  have h2 := p8_le h.2
  omega
theorem St.bdW {xs : List Int} (h : St xs) : 0 ≤ encW xs ∧ encW xs < 893353197568 := by
  have h1 := h.bd
  have h2 := h.2
  unfold encW
  omega
theorem St.nil : St [] := ⟨(fun _ h => by cases h), by simp⟩
theorem encW_div {xs : List Int} (h : St xs) : encW xs / 68719476736 = xs.length := by
  have h1 := h.bd
  unfold encW
  omega
theorem encW_mod {xs : List Int} (h : St xs) : encW xs % 68719476736 = enc8 xs := by
  have h1 := h.bd
  unfold encW
  omega
theorem encW_inj {a b : List Int} (ha : St a) (hb : St b) (h : encW a = encW b) : a = b := by
  have h1 := encW_div ha
  have h2 := encW_div hb
  have h3 := encW_mod ha
  have h4 := encW_mod hb
  rw [h] at h1 h3
  have hl : a.length = b.length := by omega
  exact enc8_inj ha.1 hb.1 hl (by omega)
/-- the letter at a place -/
def at9 (xs : List Int) (p : Int) : Int := xs.getD p.toNat 0
theorem at9_bd {xs : List Int} (h : Lt8 xs) (p : Int) : 0 ≤ at9 xs p ∧ at9 xs p < 8 := by
  unfold at9
  rw [List.getD_eq_getElem?_getD]
  cases hc : xs[p.toNat]? with
  | none => simp
  | some x => exact h x (List.mem_of_getElem? hc)
theorem at9_mem {xs : List Int} {p : Int} (h : 0 ≤ p ∧ p < xs.length) : at9 xs p ∈ xs := by
  unfold at9
  rw [List.getD_eq_getElem?_getD, List.getElem?_eq_getElem (by omega)]
  exact List.getElem_mem _
theorem p2_8 (k : Int) (h : 0 ≤ k) : (2 : Int) ^ (3 * k).toNat = 8 ^ k.toNat := by
  rw [show (3 * k).toNat = 3 * k.toNat by omega, Int.pow_mul]
  rfl
theorem p2_81 (k : Int) (h : 0 ≤ k) : 1 * (2 : Int) ^ (3 * k).toNat - 1 = 2 ^ (3 * k.toNat) - 1 := by
  rw [show (3 * k).toNat = 3 * k.toNat by omega, Int.one_mul]
theorem enc8_at {xs : List Int} (h : Lt8 xs) {p : Int} (hp : 0 ≤ p ∧ p < xs.length) : enc8 xs / 8 ^ ((xs.length : Int) - 1 - p).toNat % 8 = at9 xs p := by
  have h1 := enc8_div h (p.toNat + 1)
  have hl : (xs.drop (p.toNat + 1)).length = ((xs.length : Int) - 1 - p).toNat := by rw [List.length_drop]; omega
  rw [← hl, h1]
  have hlt : p.toNat < xs.length := by omega
  have h2 := enc8_mod (h.take (p.toNat + 1)) p.toNat
  have e : (xs.take (p.toNat + 1)).drop p.toNat = [at9 xs p] := by
    unfold at9
    rw [List.drop_take, show p.toNat + 1 - p.toNat = 1 by omega, List.drop_eq_getElem_cons hlt, List.take_succ_cons, List.take_zero, List.getD_eq_getElem?_getD, List.getElem?_eq_getElem hlt]
    rfl
  rw [e] at h2
  have h3 : enc8 [at9 xs p] = at9 xs p := by simp [enc8]
  rw [h3] at h2
  exact h2
theorem encW_at {xs : List Int} (h : St xs) {p : Int} (hp : 0 ≤ p ∧ p < xs.length) : encW xs / 8 ^ ((xs.length : Int) - 1 - p).toNat % 8 = at9 xs p := by
  have hk : ((xs.length : Int) - 1 - p).toNat < 12 := by have := h.2; omega
  rw [← enc8_at h.1 hp]
  unfold encW
  generalize ((xs.length : Int) - 1 - p).toNat = k at *
  have e : (68719476736 : Int) = 8 ^ (11 - k) * 8 * 8 ^ k := by
    have : (8 : Int) ^ 12 = 8 ^ (11 - k) * 8 * 8 ^ k := by
      rw [← Int.pow_succ, ← Int.pow_add, show 11 - k + 1 + k = 12 by omega]
    rw [← this]
    rfl
  rw [e, ← Int.mul_assoc, Int.add_comm, Int.add_mul_ediv_right _ _ (by have := p8_pos k; omega), ← Int.mul_assoc, Int.add_mul_emod_self_right]
/-! ===== the class Word ===== -/
section
variable {d : Nat} {σ : S9}
theorem c_X8_sizeOf {xs : List Int} {R : Int → S9 → Prop} (hx : St xs) (h : R xs.length σ) : Cc d mX8_sizeOf [.long (lI (encW xs))] σ (QI R) := by
  have hb := hx.bdW
  have hd := encW_div hx
  have hl := hx.2
  refine Cc_of (by decide +kernel) (fun _ => Nat.le_of_ble_eq_true rfl) rfl (lv := [_, _]) ?_
  have e : encW xs / 2 ^ (36 : Int).toNat % 2 ^ 4 = xs.length := by
    show encW xs / 68719476736 % 16 = _
    omega
  refine v_lload_n dX8_sizeOf_0 rfl ?_
  refine v_bipush dX8_sizeOf_1 (by decide) ?_
  refine v_lushr dX8_sizeOf_3 (lushr9 (by omega) (by decide)) ?_
  refine v_l2i dX8_sizeOf_4 ?_
  refine v_bipush dX8_sizeOf_5 (by decide) ?_
  refine v_iand dX8_sizeOf_7 (iand9 4 (by show 0 ≤ encW xs / 68719476736; omega) (by decide) rfl) ?_
  exact v_ireturn dX8_sizeOf_8 rfl (by rw [e]; exact h)
theorem c_X8_letterAt {xs : List Int} {p : Int} {R : Int → S9 → Prop} (hx : St xs) (hp : 0 ≤ p ∧ p < xs.length) (h : R (at9 xs p) σ) : Cc (d + 1) mX8_letterAt [.long (lI (encW xs)), .int (iI p)] σ (QI R) := by
  have hb := hx.bdW
  have hl := hx.2
  have e := encW_at hx hp
  refine Cc_of (by decide +kernel) (fun _ => Nat.le_of_ble_eq_true rfl) rfl (lv := [_, _, _]) ?_
  have e2 := p2_8 ((xs.length : Int) - 1 - p) (by omega)
  refine v_lload_n dX8_letterAt_0 rfl ?_
  refine v_iconst dX8_letterAt_1 ?_
  refine v_lload_n dX8_letterAt_2 rfl ?_
  refine v_callSi1 dX8_letterAt_3 kX8_9 (Nat.le_of_ble_eq_true rfl) (c_X8_sizeOf hx ?_)
  refine v_iconst dX8_letterAt_6 ?_
  refine v_isub dX8_letterAt_7 ?_
  refine v_iload_n dX8_letterAt_8 rfl ?_
  refine v_isub dX8_letterAt_9 ?_
  refine v_imul dX8_letterAt_10 ?_
  refine v_lushr dX8_letterAt_11 (lushr9 (by omega) (by omega)) ?_
  refine v_l2i dX8_letterAt_12 ?_
  refine v_bipush dX8_letterAt_13 (by decide) ?_
  refine v_iand dX8_letterAt_15 (iand9 3 (by rw [e2]; exact Int.ediv_nonneg hb.1 (by have := p8_pos ((xs.length : Int) - 1 - p).toNat; omega)) (by decide) rfl) ?_
  exact v_ireturn dX8_letterAt_16 rfl (by rw [e2]; show R (_ % 8) σ; rw [e]; exact h)
theorem c_X8_lowest {a k : Int} {R : Int → S9 → Prop} (ha : 0 ≤ a ∧ a < 9223372036854775808) (hk : 0 ≤ k ∧ k ≤ 12) (h : R (a % 8 ^ k.toNat) σ) : Cc d mX8_lowest [.long (lI a), .int (iI k)] σ (QL R) := by
  refine Cc_of (by decide +kernel) (fun _ => Nat.le_of_ble_eq_true rfl) rfl (lv := [_, _, _]) ?_
  have e : (2 : Int) ^ (3 * k.toNat) = 8 ^ k.toNat := by rw [Int.pow_mul]; rfl
  refine v_lload_n dX8_lowest_0 rfl ?_
  refine v_lconst1 dX8_lowest_1 ?_
  refine v_iconst dX8_lowest_2 ?_
  refine v_iload_n dX8_lowest_3 rfl ?_
  refine v_imul dX8_lowest_4 ?_
  refine v_lshl dX8_lowest_5 (lshl9 (by decide) (by omega)) ?_
  refine v_lconst1 dX8_lowest_6 ?_
  refine v_lsub dX8_lowest_7 ?_
  refine v_land dX8_lowest_8 (land9 (3 * k.toNat) ha (by omega) (p2_81 k hk.1)) ?_
  exact v_lreturn dX8_lowest_9 rfl (by rw [e]; exact h)
theorem c_X8_lettersOf {xs : List Int} {R : Int → S9 → Prop} (hx : St xs) (h : R (enc8 xs) σ) : Cc (d + 1) mX8_lettersOf [.long (lI (encW xs))] σ (QL R) := by
  have hb := hx.bdW
  have e := encW_mod hx
  refine Cc_of (by decide +kernel) (fun _ => Nat.le_of_ble_eq_true rfl) rfl (lv := [_, _]) ?_
  refine v_lload_n dX8_lettersOf_0 rfl ?_
  refine v_bipush dX8_lettersOf_1 (by decide) ?_
  refine v_callSl2 dX8_lettersOf_3 kX8_15 (Nat.le_of_ble_eq_true rfl) (c_X8_lowest (by omega) (by decide) ?_)
  exact v_lreturn dX8_lettersOf_6 rfl (by show R (encW xs % 68719476736) σ; rw [e]; exact h)
theorem c_X8_make {s a : Int} {R : Int → S9 → Prop} (hs : 0 ≤ s ∧ s ≤ 15) (ha : 0 ≤ a ∧ a < 68719476736) (h : R (s * 68719476736 + a) σ) : Cc d mX8_make [.int (iI s), .long (lI a)] σ (QL R) := by
  refine Cc_of (by decide +kernel) (fun _ => Nat.le_of_ble_eq_true rfl) rfl (lv := [_, _, _]) ?_
  refine v_iload_n dX8_make_0 rfl ?_
  refine v_i2l dX8_make_1 (by omega) ?_
  refine v_bipush dX8_make_2 (by decide) ?_
  refine v_lshl dX8_make_4 (lshl9 (by omega) (by decide)) ?_
  refine v_lload_n dX8_make_5 rfl ?_
  refine v_lor dX8_make_6 (lor9 36 (by decide) (by show 0 ≤ s * 68719476736; omega) (by show 0 ≤ a ∧ a < 68719476736; exact ha) (by show s * 68719476736 % 68719476736 = 0; omega) (by show s * 68719476736 + a < _; omega)) ?_
  exact v_lreturn dX8_make_7 rfl (h)
theorem c_X8_extended {xs : List Int} {x : Int} {R : Int → S9 → Prop} (hx : St (xs ++ [x])) (h : R (encW (xs ++ [x])) σ) : Cc (d + 2) mX8_extended [.long (lI (encW xs)), .int (iI x)] σ (QL R) := by
  have hl : xs.length < 12 := by have := hx.2; simp at this; omega
  have hxs : St xs := ⟨fun y hy => hx.1 y (List.mem_append_left _ hy), by omega⟩
  have h0 := hx.1 x (by simp)
  have hb := hxs.bd
  have hb2 := enc8_bd hxs.1
  have hp := p8_le (n := xs.length) (by omega)
  have hp1 := p8_le (n := xs.length + 1) (by omega)
  rw [Int.pow_succ] at hp1
  have e : encW (xs ++ [x]) = ((xs.length : Int) + 1) * 68719476736 + (enc8 xs * 2 ^ (3 : Int).toNat + x) := by
    unfold encW
    rw [enc8_app]
    simp [enc8]
  refine Cc_of (by decide +kernel) (fun _ => Nat.le_of_ble_eq_true rfl) rfl (lv := [_, _, _]) ?_
  have e8 : enc8 xs * 2 ^ (3 : Int).toNat = enc8 xs * 8 := rfl
  refine v_lload_n dX8_extended_0 rfl ?_
  refine v_callSi1 dX8_extended_1 kX8_9 (Nat.le_of_ble_eq_true rfl) (c_X8_sizeOf hxs ?_)
  refine v_iconst dX8_extended_4 ?_
  refine v_iadd dX8_extended_5 ?_
  refine v_lload_n dX8_extended_6 rfl ?_
  refine v_callSl1 dX8_extended_7 kX8_19 (Nat.le_of_ble_eq_true rfl) (c_X8_lettersOf hxs ?_)
  refine v_iconst dX8_extended_10 ?_
  refine v_lshl dX8_extended_11 (lshl9 (by omega) (by decide)) ?_
  refine v_iload_n dX8_extended_12 rfl ?_
  refine v_i2l dX8_extended_13 (by omega) ?_
  refine v_lor dX8_extended_14 (lor9 3 (by decide) (by omega) (by show 0 ≤ x ∧ x < 8; exact h0) (by show enc8 xs * 8 % 8 = 0; omega) (by omega)) ?_
  refine v_callSl2 dX8_extended_15 kX8_23 (Nat.le_of_ble_eq_true rfl) (c_X8_make (by omega) (by omega) ?_)
  exact v_lreturn dX8_extended_18 rfl (by rw [← e]; exact h)
end
