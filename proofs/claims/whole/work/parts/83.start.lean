/-! ===== the invariant holds behind the constructors ===== -/
theorem nat8 {P : Int → Prop} {n : Nat} (h : ∀ x : Nat, x < n → P (x : Int)) : ∀ x : Int, 0 ≤ x → x < n → P x := fun x h1 h2 => by
  have := h x.toNat (by omega)
  rwa [Int.toNat_of_nonneg h1] at this
theorem sgF_w : ∀ x : Nat, x < 8 → gI sgF 13 (x : Int) = 1 ∧ gI sgF 14 (x : Int) = 0 ∧ gF sgF 15 (x : Int) = 0x3f800000 := by decide +kernel
theorem sgF_m : ∀ x : Nat, x < 6 → gI sgF 100 (x : Int) = 1 ∧ gI sgF 101 (x : Int) = 0 ∧ gF sgF 102 (x : Int) = 0x3f800000 := by decide +kernel
theorem sgF_s : ∀ i : Nat, i < 4 → gI sgF 107 (i : Int) = -1 ∧ gI sgF (81 + 4 * i) 0 = -1 ∧ gI sgF (81 + 4 * i) 1 = 0 := by decide +kernel
theorem sgF_z : ∀ x : Nat, x < 8 → gI sgF 66 (x : Int) = 0 := by decide +kernel
theorem sgF_c : gI sgF 1 0 = 3 ∧ gI sgF 1 1 = 0 ∧ gI sgF 1 7 = 0 ∧ gL sgF 1 9 = 0 ∧ gI sgF 97 0 = 3 ∧ gI sgF 97 1 = 0 ∧ gI sgF 97 6 = 0 ∧ gI sgF 97 11 = 0 ∧ gI sgF 31 0 = 0 ∧ gI sgF 97 9 = 0 ∧ gI sgF 33 0 = 0 ∧ gI sgF 97 12 = 0 ∧ gI sgF 0 2 = 0 ∧ gI sgF 97 20 = 0 := by decide +kernel
theorem va8 : (0 ≤ (1 : Int) ∧ (1 : Int) ≤ 99) ∧ (0 ≤ (0 : Int) ∧ (0 : Int) ≤ 9) ∧ apOK 0x3f800000 := ⟨by decide, by decide, by decide +kernel, by decide +kernel⟩
theorem J9_F : J9 sgF := by
  obtain ⟨c1, c2, c3, c4, c5, c6, c7, c8, c9, c10, c11, c12, c13, c14⟩ := sgF_c
  refine ⟨⟨⟨3, 0, fun _ => [], fun _ => [], fun _ => 1, fun _ => 0, 0, fun _ => 0x3f800000, [], ⟨by decide, by decide, fun r h1 h2 => by omega, fun x _ _ => va8, by decide, ⟨(fun x hx => by cases hx), by decide⟩⟩, ⟨c1, c2, c3, c4, fun r h1 h2 => by omega, nat8 (n := 8) sgF_w⟩, ⟨c5, c6, c7, c8, fun r h1 h2 => by omega, nat8 (n := 6) sgF_m, fun k h1 h2 => absurd h2 (Nat.not_lt_zero k)⟩⟩,
    ⟨0, fun _ => 0, ⟨by decide, fun j h1 h2 => by omega⟩, ⟨c9, fun j h1 h2 => by omega⟩, ⟨c10, fun j h1 h2 => by omega⟩⟩,
    ⟨0, fun _ => 0, fun _ => 0, ⟨by decide, fun j h1 h2 => by omega⟩, ⟨c11, fun j h1 h2 => by omega⟩, ⟨c12, fun j h1 h2 => by omega⟩⟩,
    fun i hi => ?_, ⟨c13.trans c14.symm, Or.inl c13, fun q => by rw [c13] at q; exact absurd q (by decide)⟩⟩, nat8 (n := 8) sgF_z⟩
  obtain ⟨s1, s2, s3⟩ := sgF_s i hi
  refine ⟨s2.trans s1.symm, by rw [s1]; decide, fun _ => s3, fun q => absurd s1 q, by rw [s3]; decide, fun q => ?_, fun q => ?_, fun q => ?_, fun q => ?_⟩
  · rw [s1] at q; exact absurd q (by decide)
  · rw [s1] at q; exact absurd q (by decide)
  · rw [s1] at q; exact absurd q (by decide)
  · rw [s1] at q; exact absurd q (by decide)
theorem whole_start {p : Program} {e : Env} {s : State} {m : MethodId} {below : List Frame} {meth : Method} {c : Code} (l : Launch) (hflags : l.flags = flags0) {b L : Nat} {xs : Nat → Int32} (hL : L ≤ 3072) (C0 : lw_At p s m meth c b L xs) : W p l e room_1 s m #[Value.ref b] below meth c s.heap [] 0 0 (lw_Z below #[Value.ref b] s) (entryFrame m ([Value.ref b] : List Value).toArray 4) := by
  obtain ⟨hx, hb, hr, hml, hown, htb, hX, hbl, hlk, -⟩ := C0
  have hts := lw_w_of htb
  obtain ⟨dC, dI, dA, hK⟩ := world8 htb (fun k => if k < NC then s.heap.size + k else b)
  generalize hγ : ((fun k => if k < NC then s.heap.size + k else b, dC, dI, dA) : G9) = γ at hK
  have hG : gS8 γ s.heap.size := fun k hk => by rw [← hγ]; exact if_pos hk
  have h130 : γ.1 130 = b := by rw [← hγ]; rfl
  have hAO := AO8_of htb
  have hC : KC γ s.heap.size R_law cL_law 4 0 ret false p s m #[Value.ref b] meth c := ⟨hx, hb, hml, hown, hts, hK, hAO, hG, rfl, hlk, hr, fun q => by cases q⟩
  have hLC : LC γ p s m meth c b L xs 130 25171 := ⟨hx, hb, hr, hml, hown, hts, hlk, hK, fun i j hi hj q => by rw [hG i hi, hG j hj] at q; omega, fun k hk => by rw [hG k hk]; omega, h130, hX, hbl, hL, by decide, by decide⟩
  have hl := lv_entry ([.ref b] : List Value) (n := 4) (Nat.le_of_ble_eq_true rfl)
  rw [lg_entry_eq]
  generalize (lg_sl ([.ref b] : List Value) ++ List.replicate (4 - (lg_sl ([.ref b] : List Value)).length) Slot.unset).toArray = ls at hl ⊢
  have hK0 := law_entry (l := l) (e := e) (below := below) (Z := lw_Z below #[Value.ref b] s) hC (fun H locs d0 ls hd0 hl hS hP => by
    have hP9 := P9_of8 full_F hP
    exact law_loop hLC (L + 1) 0 sgF J9_F (by omega) (by omega) (by omega) H locs d0 ls hd0 hl hS hP9)
  have h1 := hK0 s.heap [] s.drawn ls (Drawn.sameBut.refl _ _) ⟨hl.1, hl.2.1, fun i v hi hn => by
    match i, hi with
    | 0, hi =>
      cases hi
      show ls[0]? = some (.val (.ref (γ.1 130)))
      rw [h130]
      exact hl.2.2 (0, .ref b) List.mem_cons_self
    | 1, hi => cases hi; exact absurd rfl hn
    | 2, hi => cases hi; exact absurd rfl hn
    | 3, hi => cases hi; exact absurd rfl hn
    | i + 4, hi => cases hi⟩ va_S.rf ⟨by decide, fun k hk => ⟨⟨fun _ => rfl, fun _ => rfl, fun _ => rfl, fun _ => rfl⟩, fun _ => rfl⟩, fun k q hq => by cases hq⟩
  exact h1
