/-! ===== slots ===== -/
theorem zb32 {a : UInt32} : z32 a ↔ FP.Core.FZero a := by
  rw [FP.Core.zero_bits232]
  have h := FP.Core.mask_toNat32 a
  unfold z32
  constructor
  · intro h1
    rw [h1] at h
    exact h.symm
  · intro h1
    refine UInt32.toNat.inj ?_
    rw [h, h1]
    rfl
theorem zc32 {a : UInt32} : FP.fcmp a 0 = some .eq ↔ z32 a := FP.Core.zero_iff32.trans zb32.symm
theorem zl32 {a : UInt32} (h : z32 a) : FP.f2l a = 0 := by
  rcases FP.Core.zero_bits32 (zc32.mpr h) with e | e <;> rw [e] <;> decide +kernel
theorem nl32 {a : UInt32} (h : isNaN32 a = true) : FP.f2l a = 0 := by
  have h := (nan32 a).mp h
  show Int64.ofInt (FP.Core.toInt (-2 ^ 63) (2 ^ 63 - 1) (FP.Core.val32 a)) = 0
  rw [h]
  rfl
theorem fsl32 {a b : UInt32} (h : fs32 a b) : FP.f2l a = FP.f2l b := by
  rcases h with ⟨e, _⟩ | ⟨h1, h2 | h2⟩
  · rw [e]
  · rw [zl32 h1, zl32 h2]
  · rw [zl32 h1, nl32 h2]
theorem alz32 {r x : UInt32} (h : alike32 r x = true) (hx : z32 x ∨ isNaN32 x = true) : z32 r ∨ isNaN32 r = true := by
  rcases al32_iff.mp h with e | ⟨e, _⟩
  · rw [e]; exact hx
  · exact Or.inr ((nan32 r).mpr e)
theorem dvz32 {a : UInt32} (y : Int32) (h : z32 a ∨ isNaN32 a = true) : z32 (FP.fdiv a (FP.i2f y)) ∨ isNaN32 (FP.fdiv a (FP.i2f y)) = true := by
  obtain ⟨t, d, r, ed⟩ : FP.Core.FFin (FP.i2f y) := FP.Core.i2f_fin y
  by_cases hn : isNaN32 (FP.fdiv a (FP.i2f y)) = true
  · exact Or.inr hn
  · refine Or.inl ?_
    have hn2 : ¬ FP.Core.fIsNaN (FP.Core.fdiv a (FP.Core.i2f y)) = true := fun q => hn ((nan32 _).mpr ((FP.Core.fIsNaN_iff _).mp q))
    rw [FP.Core.fdiv_nan_iff] at hn2
    rcases h with h | h
    · obtain ⟨s, q, ea⟩ := zb32.mp h
      have hd : d ≠ 0 := fun e => hn2 (Or.inr (Or.inr (Or.inr ⟨⟨s, q, ea⟩, ⟨t, r, by rw [← e]; exact ed⟩⟩)))
      refine zb32.mpr ⟨s != t, FP.Core.b32.qmin, ?_⟩
      have e : FP.Core.val32 (FP.fdiv a (FP.i2f y)) = FP.Core.quotient FP.Core.b32 (FP.Core.val32 a) (FP.Core.val32 (FP.i2f y)) := FP.Core.val32_fdiv _ _
      rw [e, ea, ed]
      have e2 : FP.Core.quotient FP.Core.b32 (.fin s 0 q) (.fin t d r) = FP.Core.roundRatio FP.Core.b32 (s != t) 0 d (q - r) := if_neg hd
      rw [e2]
      exact if_pos rfl
    · exact absurd (Or.inl ((nan32 a).mp h)) hn2
theorem dvn32 {a : UInt32} (y : Int32) (h : isNaN32 a = false) (hz : ¬ z32 a) : isNaN32 (FP.fdiv a (FP.i2f y)) = false := by
  obtain ⟨t, d, r, ed⟩ : FP.Core.FFin (FP.Core.i2f y) := FP.Core.i2f_fin y
  refine nn32.mpr ?_
  cases hc : FP.Core.fIsNaN (FP.Core.fdiv a (FP.Core.i2f y)) with
  | false => rfl
  | true =>
    rcases (FP.Core.fdiv_nan_iff _ _).mp hc with e | e | ⟨s, t2, _, e⟩ | ⟨e, _⟩
    · rw [(nan32 a).mpr e] at h; cases h
    · rw [ed] at e; cases e
    · rw [ed] at e; cases e
    · exact absurd (zb32.mpr e) hz
theorem fsd32 {a b r q : UInt32} {y : Int32} (h : fs32 a b) (hz : FP.fcmp a 0 ≠ some .eq) (h1 : alike32 r (FP.fdiv a (FP.i2f y)) = true) (h2 : alike32 q (FP.fdiv b (FP.i2f y)) = true) : fs32 r q := by
  have hz : ¬ z32 a := fun e => hz (zc32.mpr e)
  rcases h with ⟨e, hn⟩ | ⟨e, _⟩
  · have hd := dvn32 y hn hz
    rw [← e] at h2
    rw [al32 h1 hd, al32 h2 hd]
    exact Or.inl ⟨rfl, hd⟩
  · exact absurd e hz
theorem fse32 {a b q : UInt32} {y : Int32} (h : fs32 a b) (hz : FP.fcmp a 0 = some .eq) (h2 : alike32 q (FP.fdiv b (FP.i2f y)) = true) : fs32 a q := by
  have hz : z32 a := zc32.mp hz
  refine Or.inr ⟨hz, alz32 h2 (dvz32 y ?_)⟩
  rcases h with ⟨e, _⟩ | ⟨_, e⟩
  · rw [← e]; exact Or.inl hz
  · exact e
theorem fsl232 (y : Int64) : fs32 (FP.l2f y) (FP.l2f y) := Or.inl ⟨rfl, nn32.mpr (FP.Core.l2f_notNaN y)⟩
theorem zb64 {a : UInt64} : z64 a ↔ FP.Core.DZero a := by
  rw [FP.Core.zero_bits2]
  have h := FP.Core.mask_toNat a
  unfold z64
  constructor
  · intro h1
    rw [h1] at h
    exact h.symm
  · intro h1
    refine UInt64.toNat.inj ?_
    rw [h, h1]
    rfl
theorem zc64 {a : UInt64} : FP.dcmp a 0 = some .eq ↔ z64 a := FP.Core.zero_iff.trans zb64.symm
theorem zl64 {a : UInt64} (h : z64 a) : FP.d2l a = 0 := by
  rcases FP.Core.zero_bits (zc64.mpr h) with e | e <;> rw [e] <;> decide +kernel
theorem nl64 {a : UInt64} (h : isNaN64 a = true) : FP.d2l a = 0 := by
  have h := (nan64 a).mp h
  show Int64.ofInt (FP.Core.toInt (-2 ^ 63) (2 ^ 63 - 1) (FP.Core.val64 a)) = 0
  rw [h]
  rfl
theorem fsl64 {a b : UInt64} (h : fs64 a b) : FP.d2l a = FP.d2l b := by
  rcases h with ⟨e, _⟩ | ⟨h1, h2 | h2⟩
  · rw [e]
  · rw [zl64 h1, zl64 h2]
  · rw [zl64 h1, nl64 h2]
theorem alz64 {r x : UInt64} (h : alike64 r x = true) (hx : z64 x ∨ isNaN64 x = true) : z64 r ∨ isNaN64 r = true := by
  rcases al64_iff.mp h with e | ⟨e, _⟩
  · rw [e]; exact hx
  · exact Or.inr ((nan64 r).mpr e)
theorem dvz64 {a : UInt64} (y : Int32) (h : z64 a ∨ isNaN64 a = true) : z64 (FP.ddiv a (FP.i2d y)) ∨ isNaN64 (FP.ddiv a (FP.i2d y)) = true := by
  obtain ⟨t, d, r, ed⟩ : FP.Core.DFin (FP.i2d y) := FP.Core.i2d_fin y
  by_cases hn : isNaN64 (FP.ddiv a (FP.i2d y)) = true
  · exact Or.inr hn
  · refine Or.inl ?_
    have hn2 : ¬ FP.Core.dIsNaN (FP.Core.ddiv a (FP.Core.i2d y)) = true := fun q => hn ((nan64 _).mpr ((FP.Core.dIsNaN_iff _).mp q))
    rw [FP.Core.ddiv_nan_iff] at hn2
    rcases h with h | h
    · obtain ⟨s, q, ea⟩ := zb64.mp h
      have hd : d ≠ 0 := fun e => hn2 (Or.inr (Or.inr (Or.inr ⟨⟨s, q, ea⟩, ⟨t, r, by rw [← e]; exact ed⟩⟩)))
      refine zb64.mpr ⟨s != t, FP.Core.b64.qmin, ?_⟩
      have e : FP.Core.val64 (FP.ddiv a (FP.i2d y)) = FP.Core.quotient FP.Core.b64 (FP.Core.val64 a) (FP.Core.val64 (FP.i2d y)) := FP.Core.val64_ddiv _ _
      rw [e, ea, ed]
      have e2 : FP.Core.quotient FP.Core.b64 (.fin s 0 q) (.fin t d r) = FP.Core.roundRatio FP.Core.b64 (s != t) 0 d (q - r) := if_neg hd
      rw [e2]
      exact if_pos rfl
    · exact absurd (Or.inl ((nan64 a).mp h)) hn2
theorem dvn64 {a : UInt64} (y : Int32) (h : isNaN64 a = false) (hz : ¬ z64 a) : isNaN64 (FP.ddiv a (FP.i2d y)) = false := by
  obtain ⟨t, d, r, ed⟩ : FP.Core.DFin (FP.Core.i2d y) := FP.Core.i2d_fin y
  refine nn64.mpr ?_
  cases hc : FP.Core.dIsNaN (FP.Core.ddiv a (FP.Core.i2d y)) with
  | false => rfl
  | true =>
    rcases (FP.Core.ddiv_nan_iff _ _).mp hc with e | e | ⟨s, t2, _, e⟩ | ⟨e, _⟩
    · rw [(nan64 a).mpr e] at h; cases h
    · rw [ed] at e; cases e
    · rw [ed] at e; cases e
    · exact absurd (zb64.mpr e) hz
theorem fsd64 {a b r q : UInt64} {y : Int32} (h : fs64 a b) (hz : FP.dcmp a 0 ≠ some .eq) (h1 : alike64 r (FP.ddiv a (FP.i2d y)) = true) (h2 : alike64 q (FP.ddiv b (FP.i2d y)) = true) : fs64 r q := by
  have hz : ¬ z64 a := fun e => hz (zc64.mpr e)
  rcases h with ⟨e, hn⟩ | ⟨e, _⟩
  · have hd := dvn64 y hn hz
    rw [← e] at h2
    rw [al64 h1 hd, al64 h2 hd]
    exact Or.inl ⟨rfl, hd⟩
  · exact absurd e hz
theorem fse64 {a b q : UInt64} {y : Int32} (h : fs64 a b) (hz : FP.dcmp a 0 = some .eq) (h2 : alike64 q (FP.ddiv b (FP.i2d y)) = true) : fs64 a q := by
  have hz : z64 a := zc64.mp hz
  refine Or.inr ⟨hz, alz64 h2 (dvz64 y ?_)⟩
  rcases h with ⟨e, _⟩ | ⟨_, e⟩
  · rw [← e]; exact Or.inl hz
  · exact e
theorem fsl264 (y : Int64) : fs64 (FP.l2d y) (FP.l2d y) := Or.inl ⟨rfl, nn64.mpr (FP.Core.l2d_notNaN y)⟩
theorem fsz32 : fs32 0 0 := Or.inr ⟨rfl, Or.inl rfl⟩
theorem fsz64 : fs64 0 0 := Or.inr ⟨rfl, Or.inl rfl⟩
theorem Slt.oth {σ τ : S9} {i : Nat} (h : Slt σ i) (e1 : gI τ (81 + 4 * i) = gI σ (81 + 4 * i)) (e2 : gL τ (82 + 4 * i) = gL σ (82 + 4 * i)) (e3 : gF τ (83 + 4 * i) = gF σ (83 + 4 * i)) (e4 : gD τ (84 + 4 * i) = gD σ (84 + 4 * i)) (f1 : gI τ 107 i = gI σ 107 i) (f2 : gI τ 108 i = gI σ 108 i) (g1 : ∀ j, 0 ≤ j → j < 40 → gL τ 109 (40 * i + j) = gL σ 109 (40 * i + j)) (g2 : ∀ j, 0 ≤ j → j < 40 → gF τ 110 (40 * i + j) = gF σ 110 (40 * i + j)) (g3 : ∀ j, 0 ≤ j → j < 40 → gD τ 111 (40 * i + j) = gD σ 111 (40 * i + j)) : Slt τ i := by
  obtain ⟨h1, h2, h3, h4, h5, h6, h7, h8, h9⟩ := h
  unfold Slt
  rw [e1, e2, e3, e4, f1, f2]
  exact ⟨h1, h2, h3, h4, h5, fun z j a b => by rw [g1 j a b]; exact h6 z j a b, h7, fun z j a b => by rw [g2 j a b]; exact h8 z j a b, fun z j a b => by rw [g3 j a b]; exact h9 z j a b⟩
theorem J9.slot {σ τ : S9} (J : J9 σ) (e : eq9 (fun k => ¬ (81 ≤ k ∧ k ≤ 96) ∧ ¬ (107 ≤ k ∧ k ≤ 111)) σ τ) (hS : ∀ i : Nat, i < 4 → Slt τ i) : J9 τ :=
  ⟨⟨J.1.1.mv (e.mono (fun k hk => by omega)) (fun i _ => by rw [(e 97 (by decide)).1]), J.1.2.1.mv (e.mono (fun k hk => by omega)) (by rw [(e 97 (by decide)).1]), J.1.2.2.1.mv (e.mono (fun k hk => by omega)) (by rw [(e 97 (by decide)).1]), hS, J.1.2.2.2.2.mv (fun i _ _ => by rw [(e 97 (by decide)).1]) (e.mono (fun k hk => by omega))⟩, fun x a b => by rw [(e 66 (by decide)).1]; exact J.2 x a b⟩
theorem pr_element {σ : S9} (J : J9 σ) {s x : Int} (hs : (-2147483648 ≤ s ∧ s < 2147483648)) (hx : (-2147483648 ≤ x ∧ x < 2147483648)) : Cc 8 mX9_element [.ref 0, .int (iI s), .int (iI x)] σ (QL (fun u1 σ1 => Cc 8 mX10_element [.ref 97, .int (iI s), .int (iI x)] σ1 (QL (fun u2 σ2 => u2 = u1 ∧ J9 σ2)))) := by
  obtain ⟨⟨⟨n, R, lf, rg, wt, lev, stt, ap, str, v, cC, cM⟩, ⟨kc, kf, iv, iC, iM⟩, ⟨lc, l1, l2, lv, lC, lM⟩, hS, hP⟩, hz⟩ := id J
  have hn := v.1
  have hR := v.2.1
  have hsl : ∀ i : Nat, i < 4 → (-1 ≤ gI σ (81 + 4 * i) 0 ∧ gI σ (81 + 4 * i) 0 ≤ 3) ∧ (0 ≤ gI σ (81 + 4 * i) 1 ∧ gI σ (81 + 4 * i) 1 ≤ 40) := fun i hi => ⟨by rw [(hS i hi).1]; exact (hS i hi).2.1, (hS i hi).2.2.2.2.1⟩
  have hT : ∀ i, 0 ≤ i → i < 4 → (-1 ≤ gI σ 107 i ∧ gI σ 107 i ≤ 3) := fun i a b => by
    have h := (hS i.toNat (by omega)).2.1
    rw [Int.toNat_of_nonneg a] at h
    exact h
  have hL : ∀ i, 0 ≤ i → i < 4 → gI σ 107 i ≠ -1 → (0 ≤ gI σ 108 i ∧ gI σ 108 i ≤ 40) := fun i a b z => by
    have h := hS i.toNat (by omega)
    unfold Slt at h
    rw [Int.toNat_of_nonneg a] at h
    rw [← h.2.2.2.1 z]
    exact h.2.2.2.2.1
  have hq : ∀ i, 0 ≤ i → i < 4 → gI σ (81 + 4 * i.toNat) 0 = gI σ 107 i ∧ (gI σ 107 i = -1 → gI σ (81 + 4 * i.toNat) 1 = 0) ∧ (gI σ 107 i ≠ -1 → gI σ (81 + 4 * i.toNat) 1 = gI σ 108 i) ∧ ((gI σ 107 i = 0 ∨ gI σ 107 i = 1) → ∀ j, 0 ≤ j → j < 40 → gL σ (82 + 4 * i.toNat) j = gL σ 109 (40 * i + j) ∧ (-9223372036854775808 ≤ gL σ (82 + 4 * i.toNat) j ∧ gL σ (82 + 4 * i.toNat) j < 9223372036854775808)) ∧ (gI σ 107 i = 0 → ∀ j, 0 ≤ j → j < 40 → -2147483648 ≤ gL σ (82 + 4 * i.toNat) j ∧ gL σ (82 + 4 * i.toNat) j < 2147483648) ∧ (gI σ 107 i = 2 → ∀ j, 0 ≤ j → j < 40 → fs32 (gF σ (83 + 4 * i.toNat) j) (gF σ 110 (40 * i + j))) ∧ (gI σ 107 i = 3 → ∀ j, 0 ≤ j → j < 40 → fs64 (gD σ (84 + 4 * i.toNat) j) (gD σ 111 (40 * i + j))) := fun i a b => by
    have h := hS i.toNat (by omega)
    unfold Slt at h
    rw [Int.toNat_of_nonneg a] at h
    exact ⟨h.1, h.2.2.1, h.2.2.2.1, h.2.2.2.2.2.1, h.2.2.2.2.2.2.1, h.2.2.2.2.2.2.2.1, h.2.2.2.2.2.2.2.2⟩
  refine c_X9_element hsl hs hx (fun i hi z => (hS i hi).2.2.1 (by rw [← (hS i hi).1]; exact z)) (fun z => ?_) (fun z1 z2 => ⟨fun z3 => ?_, fun z3 => ?_, fun z3 => ?_⟩)
  · refine c_X10_element hT hL hs hx (fun y => ⟨rfl, J⟩) (fun y1 y2 y3 => ?_)
    exfalso
    have h := hq s y1.1 y1.2
    exact z ⟨y1, by rw [h.2.2.1 y2]; exact y3⟩
  all_goals
    have h := hq s z1.1 z1.2
    have hb := (hsl s.toNat (by omega)).2
    have hty : gI σ 107 s ≠ -1 := fun q => by have := h.2.1 q; omega
    have hln := h.2.2.1 hty
    have h0 := h.1
  · refine c_X10_element hT hL hs hx (fun y => by omega) (fun y1 y2 y3 => ⟨fun y4 => ?_, fun y4 => by omega, fun y4 => by omega⟩)
    exact ⟨((h.2.2.2.1 (by have := hT s z1.1 z1.2; omega)) x z2.1 (by omega)).1.symm, J⟩
  · refine c_X10_element hT hL hs hx (fun y => by omega) (fun y1 y2 y3 => ⟨fun y4 => by omega, fun y4 => ?_, fun y4 => by omega⟩)
    exact ⟨by rw [fsl32 (h.2.2.2.2.2.1 y4 x z2.1 (by omega))], J⟩
  · refine c_X10_element hT hL hs hx (fun y => by omega) (fun y1 y2 y3 => ⟨fun y4 => by omega, fun y4 => by omega, fun y4 => ?_⟩)
    exact ⟨by rw [fsl64 (h.2.2.2.2.2.2 y4 x z2.1 (by omega))], J⟩
theorem pr_checkCertificate {σ : S9} (J : J9 σ) {s : Int} (hs : (-2147483648 ≤ s ∧ s < 2147483648)) : Cc 8 mX9_checkCertificate [.ref 0, .int (iI s)] σ (QI (fun u1 σ1 => Cc 8 mX10_checkCertificate [.ref 97, .int (iI s)] σ1 (QI (fun u2 σ2 => u2 = u1 ∧ J9 σ2)))) := by
  obtain ⟨⟨⟨n, R, lf, rg, wt, lev, stt, ap, str, v, cC, cM⟩, ⟨kc, kf, iv, iC, iM⟩, ⟨lc, l1, l2, lv, lC, lM⟩, hS, hP⟩, hz⟩ := id J
  have hn := v.1
  have hR := v.2.1
  have hsl : ∀ i : Nat, i < 4 → (-1 ≤ gI σ (81 + 4 * i) 0 ∧ gI σ (81 + 4 * i) 0 ≤ 3) ∧ (0 ≤ gI σ (81 + 4 * i) 1 ∧ gI σ (81 + 4 * i) 1 ≤ 40) := fun i hi => ⟨by rw [(hS i hi).1]; exact (hS i hi).2.1, (hS i hi).2.2.2.2.1⟩
  have hT : ∀ i, 0 ≤ i → i < 4 → (-1 ≤ gI σ 107 i ∧ gI σ 107 i ≤ 3) := fun i a b => by
    have h := (hS i.toNat (by omega)).2.1
    rw [Int.toNat_of_nonneg a] at h
    exact h
  have hL : ∀ i, 0 ≤ i → i < 4 → gI σ 107 i ≠ -1 → (0 ≤ gI σ 108 i ∧ gI σ 108 i ≤ 40) := fun i a b z => by
    have h := hS i.toNat (by omega)
    unfold Slt at h
    rw [Int.toNat_of_nonneg a] at h
    rw [← h.2.2.2.1 z]
    exact h.2.2.2.2.1
  have hq : ∀ i, 0 ≤ i → i < 4 → gI σ (81 + 4 * i.toNat) 0 = gI σ 107 i ∧ (gI σ 107 i = -1 → gI σ (81 + 4 * i.toNat) 1 = 0) ∧ (gI σ 107 i ≠ -1 → gI σ (81 + 4 * i.toNat) 1 = gI σ 108 i) ∧ ((gI σ 107 i = 0 ∨ gI σ 107 i = 1) → ∀ j, 0 ≤ j → j < 40 → gL σ (82 + 4 * i.toNat) j = gL σ 109 (40 * i + j) ∧ (-9223372036854775808 ≤ gL σ (82 + 4 * i.toNat) j ∧ gL σ (82 + 4 * i.toNat) j < 9223372036854775808)) ∧ (gI σ 107 i = 0 → ∀ j, 0 ≤ j → j < 40 → -2147483648 ≤ gL σ (82 + 4 * i.toNat) j ∧ gL σ (82 + 4 * i.toNat) j < 2147483648) ∧ (gI σ 107 i = 2 → ∀ j, 0 ≤ j → j < 40 → fs32 (gF σ (83 + 4 * i.toNat) j) (gF σ 110 (40 * i + j))) ∧ (gI σ 107 i = 3 → ∀ j, 0 ≤ j → j < 40 → fs64 (gD σ (84 + 4 * i.toNat) j) (gD σ 111 (40 * i + j))) := fun i a b => by
    have h := hS i.toNat (by omega)
    unfold Slt at h
    rw [Int.toNat_of_nonneg a] at h
    exact ⟨h.1, h.2.2.1, h.2.2.2.1, h.2.2.2.2.2.1, h.2.2.2.2.2.2.1, h.2.2.2.2.2.2.2.1, h.2.2.2.2.2.2.2.2⟩
  have hf : ∀ i : Nat, i < 4 → gI σ (81 + 4 * i) 0 = 0 → ∀ j, 0 ≤ j → j < 40 → -2147483648 ≤ gL σ (82 + 4 * i) j ∧ gL σ (82 + 4 * i) j < 2147483648 := fun i hi z => (hS i hi).2.2.2.2.2.2.1 (by rw [← (hS i hi).1]; exact z)
  have hf2 : ∀ i, 0 ≤ i → i < 4 → gI σ 107 i = 0 → ∀ j, 0 ≤ j → j < 40 → -2147483648 ≤ gL σ 109 (40 * i + j) ∧ gL σ 109 (40 * i + j) < 2147483648 := fun i a b z j c d => by
    have h := hq i a b
    rw [← (h.2.2.2.1 (Or.inl z) j c d).1]
    exact h.2.2.2.2.1 z j c d
  have hcr : ∀ s, (0 ≤ s ∧ s < 4) → gI σ 107 s = 0 → (crt9 (gL σ (82 + 4 * s.toNat)) (fun r x => bal9 (lf r) (rg r) x) n R ↔ crt9 (fun r => gL σ 109 (40 * s + r)) (fun r x => bal9 (lf r) (rg r) x) n R) := fun s hs z => by
    have h : ∀ r, 0 ≤ r → r < R → gL σ (82 + 4 * s.toNat) r = gL σ 109 (40 * s + r) := fun r a b => ((hq s hs.1 hs.2).2.2.2.1 (Or.inl z) r a (by omega)).1
    have key : ∀ f g : Int → Int, (∀ r, 0 ≤ r → r < R → f r = g r) → crt9 f (fun r x => bal9 (lf r) (rg r) x) n R → crt9 g (fun r x => bal9 (lf r) (rg r) x) n R := fun f g e ⟨c1, ⟨r, r0, r1, r2⟩, c3⟩ =>
      ⟨fun r a b => by rw [← e r a b]; exact c1 r a b, ⟨r, r0, r1, by rw [← e r r0 r1]; exact r2⟩, fun x a b => by
        rw [← sm9_congr (f := f) (f' := g) (g := fun r => bal9 (lf r) (rg r) x) (g' := fun r => bal9 (lf r) (rg r) x) R.toNat (fun r c d => ⟨e r c (by omega), rfl⟩)]
        exact c3 x a b⟩
    exact ⟨key _ _ h, key _ _ (fun r a b => (h r a b).symm)⟩
  refine c_X9_checkCertificate v cC hsl hf hs (fun z => ?_) (fun z1 z2 => ?_) (fun z1 z2 z3 => ?_) (fun z1 z2 z3 => ?_) (fun z1 z2 z3 => ⟨fun z4 => ?_, fun z4 => ?_⟩)
  · exact c_X10_checkCertificate v cM hT hL hf2 hs (fun y => ⟨rfl, J⟩) (fun y => absurd y z) (fun y => absurd y z) (fun y => absurd y z) (fun y => absurd y z)
  all_goals
    have h := hq s z1.1 z1.2
    have h0 := h.1
  · exact c_X10_checkCertificate v cM hT hL hf2 hs (fun y => absurd z1 y) (fun y1 y2 => ⟨rfl, J⟩) (fun y1 y2 => by omega) (fun y1 y2 => by omega) (fun y1 y2 => by omega)
  · exact c_X10_checkCertificate v cM hT hL hf2 hs (fun y => absurd z1 y) (fun y1 y2 => by omega) (fun y1 y2 y3 => ⟨rfl, J⟩) (fun y1 y2 => by omega) (fun y1 y2 => by omega)
  all_goals have h4 := h.2.2.1 (by omega)
  · exact c_X10_checkCertificate v cM hT hL hf2 hs (fun y => absurd z1 y) (fun y1 y2 => by omega) (fun y1 y2 y3 => by omega) (fun y1 y2 y3 => ⟨rfl, J⟩) (fun y1 y2 y3 => by omega)
  · exact c_X10_checkCertificate v cM hT hL hf2 hs (fun y => absurd z1 y) (fun y1 y2 => by omega) (fun y1 y2 y3 => by omega) (fun y1 y2 y3 => by omega) (fun y1 y2 y3 => ⟨fun y4 => ⟨rfl, J⟩, fun y4 => absurd ((hcr s z1 y2).mp z4) y4⟩)
  · exact c_X10_checkCertificate v cM hT hL hf2 hs (fun y => absurd z1 y) (fun y1 y2 => by omega) (fun y1 y2 y3 => by omega) (fun y1 y2 y3 => by omega) (fun y1 y2 y3 => ⟨fun y4 => absurd ((hcr s z1 y2).mpr y4) z4, fun y4 => ⟨rfl, J⟩⟩)
