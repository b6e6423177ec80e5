/-! ===== rounding to the nearest whole number ===== -/
def zv9 (v : UInt64) : Int := FP.Core.zval FP.Core.b64 (FP.Core.val64 v)
def N9 (v : UInt64) : Nat := FP.Core.nearest (zv9 v).toNat FP.Core.one64
theorem nnv {v : UInt64} (h : isNaN64 v = false) : FP.Core.val64 v ≠ .nan := (FP.Core.notNaN_iff v).mp (nn64.mp h)
theorem vnn {v : UInt64} (h : FP.Core.val64 v ≠ .nan) : isNaN64 v = false := nn64.mpr ((FP.Core.notNaN_iff v).mpr h)
theorem dint99 : FP.Core.DInt 99 4636666922610458624 := by
  have h := FP.Core.i2d_int (iI 99)
  rw [show FP.Core.i2d (iI 99) = 4636666922610458624 by decide +kernel, iI_toInt (by decide) (by decide)] at h
  exact h
theorem zv9_99 : zv9 4636666922610458624 = 99 * (FP.Core.one64 : Int) := FP.Core.DInt_zval dint99
theorem zv9_half : 2 * zv9 4602678819172646912 = (FP.Core.one64 : Int) := by unfold zv9; decide +kernel
theorem zv9_52 : zv9 4841369599423283200 = 4503599627370496 * (FP.Core.one64 : Int) := by unfold zv9; decide +kernel
theorem zv9_5299 : zv9 4841369599423283299 = 4503599627370595 * (FP.Core.one64 : Int) := by unfold zv9; decide +kernel
theorem zv9_53 : zv9 4845873199050653696 = 9007199254740992 * (FP.Core.one64 : Int) := by unfold zv9; decide +kernel
theorem top9 : 9007199254740992 * FP.Core.one64 < FP.Core.b64.tails * 2 ^ (FP.Core.b64.exps - 2) := by decide +kernel
theorem U_pos : 0 < FP.Core.one64 := FP.Core.one64_pos
theorem sg9 {s : Bool} {m : Nat} {z : Int} (h : FP.Core.signed s m = z) (hz : 0 ≤ z) : (m : Int) = z ∧ (s = false ∨ m = 0) := by
  cases s with
  | false => exact ⟨h, Or.inl rfl⟩
  | true =>
    have h : -(m : Int) = z := h
    exact ⟨by omega, Or.inr (by omega)⟩
theorem zv9_fin {v : UInt64} (hn : FP.Core.val64 v ≠ .nan) (h0 : 0 ≤ zv9 v) (h1 : zv9 v ≤ 9007199254740992 * (FP.Core.one64 : Int)) : ∃ s c q, FP.Core.val64 v = .fin s c q ∧ (FP.Core.inUnits c q FP.Core.b64.qmin : Int) = zv9 v := by
  have ht := top9
  unfold zv9 at h0 h1 ⊢
  cases e : FP.Core.val64 v with
  | nan => exact absurd e hn
  | inf s =>
    rw [e] at h0 h1
    have h := sg9 (s := s) (m := FP.Core.b64.tails * 2 ^ (FP.Core.b64.exps - 2)) rfl h0
    have h2 : ((FP.Core.b64.tails * 2 ^ (FP.Core.b64.exps - 2) : Nat) : Int) ≤ 9007199254740992 * (FP.Core.one64 : Int) := by rw [h.1]; exact h1
    omega
  | fin s c q =>
    rw [e] at h0
    exact ⟨s, c, q, rfl, (sg9 (s := s) (m := FP.Core.inUnits c q FP.Core.b64.qmin) rfl h0).1⟩
theorem rx9 {sg : Bool} {n c : Nat} {e q : Int} (he : FP.Core.b64.qmin ≤ e) (hc : c < 2 ^ FP.Core.b64.p) (h1 : FP.Core.b64.qmin ≤ q) (h2 : q ≤ FP.Core.b64.qmax) (h : FP.Core.inUnits n e FP.Core.b64.qmin = FP.Core.inUnits c q FP.Core.b64.qmin) : FP.Core.zval FP.Core.b64 (FP.Core.round FP.Core.b64 (.fin sg n e)) = FP.Core.signed sg (FP.Core.inUnits c q FP.Core.b64.qmin) := by
  rw [← FP.Core.round_inUnits sg n he, h, FP.Core.round_inUnits sg c h1]
  obtain ⟨c', q', e1, e2⟩ := FP.Core.round_exact FP.Core.good_b64 sg hc h1 h2
  rw [e1]
  show FP.Core.signed sg (FP.Core.inUnits c' q' FP.Core.b64.qmin) = _
  rw [e2]
theorem cut9 {c i : Nat} {q : Int} (hq : FP.Core.b64.qmin ≤ q) (hi : i = FP.Core.inUnits c q FP.Core.b64.qmin / FP.Core.one64) : ∃ c' q', c' ≤ c ∧ FP.Core.b64.qmin ≤ q' ∧ (q' = q ∨ q' = FP.Core.b64.qmin) ∧ FP.Core.inUnits c' q' FP.Core.b64.qmin + i * FP.Core.one64 = FP.Core.inUnits c q FP.Core.b64.qmin := by
  have eU : FP.Core.one64 = 2 ^ 1074 := rfl
  have em : FP.Core.b64.qmin = -1074 := FP.Core.qmin_b64
  have hi2 : i * FP.Core.one64 ≤ FP.Core.inUnits c q FP.Core.b64.qmin := by rw [hi]; exact Nat.div_mul_le_self _ _
  by_cases h : q < 0
  · have e1 : 2 ^ 1074 = 2 ^ (-q).toNat * 2 ^ (q - FP.Core.b64.qmin).toNat := by
      rw [← Nat.pow_add, show (-q).toNat + (q - FP.Core.b64.qmin).toNat = 1074 by omega]
    refine ⟨c - i * 2 ^ (-q).toNat, q, Nat.sub_le _ _, hq, Or.inl rfl, ?_⟩
    unfold FP.Core.inUnits at hi2 ⊢
    rw [eU, e1, ← Nat.mul_assoc] at hi2
    rw [eU, e1, ← Nat.mul_assoc, Nat.sub_mul]
    exact Nat.sub_add_cancel hi2
  · refine ⟨0, FP.Core.b64.qmin, Nat.zero_le _, Int.le_refl _, Or.inr rfl, ?_⟩
    have e1 : 2 ^ (q - FP.Core.b64.qmin).toNat = 2 ^ q.toNat * FP.Core.one64 := by
      rw [eU, ← Nat.pow_add, show (q - FP.Core.b64.qmin).toNat = q.toNat + 1074 by omega]
    unfold FP.Core.inUnits at hi ⊢
    rw [e1, ← Nat.mul_assoc] at hi ⊢
    rw [Nat.mul_div_cancel _ U_pos] at hi
    rw [hi, Nat.zero_mul, Nat.zero_add]
theorem sub9 {v b : UInt64} {i : Nat} (hn : FP.Core.val64 v ≠ .nan) (h0 : 0 ≤ zv9 v) (h1 : zv9 v < 99 * (FP.Core.one64 : Int)) (hi : i = (zv9 v).toNat / FP.Core.one64) (hb : FP.Core.DInt i b) : FP.Core.val64 (FP.dsub v b) ≠ .nan ∧ zv9 (FP.dsub v b) = zv9 v - i * (FP.Core.one64 : Int) := by
  have hU := U_pos
  obtain ⟨s, c, q, ev, ez⟩ := zv9_fin hn h0 (by omega)
  have fv := FP.Core.val64_fits v
  rw [ev] at fv
  have zb : zv9 b = i * (FP.Core.one64 : Int) := FP.Core.DInt_zval hb
  have fb := FP.Core.val64_fits b
  have nb := FP.Core.DInt_ne_nan hb
  cases eb : FP.Core.val64 b with
  | nan => exact absurd eb nb
  | inf t => unfold FP.Core.DInt at hb; rw [eb] at hb; exact hb.elim
  | fin t d r =>
    rw [eb] at fb
    have fb2 : FP.Core.fits FP.Core.b64 (FP.Core.negate (.fin t d r)) := FP.Core.negate_fits fb
    obtain ⟨sg, m, e, es, he, hu⟩ := FP.Core.sum_units (f := FP.Core.b64) (s := s) (c := c) (q := q) (t := !t) (d := d) (r := r) fv fb2
    have hv : FP.Core.val64 (FP.dsub v b) = FP.Core.round FP.Core.b64 (.fin sg m e) := by
      have h2 : FP.Core.val64 (FP.dsub v b) = FP.Core.round FP.Core.b64 (FP.Core.exactSum (FP.Core.val64 v) (FP.Core.negate (FP.Core.val64 b))) := FP.Core.val64_dsub v b
      rw [h2, ev, eb]
      exact congrArg _ es
    have hz : FP.Core.signed sg (FP.Core.inUnits m e FP.Core.b64.qmin) = zv9 v - i * (FP.Core.one64 : Int) := by
      rw [hu]
      have z1 : FP.Core.zval FP.Core.b64 (.fin s c q) = zv9 v := by unfold zv9; rw [ev]
      have z2 : FP.Core.zval FP.Core.b64 (.fin (!t) d r) = - zv9 b := by
        unfold zv9
        rw [eb, ← FP.Core.zval_negate]
        rfl
      rw [z1, z2, zb]
      omega
    obtain ⟨c', q', k1, k2, k3, k4⟩ := cut9 (c := c) (i := i) fv.2.1 (by rw [hi, ← ez, Int.toNat_natCast])
    have hge : 0 ≤ zv9 v - i * (FP.Core.one64 : Int) := by
      rw [← ez, ← k4]
      have : ((FP.Core.inUnits c' q' FP.Core.b64.qmin + i * FP.Core.one64 : Nat) : Int) = (FP.Core.inUnits c' q' FP.Core.b64.qmin : Int) + i * (FP.Core.one64 : Int) := by
        rw [Int.natCast_add, Int.natCast_mul]
      omega
    have hM := sg9 hz hge
    have hq2 : FP.Core.b64.qmin ≤ FP.Core.b64.qmax := by decide
    have h5 := rx9 (sg := sg) (n := m) (c := c') (e := e) (q := q') he (Nat.lt_of_le_of_lt k1 fv.1) k2 (by rcases k3 with k3 | k3 <;> rw [k3]; exact fv.2.2.1; exact hq2) (by
      have h6 : ((FP.Core.inUnits m e FP.Core.b64.qmin : Nat) : Int) = ((FP.Core.inUnits c' q' FP.Core.b64.qmin : Nat) : Int) := by
        rw [hM.1, ← ez, ← k4, Int.natCast_add, Int.natCast_mul]
        omega
      omega)
    refine ⟨by rw [hv]; exact FP.Core.roundRatio_ne_nan _ _ _ _ _, ?_⟩
    show FP.Core.zval FP.Core.b64 (FP.Core.val64 (FP.dsub v b)) = _
    rw [hv, h5, ← hz]
    have h6 : FP.Core.inUnits m e FP.Core.b64.qmin = FP.Core.inUnits c' q' FP.Core.b64.qmin := by
      have h6 : ((FP.Core.inUnits m e FP.Core.b64.qmin : Nat) : Int) = ((FP.Core.inUnits c' q' FP.Core.b64.qmin : Nat) : Int) := by
        rw [hM.1, ← ez, ← k4, Int.natCast_add, Int.natCast_mul]
        omega
      omega
    rw [h6]
theorem d2i9 {v : UInt64} (hn : FP.Core.val64 v ≠ .nan) (h0 : 0 ≤ zv9 v) : (FP.d2i v).toInt = min 2147483647 (((zv9 v).toNat / FP.Core.one64 : Nat) : Int) := by
  have h := FP.Core.d2i_val hn
  have h2 := sg9 (s := FP.Core.sgn (FP.Core.val64 v)) (m := FP.Core.zmag FP.Core.b64 (FP.Core.val64 v)) (z := zv9 v) rfl h0
  have h3 : FP.Core.signed (FP.Core.sgn (FP.Core.val64 v)) (FP.Core.zmag FP.Core.b64 (FP.Core.val64 v) / FP.Core.one64) = (((zv9 v).toNat / FP.Core.one64 : Nat) : Int) := by
    rw [← h2.1, Int.toNat_natCast]
    rcases h2.2 with h4 | h4
    · rw [h4]; rfl
    · rw [h4, Nat.zero_div]; exact FP.Core.signed_zero _
  have h4 : (FP.d2i v).toInt = max (-2 ^ 31) (min (2 ^ 31 - 1) (FP.Core.signed (FP.Core.sgn (FP.Core.val64 v)) (FP.Core.zmag FP.Core.b64 (FP.Core.val64 v) / FP.Core.one64))) := h
  rw [h3] at h4
  obtain ⟨k, hk⟩ : ∃ k : Nat, (zv9 v).toNat / FP.Core.one64 = k := ⟨_, rfl⟩
  rw [hk] at h4 ⊢
  clear h h3
  omega
theorem lt99 {z : Int} (h0 : 0 ≤ z) (h1 : z < 99 * (FP.Core.one64 : Int)) : z.toNat / FP.Core.one64 < 99 := by
  rw [Nat.div_lt_iff_lt_mul U_pos]
  omega
theorem N9_le {v : UInt64} (h0 : 0 ≤ zv9 v) (h1 : zv9 v < 99 * (FP.Core.one64 : Int)) : N9 v ≤ 99 := by
  unfold N9
  exact FP.Core.nearest_le U_pos (by omega)
theorem rw9_lo {v : UInt64} (hn : FP.Core.val64 v ≠ .nan) (h0 : 0 ≤ zv9 v) (h1 : zv9 v < 99 * (FP.Core.one64 : Int)) : rw9 v = N9 v := by
  have hU := U_pos
  have hl := lt99 h0 h1
  have ei := d2i9 hn h0
  obtain ⟨i, hi⟩ : ∃ i, (zv9 v).toNat / FP.Core.one64 = i := ⟨_, rfl⟩
  rw [hi] at hl ei
  have ei : (FP.d2i v).toInt = (i : Int) := by omega
  have db : FP.Core.DInt i (FP.i2d (FP.d2i v)) := by
    have h := FP.Core.i2d_int (FP.d2i v)
    rw [ei] at h
    exact h
  obtain ⟨s1, s2⟩ := sub9 hn h0 h1 hi.symm db
  have z5 := zv9_half
  have n5 : FP.Core.val64 4602678819172646912 ≠ .nan := by decide +kernel
  have n99 : FP.Core.val64 4636666922610458624 ≠ .nan := FP.Core.DInt_ne_nan dint99
  have hdm := Nat.div_add_mod (zv9 v).toNat FP.Core.one64
  rw [hi] at hdm
  obtain ⟨rr, hr⟩ : ∃ rr, (zv9 v).toNat % FP.Core.one64 = rr := ⟨_, rfl⟩
  have hrl : rr < FP.Core.one64 := by rw [← hr]; exact Nat.mod_lt _ hU
  rw [hr] at hdm
  have s3 : zv9 (FP.dsub v (FP.i2d (FP.d2i v))) = rr := by
    rw [s2]
    have : ((FP.Core.one64 * i + rr : Nat) : Int) = zv9 v := by rw [hdm]; omega
    rw [← this, Int.natCast_add, Int.natCast_mul, Int.mul_comm]
    omega
  have g1 : ∀ o, FP.dcmp (FP.dsub v (FP.i2d (FP.d2i v))) 4602678819172646912 = some o ↔ compare (zv9 (FP.dsub v (FP.i2d (FP.d2i v)))) (zv9 4602678819172646912) = o := fun o => by
    have h : FP.dcmp (FP.dsub v (FP.i2d (FP.d2i v))) 4602678819172646912 = some (compare (zv9 (FP.dsub v (FP.i2d (FP.d2i v)))) (zv9 4602678819172646912)) := FP.Core.dcmp_zval s1 n5
    rw [h]
    exact ⟨fun z => Option.some.inj z, fun z => congrArg some z⟩
  unfold rw9
  rw [if_neg (fun h => by
    have h := FP.Core.dcmp_ge.mp h
    have h2 : zv9 4636666922610458624 ≤ zv9 v := h.2.2
    rw [zv9_99] at h2
    omega)]
  rw [ei]
  unfold N9 FP.Core.nearest
  rw [hi, hr]
  by_cases q1 : 2 * rr < FP.Core.one64
  · rw [if_pos q1, if_neg (fun h => by
      rcases h with h | ⟨h, _⟩
      · rw [g1, FP.Core.compare_gt_iff, s3] at h; omega
      · rw [g1, FP.Core.compare_eq_iff, s3] at h; omega)]
  · rw [if_neg q1]
    by_cases q2 : FP.Core.one64 < 2 * rr
    · rw [if_pos q2, if_pos (Or.inl (by rw [g1, FP.Core.compare_gt_iff, s3]; omega))]
      omega
    · rw [if_neg q2]
      by_cases q3 : i % 2 = 1
      · rw [if_pos (Or.inr ⟨by rw [g1, FP.Core.compare_eq_iff, s3]; omega, by omega⟩)]
        omega
      · rw [if_neg (fun h => by
          rcases h with h | ⟨_, h⟩
          · rw [g1, FP.Core.compare_gt_iff, s3] at h; omega
          · omega)]
        omega
theorem rw9_hi {v : UInt64} (hn : FP.Core.val64 v ≠ .nan) (h1 : 99 * (FP.Core.one64 : Int) ≤ zv9 v) : rw9 v = 99 := by
  unfold rw9
  exact if_pos (FP.Core.dcmp_ge.mpr ⟨hn, FP.Core.DInt_ne_nan dint99, by
    show zv9 4636666922610458624 ≤ zv9 v
    rw [zv9_99]; exact h1⟩)
theorem nearest_add {k Z B : Nat} (hB : 0 < B) (hk : k % 2 = 0) : FP.Core.nearest (k * B + Z) B = k + FP.Core.nearest Z B := by
  unfold FP.Core.nearest
  rw [show k * B + Z = Z + k * B by omega, Nat.add_mul_mod_self_right, Nat.add_mul_div_right _ _ hB]
  split
  · omega
  · split
    · omega
    · omega
theorem add9 {v b : UInt64} (hb : b = 4841369599423283200) (hn : FP.Core.val64 v ≠ .nan) (h0 : 0 ≤ zv9 v) (h1 : zv9 v < 99 * (FP.Core.one64 : Int)) : FP.Core.DInt ((4503599627370496 + N9 v : Nat) : Int) (FP.dadd b v) := by
  have hU := U_pos
  obtain ⟨s, c, q, ev, ez⟩ := zv9_fin hn h0 (by omega)
  have fv := FP.Core.val64_fits v
  rw [ev] at fv
  have zb : zv9 b = 4503599627370496 * (FP.Core.one64 : Int) := by rw [hb]; exact zv9_52
  have nb : FP.Core.val64 b ≠ .nan := by rw [hb]; decide +kernel
  obtain ⟨t, d, r, eb, ezb⟩ := zv9_fin nb (by omega) (by omega)
  have fb := FP.Core.val64_fits b
  rw [eb] at fb
  obtain ⟨sg, m, e, es, he, hu⟩ := FP.Core.sum_units (f := FP.Core.b64) fb fv
  have hv : FP.Core.val64 (FP.dadd b v) = FP.Core.round FP.Core.b64 (.fin sg m e) := by
    have h2 : FP.Core.val64 (FP.dadd b v) = FP.Core.round FP.Core.b64 (FP.Core.exactSum (FP.Core.val64 b) (FP.Core.val64 v)) := FP.Core.val64_dadd b v
    rw [h2, ev, eb]
    exact congrArg _ es
  have hz : FP.Core.signed sg (FP.Core.inUnits m e FP.Core.b64.qmin) = 4503599627370496 * (FP.Core.one64 : Int) + zv9 v := by
    rw [hu]
    have z1 : FP.Core.zval FP.Core.b64 (.fin s c q) = zv9 v := by unfold zv9; rw [ev]
    have z2 : FP.Core.zval FP.Core.b64 (.fin t d r) = zv9 b := by unfold zv9; rw [eb]
    rw [z1, z2, zb]
  have hM := sg9 hz (by omega)
  have hs : sg = false := by rcases hM.2 with h | h; exact h; omega
  have hA : FP.Core.inUnits m e FP.Core.b64.qmin = 4503599627370496 * FP.Core.one64 + (zv9 v).toNat := by omega
  obtain ⟨A, eA⟩ : ∃ A, 4503599627370496 * FP.Core.one64 + (zv9 v).toNat = A := ⟨_, rfl⟩
  have qm : FP.Core.b64.qmin = -1074 := FP.Core.qmin_b64
  have hQ : FP.Core.quantum FP.Core.b64 A 1 FP.Core.b64.qmin = 0 := by
    refine FP.Core.quantum_eq (by omega) (by decide) (by omega) ?_ (Or.inr ?_)
    · unfold FP.Core.Below
      rw [show (2 : Nat) ^ (0 - FP.Core.b64.qmin + (FP.Core.b64.p : Int)).toNat = 9007199254740992 * FP.Core.one64 by decide +kernel, show (-(0 - FP.Core.b64.qmin + (FP.Core.b64.p : Int))).toNat = 0 by decide]
      omega
    · unfold FP.Core.Below
      rw [show (2 : Nat) ^ (0 - FP.Core.b64.qmin + ((FP.Core.b64.p : Int) - 1)).toNat = 4503599627370496 * FP.Core.one64 by decide +kernel, show (-(0 - FP.Core.b64.qmin + ((FP.Core.b64.p : Int) - 1))).toNat = 0 by decide]
      omega
  have hN := N9_le h0 h1
  have hR : FP.Core.round FP.Core.b64 (.fin sg m e) = .fin false (4503599627370496 + N9 v) 0 := by
    rw [← FP.Core.round_inUnits sg m he, hA, hs, eA]
    show FP.Core.roundRatio FP.Core.b64 false A 1 FP.Core.b64.qmin = _
    unfold FP.Core.roundRatio
    rw [if_neg (by omega), hQ]
    unfold FP.Core.roundAt
    have e1 : FP.Core.unitsNum A FP.Core.b64.qmin 0 = A := by
      unfold FP.Core.unitsNum
      rw [show (FP.Core.b64.qmin - 0).toNat = 0 by decide]
      omega
    have e2 : FP.Core.unitsDen 1 FP.Core.b64.qmin 0 = FP.Core.one64 := by
      unfold FP.Core.unitsDen
      rw [Int.zero_sub, FP.Core.pow_qmin64]
      omega
    rw [e1, e2, ← eA, nearest_add hU (by decide)]
    show FP.Core.settle FP.Core.b64 false (4503599627370496 + N9 v) 0 = _
    unfold FP.Core.settle
    rw [show (2 : Nat) ^ FP.Core.b64.p = 9007199254740992 by decide, if_pos (by omega)]
    exact if_pos (by decide)
  unfold FP.Core.DInt
  rw [hv, hR]
  show FP.Core.signed false ((4503599627370496 + N9 v) * 2 ^ (0 : Int).toNat) = ((4503599627370496 + N9 v : Nat) : Int) * ((2 ^ (-(0 : Int)).toNat : Nat) : Int)
  rw [show (0 : Int).toNat = 0 from rfl, show (-(0 : Int)).toNat = 0 from rfl]
  show ((((4503599627370496 + N9 v) * 2 ^ 0 : Nat)) : Int) = _
  omega
theorem addhi9 {v b : UInt64} (hb : b = 4841369599423283200) (hn : FP.Core.val64 v ≠ .nan) (h1 : 99 * (FP.Core.one64 : Int) ≤ zv9 v) (h2 : zv9 v < 4503599627370496 * (FP.Core.one64 : Int)) : isNaN64 (FP.dadd b v) = false ∧ isNaN64 (FP.dsub (FP.dadd b v) b) = false ∧ 99 * (FP.Core.one64 : Int) ≤ zv9 (FP.dsub (FP.dadd b v) b) := by
  have hU := U_pos
  obtain ⟨s, c, q, ev, ez⟩ := zv9_fin hn (by omega) (by omega)
  have zb : zv9 b = 4503599627370496 * (FP.Core.one64 : Int) := by rw [hb]; exact zv9_52
  have nb : FP.Core.val64 b ≠ .nan := by rw [hb]; decide +kernel
  obtain ⟨t, d, r, eb, ezb⟩ := zv9_fin nb (by omega) (by omega)
  have hv : FP.Core.val64 (FP.dadd b v) = FP.Core.round FP.Core.b64 (FP.Core.exactSum (FP.Core.val64 b) (FP.Core.val64 v)) := FP.Core.val64_dadd b v
  have hw : FP.Core.val64 (FP.dsub (FP.dadd b v) b) = FP.Core.round FP.Core.b64 (FP.Core.exactSum (FP.Core.val64 (FP.dadd b v)) (FP.Core.negate (FP.Core.val64 b))) := FP.Core.val64_dsub _ b
  have fin_b : FP.Core.DFin b := ⟨t, d, r, eb⟩
  have n1 : isNaN64 (FP.dadd b v) = false := nn64.mpr (FP.Core.dadd_out (nn64.mp (vnn nb)) ⟨s, c, q, ev⟩)
  have n2 : isNaN64 (FP.dsub (FP.dadd b v) b) = false := nn64.mpr (FP.Core.dsub_out (nn64.mp n1) fin_b)
  have l1 : zv9 4841369599423283299 ≤ zv9 (FP.dadd b v) := by
    show FP.Core.zval FP.Core.b64 (FP.Core.val64 4841369599423283299) ≤ FP.Core.zval FP.Core.b64 (FP.Core.val64 (FP.dadd b v))
    rw [hv]
    refine FP.Core.sum_ge FP.Core.good_b64 ⟨t, d, r, eb⟩ ⟨s, c, q, ev⟩ (FP.Core.val64_fits _) (FP.Core.val64_fits _) (FP.Core.val64_fits _) (by decide +kernel) ?_
    show zv9 4841369599423283299 ≤ zv9 b + zv9 v
    rw [zv9_5299, zb]
    omega
  have l2 : zv9 (FP.dadd b v) ≤ zv9 4845873199050653696 := by
    show FP.Core.zval FP.Core.b64 (FP.Core.val64 (FP.dadd b v)) ≤ FP.Core.zval FP.Core.b64 (FP.Core.val64 4845873199050653696)
    rw [hv]
    refine FP.Core.sum_le FP.Core.good_b64 ⟨t, d, r, eb⟩ ⟨s, c, q, ev⟩ (FP.Core.val64_fits _) (FP.Core.val64_fits _) (FP.Core.val64_fits _) (by decide +kernel) ?_
    show zv9 b + zv9 v ≤ zv9 4845873199050653696
    rw [zv9_53, zb]
    omega
  rw [zv9_5299] at l1
  rw [zv9_53] at l2
  obtain ⟨s3, c3, q3, ew, _⟩ := zv9_fin (nnv n1) (by omega) l2
  refine ⟨n1, n2, ?_⟩
  rw [← zv9_99]
  show FP.Core.zval FP.Core.b64 (FP.Core.val64 4636666922610458624) ≤ FP.Core.zval FP.Core.b64 (FP.Core.val64 (FP.dsub (FP.dadd b v) b))
  rw [hw]
  refine FP.Core.sum_ge FP.Core.good_b64 ⟨s3, c3, q3, ew⟩ ⟨!t, d, r, by rw [eb]; rfl⟩ (FP.Core.val64_fits _) (FP.Core.negate_fits (FP.Core.val64_fits _)) (FP.Core.val64_fits _) (by decide +kernel) ?_
  rw [FP.Core.zval_negate]
  show zv9 4636666922610458624 ≤ zv9 (FP.dadd b v) + - zv9 b
  rw [zv9_99, zb]
  omega
/-- what the rounding answers -/
def RT9 (v w : UInt64) : Prop := isNaN64 w = false ∧ (zv9 v < 99 * (FP.Core.one64 : Int) → FP.Core.DInt (N9 v) w) ∧ (99 * (FP.Core.one64 : Int) ≤ zv9 v → 99 * (FP.Core.one64 : Int) ≤ zv9 w)
theorem RT9.ans {v w : UInt64} (hn : FP.Core.val64 v ≠ .nan) (h0 : 0 ≤ zv9 v) (h : RT9 v w) : (FP.dcmp w 4636666922610458624 = some .gt → rw9 v = 99) ∧ (FP.dcmp w 4636666922610458624 ≠ some .gt → FP.d2i w = iI (rw9 v)) := by
  by_cases hl : zv9 v < 99 * (FP.Core.one64 : Int)
  · have hd := h.2.1 hl
    have hN := N9_le h0 hl
    rw [rw9_lo hn h0 hl]
    have hc : FP.dcmp w 4636666922610458624 = some (compare ((N9 v : Nat) : Int) 99) := FP.Core.dcmp_int hd dint99
    refine ⟨fun hg => ?_, fun _ => ?_⟩
    · rw [hc, Option.some.injEq, FP.Core.compare_gt_iff] at hg
      omega
    · exact FP.Core.d2i_int (a := iI (N9 v)) (by rw [iI_toInt (by omega) (by omega)]; exact hd)
  · have hw := h.2.2 (by omega)
    have hnw := nnv h.1
    rw [rw9_hi hn (by omega)]
    refine ⟨fun _ => rfl, fun hg => ?_⟩
    have hz : zv9 w = 99 * (FP.Core.one64 : Int) := by
      by_cases e : zv9 w = 99 * (FP.Core.one64 : Int)
      · exact e
      · refine absurd (FP.Core.dcmp_gt.mpr ⟨hnw, FP.Core.DInt_ne_nan dint99, ?_⟩) hg
        show zv9 4636666922610458624 < zv9 w
        rw [zv9_99]
        omega
    have hU := U_pos
    have hd := d2i9 hnw (by omega)
    rw [hz, show (99 * (FP.Core.one64 : Int)).toNat = 99 * FP.Core.one64 by omega, Nat.mul_div_cancel _ hU] at hd
    have hd : (FP.d2i w).toInt = 99 := hd
    rw [← iI_of (FP.d2i w), hd]
/-- the number of an approximate weight times a factor -/
theorem apv9 {a : UInt32} {fa : Int} (ha : apOK a) (h1 : 1 ≤ fa) (h2 : fa ≤ 100) : isNaN64 (FP.f2d a) = false ∧ isNaN64 (FP.dmul (FP.f2d a) (FP.i2d (iI fa))) = false ∧ 0 ≤ zv9 (FP.dmul (FP.f2d a) (FP.i2d (iI fa))) := by
  have na : FP.Core.fIsNaN a = false := nn32.mp ha.1
  have na2 : FP.Core.val32 a ≠ .nan := (FP.Core.notNaN_iff32 a).mp na
  have ef : FP.Core.val64 (FP.f2d a) = FP.Core.round FP.Core.b64 (FP.Core.val32 a) := by
    have h : FP.f2d a = FP.Core.f2d a := FP.f2d_core na
    rw [h]
    exact FP.Core.val64_f2d a
  have di : FP.Core.DInt fa (FP.i2d (iI fa)) := by
    have h := FP.Core.i2d_int (iI fa)
    rw [iI_toInt (by omega) (by omega)] at h
    exact h
  obtain ⟨t, d, r, ed⟩ : ∃ t d r, FP.Core.val64 (FP.i2d (iI fa)) = .fin t d r := by
    unfold FP.Core.DInt at di
    cases e : FP.Core.val64 (FP.i2d (iI fa)) with
    | nan => rw [e] at di; exact di.elim
    | inf s => rw [e] at di; exact di.elim
    | fin t d r => exact ⟨t, d, r, rfl⟩
  have hw : FP.Core.Whole fa (.fin t d r) := by have h := di; unfold FP.Core.DInt at h; rw [ed] at h; exact h
  have ht : t = false := by
    have h := FP.Core.whole_sign hw (by omega)
    rw [h]
    exact decide_eq_false (by omega)
  have hd0 : d ≠ 0 := fun h => absurd ((FP.Core.whole_zero hw).mp h) (by omega)
  have nz : ¬ FP.Core.DZero (FP.i2d (iI fa)) := fun ⟨s, q, h⟩ => by
    rw [ed] at h
    injection h with _ h4 _
    exact hd0 h4
  have nf : isNaN64 (FP.f2d a) = false := vnn (by rw [ef]; exact fun h => na2 (FP.Core.round_nan.mp h))
  have nm : isNaN64 (FP.dmul (FP.f2d a) (FP.i2d (iI fa))) = false := nn64.mpr (FP.Core.dmul_out' (nn64.mp nf) ⟨t, d, r, ed⟩ nz)
  refine ⟨nf, nm, ?_⟩
  have hv : FP.Core.val64 (FP.dmul (FP.f2d a) (FP.i2d (iI fa))) = FP.Core.round FP.Core.b64 (FP.Core.exactProduct (FP.Core.round FP.Core.b64 (FP.Core.val32 a)) (.fin false d r)) := by
    have h : FP.Core.val64 (FP.dmul (FP.f2d a) (FP.i2d (iI fa))) = FP.Core.round FP.Core.b64 (FP.Core.exactProduct (FP.Core.val64 (FP.f2d a)) (FP.Core.val64 (FP.i2d (iI fa)))) := FP.Core.val64_dmul _ _
    rw [h, ef, ed, ht]
  have hp : ∀ x : FP.Core.Datum, FP.Core.sgn x = false → 0 ≤ FP.Core.zval FP.Core.b64 x := fun x h => by
    unfold FP.Core.zval
    rw [h]
    exact Int.natCast_nonneg _
  have za : 0 ≤ FP.Core.zval FP.Core.b32 (FP.Core.val32 a) := by
    refine Int.not_lt.mp (fun h => ha.2 (FP.Core.fcmp_lt.mpr ⟨na2, by decide +kernel, ?_⟩))
    rw [FP.Core.zval32_zero]
    exact h
  show 0 ≤ FP.Core.zval FP.Core.b64 (FP.Core.val64 (FP.dmul (FP.f2d a) (FP.i2d (iI fa))))
  rw [hv]
  cases ea : FP.Core.val32 a with
  | nan => exact absurd ea na2
  | inf s =>
    rw [ea] at za
    have hs := (sg9 (s := s) (m := FP.Core.b32.tails * 2 ^ (FP.Core.b32.exps - 2)) rfl za).2
    have hs : s = false := by
      rcases hs with h | h
      · exact h
      · exact absurd h (by decide +kernel)
    rw [hs]
    show 0 ≤ FP.Core.zval FP.Core.b64 (FP.Core.round FP.Core.b64 (if d = 0 then .nan else .inf (false != false)))
    rw [if_neg hd0]
    exact hp _ rfl
  | fin s c q =>
    rw [ea] at za
    have hs := (sg9 (s := s) (m := FP.Core.inUnits c q FP.Core.b32.qmin) rfl za).2
    by_cases hsf : s = false
    · rw [hsf]
      show 0 ≤ FP.Core.zval FP.Core.b64 (FP.Core.round FP.Core.b64 (FP.Core.exactProduct (FP.Core.roundRatio FP.Core.b64 false c 1 q) (.fin false d r)))
      have hsg := FP.Core.sgn_roundRatio FP.Core.b64 false c 1 q
      cases ex : FP.Core.roundRatio FP.Core.b64 false c 1 q with
      | nan => exact absurd ex (FP.Core.roundRatio_ne_nan _ _ _ _ _)
      | inf s2 =>
        rw [ex] at hsg
        have hsg : s2 = false := hsg
        rw [hsg]
        show 0 ≤ FP.Core.zval FP.Core.b64 (FP.Core.round FP.Core.b64 (if d = 0 then .nan else .inf (false != false)))
        rw [if_neg hd0]
        exact hp _ rfl
      | fin s2 c2 q2 =>
        rw [ex] at hsg
        have hsg : s2 = false := hsg
        rw [hsg]
        exact hp _ (FP.Core.sgn_roundRatio _ _ _ _ _)
    · have hc : c = 0 := by
        rcases hs with h | h
        · exact absurd h hsf
        · unfold FP.Core.inUnits at h
          rcases Nat.mul_eq_zero.mp h with h | h
          · exact h
          · exact absurd h (Nat.ne_of_gt (Nat.two_pow_pos _))
      rw [hc]
      have e1 : FP.Core.round FP.Core.b64 (.fin s 0 q) = .fin s 0 FP.Core.b64.qmin := by
        show FP.Core.roundRatio FP.Core.b64 s 0 1 q = _
        exact if_pos rfl
      rw [e1]
      show 0 ≤ FP.Core.zval FP.Core.b64 (FP.Core.roundRatio FP.Core.b64 (s != false) (0 * d) 1 (FP.Core.b64.qmin + r))
      rw [Nat.zero_mul]
      have e2 : FP.Core.roundRatio FP.Core.b64 (s != false) 0 1 (FP.Core.b64.qmin + r) = .fin (s != false) 0 FP.Core.b64.qmin := if_pos rfl
      rw [e2]
      show 0 ≤ FP.Core.signed (s != false) (FP.Core.inUnits 0 FP.Core.b64.qmin FP.Core.b64.qmin)
      rw [show FP.Core.inUnits 0 FP.Core.b64.qmin FP.Core.b64.qmin = 0 from Nat.zero_mul _, FP.Core.signed_zero]
      exact Int.le_refl _
theorem hnn9 {a : UInt32} (ha : apOK a) : ∀ fa, 1 ≤ fa → fa ≤ 100 → isNaN64 (FP.dmul (FP.f2d a) (FP.i2d (iI fa))) = false ∧ isNaN64 (FP.f2d a) = false ∧ 0 ≤ (FP.d2i (FP.dmul (FP.f2d a) (FP.i2d (iI fa)))).toInt ∧ 0 ≤ rw9 (FP.dmul (FP.f2d a) (FP.i2d (iI fa))) ∧ rw9 (FP.dmul (FP.f2d a) (FP.i2d (iI fa))) ≤ 99 := by
  intro fa h1 h2
  obtain ⟨n1, n2, h0⟩ := apv9 ha h1 h2
  refine ⟨n2, n1, ?_, ?_⟩
  · rw [d2i9 (nnv n2) h0]
    have := Int.natCast_nonneg ((zv9 (FP.dmul (FP.f2d a) (FP.i2d (iI fa)))).toNat / FP.Core.one64)
    exact Int.le_min.mpr ⟨by decide, this⟩
  · by_cases hl : zv9 (FP.dmul (FP.f2d a) (FP.i2d (iI fa))) < 99 * (FP.Core.one64 : Int)
    · rw [rw9_lo (nnv n2) h0 hl]
      have := N9_le h0 hl
      omega
    · rw [rw9_hi (nnv n2) (by omega)]
      omega
