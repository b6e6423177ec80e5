theorem pr_allocate {σ : S9} (J : J9 σ) {s y z : Int} (hs : (-2147483648 ≤ s ∧ s < 2147483648)) (hy : (-2147483648 ≤ y ∧ y < 2147483648)) (hz9 : (-2147483648 ≤ z ∧ z < 2147483648)) : Cc 8 mX9_allocate [.ref 0, .int (iI s), .int (iI y), .int (iI z)] σ (QI (fun u1 σ1 => Cc 8 mX10_allocate [.ref 97, .int (iI s), .int (iI y), .int (iI z)] σ1 (QI (fun u2 σ2 => u2 = u1 ∧ J9 σ2)))) := by
  obtain ⟨⟨⟨n, R, lf, rg, wt, lev, stt, ap, str, v, cC, cM⟩, ⟨kc, kf, iv, iC, iM⟩, ⟨lc, l1, l2, lv, lC, lM⟩, hS, hP⟩, hz⟩ := id J
  have hn := v.1
  have hR := v.2.1
  refine c_X9_allocate hs hy hz9 (fun z => ?_) (fun z1 z2 => ?_) (fun z1 z2 σ1 e1 g0 g1 gz => ?_)
  · exact c_X10_allocate hs hy hz9 (fun y => ⟨rfl, J⟩) (fun y => absurd y z) (fun y => absurd y z)
  · exact c_X10_allocate hs hy hz9 (fun y => absurd z1 y) (fun y1 y2 => ⟨rfl, J⟩) (fun y1 y2 => by omega)
  refine c_X10_allocate hs hy hz9 (fun y => absurd z1 y) (fun y1 y2 => by omega) (fun y1 y2 τ e f107 f108 f109 f110 f111 => ⟨rfl, ?_⟩)
  rw [(e1 107 (by omega)).1] at f107
  rw [(e1 108 (by omega)).1] at f108
  rw [(e1 109 (by omega)).2.1] at f109
  rw [(e1 110 (by omega)).2.2.1] at f110
  rw [(e1 111 (by omega)).2.2.2] at f111
  refine J.slot ((e1.mono (fun k hk => by omega)).tr (e.mono (fun k hk => by omega))) (fun i hi => ?_)
  have c1 : gI τ (81 + 4 * i) = gI σ1 (81 + 4 * i) := (e (81 + 4 * i) (by omega)).1
  have c2 : gL τ (82 + 4 * i) = gL σ1 (82 + 4 * i) := (e (82 + 4 * i) (by omega)).2.1
  have c3 : gF τ (83 + 4 * i) = gF σ1 (83 + 4 * i) := (e (83 + 4 * i) (by omega)).2.2.1
  have c4 : gD τ (84 + 4 * i) = gD σ1 (84 + 4 * i) := (e (84 + 4 * i) (by omega)).2.2.2
  by_cases q : i = s.toNat
  · have hi2 : (i : Int) = s := by omega
    have a1 : gI τ 107 i = y := by rw [f107, hi2, up9_eq]
    have a2 : gI τ 108 i = z := by rw [f108, hi2, up9_eq]
    have d1 : ∀ j : Int, 0 ≤ j → j < 40 → gL τ 109 (40 * i + j) = 0 := fun j a b => by rw [f109, hi2]; exact if_pos (by omega)
    have d2 : ∀ j : Int, 0 ≤ j → j < 40 → gF τ 110 (40 * i + j) = 0 := fun j a b => by rw [f110, hi2]; exact if_pos (by omega)
    have d3 : ∀ j : Int, 0 ≤ j → j < 40 → gD τ 111 (40 * i + j) = 0 := fun j a b => by rw [f111, hi2]; exact if_pos (by omega)
    rw [← q] at g0 g1 gz
    refine ⟨by rw [c1, a1]; exact g0, by rw [a1]; omega, fun h => by omega, fun _ => by rw [c1, a2]; exact g1, by rw [c1, g1]; omega, fun _ j a b => ?_, fun _ j a b => ?_, fun _ j a b => ?_, fun _ j a b => ?_⟩
    · rw [c2, (gz j a b).1, d1 j a b]; exact ⟨rfl, by decide⟩
    · rw [c2, (gz j a b).1]; decide
    · rw [c3, (gz j a b).2.1, d2 j a b]; exact fsz32
    · rw [c4, (gz j a b).2.2, d3 j a b]; exact fsz64
  · refine (hS i hi).oth (c1.trans (e1 _ (by omega)).1) (c2.trans (e1 _ (by omega)).2.1) (c3.trans (e1 _ (by omega)).2.2.1) (c4.trans (e1 _ (by omega)).2.2.2) ?_ ?_ (fun j a b => ?_) (fun j a b => ?_) (fun j a b => ?_)
    · rw [f107, up9_ne (by omega)]
    · rw [f108, up9_ne (by omega)]
    · rw [f109]; exact if_neg (by omega)
    · rw [f110]; exact if_neg (by omega)
    · rw [f111]; exact if_neg (by omega)
theorem pr_release {σ : S9} (J : J9 σ) {s : Int} (hs : (-2147483648 ≤ s ∧ s < 2147483648)) : Cc 8 mX9_release [.ref 0, .int (iI s)] σ (QI (fun u1 σ1 => Cc 8 mX10_release [.ref 97, .int (iI s)] σ1 (QI (fun u2 σ2 => u2 = u1 ∧ J9 σ2)))) := by
  obtain ⟨⟨⟨n, R, lf, rg, wt, lev, stt, ap, str, v, cC, cM⟩, ⟨kc, kf, iv, iC, iM⟩, ⟨lc, l1, l2, lv, lC, lM⟩, hS, hP⟩, hz⟩ := id J
  have hn := v.1
  have hR := v.2.1
  have hsl : ∀ i : Nat, i < 4 → (-1 ≤ gI σ (81 + 4 * i) 0 ∧ gI σ (81 + 4 * i) 0 ≤ 3) ∧ (0 ≤ gI σ (81 + 4 * i) 1 ∧ gI σ (81 + 4 * i) 1 ≤ 40) := fun i hi => ⟨by rw [(hS i hi).1]; exact (hS i hi).2.1, (hS i hi).2.2.2.2.1⟩
  have hT : ∀ i, 0 ≤ i → i < 4 → (-1 ≤ gI σ 107 i ∧ gI σ 107 i ≤ 3) := fun i a b => by
    have h := (hS i.toNat (by omega)).2.1
    rw [Int.toNat_of_nonneg a] at h
    exact h
  have hL : ∀ i, 0 ≤ i → i < 4 → gI σ 107 i ≠ -1 → (0 ≤ gI σ 108 i ∧ gI σ 108 i ≤ 40) := fun i a b z => by
    have h := hS i.toNat (by omega)
    unfold Slt at h
    rw [Int.toNat_of_nonneg a] at h
    rw [← h.2.2.2.1 z]
    exact h.2.2.2.2.1
  have hq : ∀ i, 0 ≤ i → i < 4 → gI σ (81 + 4 * i.toNat) 0 = gI σ 107 i ∧ (gI σ 107 i = -1 → gI σ (81 + 4 * i.toNat) 1 = 0) ∧ (gI σ 107 i ≠ -1 → gI σ (81 + 4 * i.toNat) 1 = gI σ 108 i) ∧ ((gI σ 107 i = 0 ∨ gI σ 107 i = 1) → ∀ j, 0 ≤ j → j < 40 → gL σ (82 + 4 * i.toNat) j = gL σ 109 (40 * i + j) ∧ (-9223372036854775808 ≤ gL σ (82 + 4 * i.toNat) j ∧ gL σ (82 + 4 * i.toNat) j < 9223372036854775808)) ∧ (gI σ 107 i = 0 → ∀ j, 0 ≤ j → j < 40 → -2147483648 ≤ gL σ (82 + 4 * i.toNat) j ∧ gL σ (82 + 4 * i.toNat) j < 2147483648) ∧ (gI σ 107 i = 2 → ∀ j, 0 ≤ j → j < 40 → fs32 (gF σ (83 + 4 * i.toNat) j) (gF σ 110 (40 * i + j))) ∧ (gI σ 107 i = 3 → ∀ j, 0 ≤ j → j < 40 → fs64 (gD σ (84 + 4 * i.toNat) j) (gD σ 111 (40 * i + j))) := fun i a b => by
    have h := hS i.toNat (by omega)
    unfold Slt at h
    rw [Int.toNat_of_nonneg a] at h
    exact ⟨h.1, h.2.2.1, h.2.2.2.1, h.2.2.2.2.2.1, h.2.2.2.2.2.2.1, h.2.2.2.2.2.2.2.1, h.2.2.2.2.2.2.2.2⟩
  have KR : (0 ≤ s ∧ s < 4) → ∀ σ1, eq9 (fun k => ¬ (81 + 4 * s.toNat ≤ k ∧ k ≤ 84 + 4 * s.toNat)) σ σ1 → gI σ1 (81 + 4 * s.toNat) 0 = -1 → gI σ1 (81 + 4 * s.toNat) 1 = 0 → J9 (sI σ1 107 s (-1)) := by
    intro zs σ1 e1 g0 g1
    obtain ⟨τ, eτ⟩ : ∃ τ, sI σ1 107 s (-1) = τ := ⟨_, rfl⟩
    rw [eτ]
    have e : eq9 (fun k => k ≠ 107) σ1 τ := by rw [← eτ]; exact eq9.aI (fun z => z rfl)
    have f107 : gI τ 107 = up9 (gI σ 107) s (-1) := by rw [← eτ, gI_aI_eq, (e1 107 (by omega)).1]
    refine J.slot ((e1.mono (fun k hk => by omega)).tr (e.mono (fun k hk => by omega))) (fun i hi => ?_)
    have c1 : gI τ (81 + 4 * i) = gI σ1 (81 + 4 * i) := (e (81 + 4 * i) (by omega)).1
    by_cases q : i = s.toNat
    · have hi2 : (i : Int) = s := by omega
      have a1 : gI τ 107 i = -1 := by rw [f107, hi2, up9_eq]
      rw [← q] at g0 g1
      exact ⟨by rw [c1, a1]; exact g0, by rw [a1]; omega, fun _ => by rw [c1]; exact g1, fun h => absurd a1 h, by rw [c1, g1]; omega, fun h => by omega, fun h => by omega, fun h => by omega, fun h => by omega⟩
    · refine (hS i hi).oth (c1.trans (e1 _ (by omega)).1) ?_ ?_ ?_ ?_ ?_ (fun j a b => ?_) (fun j a b => ?_) (fun j a b => ?_)
      · rw [(e (82 + 4 * i) (by omega)).2.1, (e1 (82 + 4 * i) (by omega)).2.1]
      · rw [(e (83 + 4 * i) (by omega)).2.2.1, (e1 (83 + 4 * i) (by omega)).2.2.1]
      · rw [(e (84 + 4 * i) (by omega)).2.2.2, (e1 (84 + 4 * i) (by omega)).2.2.2]
      · rw [f107, up9_ne (by omega)]
      · rw [(e 108 (by omega)).1, (e1 108 (by omega)).1]
      · rw [(e 109 (by omega)).2.1, (e1 109 (by omega)).2.1]
      · rw [(e 110 (by omega)).2.2.1, (e1 110 (by omega)).2.2.1]
      · rw [(e 111 (by omega)).2.2.2, (e1 111 (by omega)).2.2.2]
  refine c_X9_release hsl hs (fun z => ?_) (fun z1 z2 σ1 e1 g0 g1 gz => ?_) (fun z1 z2 σ1 e1 g0 g1 gz => ?_)
  · exact c_X10_release hT hL hs (fun y => ⟨rfl, J⟩) (fun y => absurd y z) (fun y => absurd y z)
  all_goals
    have h0 := (hq s z1.1 z1.2).1
    have q7 : gI σ1 107 = gI σ 107 := (e1 107 (by omega)).1
    have q8 : gI σ1 108 = gI σ 108 := (e1 108 (by omega)).1
  · exact c_X10_release (by rw [q7]; exact hT) (by rw [q7, q8]; exact hL) hs (fun y => absurd z1 y) (fun y1 y2 => ⟨rfl, KR z1 σ1 e1 g0 g1⟩) (fun y1 y2 => by rw [q7] at y2; omega)
  · exact c_X10_release (by rw [q7]; exact hT) (by rw [q7, q8]; exact hL) hs (fun y => absurd z1 y) (fun y1 y2 => by rw [q7] at y2; omega) (fun y1 y2 => ⟨rfl, KR z1 σ1 e1 g0 g1⟩)
theorem pr_putElement {σ : S9} (J : J9 σ) {s x y : Int} (hy : (-9223372036854775808 ≤ y ∧ y < 9223372036854775808)) (hs : (-2147483648 ≤ s ∧ s < 2147483648)) (hx : (-2147483648 ≤ x ∧ x < 2147483648)) : Cc 8 mX9_putElement [.ref 0, .int (iI s), .int (iI x), .long (lI y)] σ (QI (fun u1 σ1 => Cc 8 mX10_putElement [.ref 97, .int (iI s), .int (iI x), .long (lI y)] σ1 (QI (fun u2 σ2 => u2 = u1 ∧ J9 σ2)))) := by
  obtain ⟨⟨⟨n, R, lf, rg, wt, lev, stt, ap, str, v, cC, cM⟩, ⟨kc, kf, iv, iC, iM⟩, ⟨lc, l1, l2, lv, lC, lM⟩, hS, hP⟩, hz⟩ := id J
  have hn := v.1
  have hR := v.2.1
  have hsl : ∀ i : Nat, i < 4 → (-1 ≤ gI σ (81 + 4 * i) 0 ∧ gI σ (81 + 4 * i) 0 ≤ 3) ∧ (0 ≤ gI σ (81 + 4 * i) 1 ∧ gI σ (81 + 4 * i) 1 ≤ 40) := fun i hi => ⟨by rw [(hS i hi).1]; exact (hS i hi).2.1, (hS i hi).2.2.2.2.1⟩
  have hT : ∀ i, 0 ≤ i → i < 4 → (-1 ≤ gI σ 107 i ∧ gI σ 107 i ≤ 3) := fun i a b => by
    have h := (hS i.toNat (by omega)).2.1
    rw [Int.toNat_of_nonneg a] at h
    exact h
  have hL : ∀ i, 0 ≤ i → i < 4 → gI σ 107 i ≠ -1 → (0 ≤ gI σ 108 i ∧ gI σ 108 i ≤ 40) := fun i a b z => by
    have h := hS i.toNat (by omega)
    unfold Slt at h
    rw [Int.toNat_of_nonneg a] at h
    rw [← h.2.2.2.1 z]
    exact h.2.2.2.2.1
  have hq : ∀ i, 0 ≤ i → i < 4 → gI σ (81 + 4 * i.toNat) 0 = gI σ 107 i ∧ (gI σ 107 i = -1 → gI σ (81 + 4 * i.toNat) 1 = 0) ∧ (gI σ 107 i ≠ -1 → gI σ (81 + 4 * i.toNat) 1 = gI σ 108 i) ∧ ((gI σ 107 i = 0 ∨ gI σ 107 i = 1) → ∀ j, 0 ≤ j → j < 40 → gL σ (82 + 4 * i.toNat) j = gL σ 109 (40 * i + j) ∧ (-9223372036854775808 ≤ gL σ (82 + 4 * i.toNat) j ∧ gL σ (82 + 4 * i.toNat) j < 9223372036854775808)) ∧ (gI σ 107 i = 0 → ∀ j, 0 ≤ j → j < 40 → -2147483648 ≤ gL σ (82 + 4 * i.toNat) j ∧ gL σ (82 + 4 * i.toNat) j < 2147483648) ∧ (gI σ 107 i = 2 → ∀ j, 0 ≤ j → j < 40 → fs32 (gF σ (83 + 4 * i.toNat) j) (gF σ 110 (40 * i + j))) ∧ (gI σ 107 i = 3 → ∀ j, 0 ≤ j → j < 40 → fs64 (gD σ (84 + 4 * i.toNat) j) (gD σ 111 (40 * i + j))) := fun i a b => by
    have h := hS i.toNat (by omega)
    unfold Slt at h
    rw [Int.toNat_of_nonneg a] at h
    exact ⟨h.1, h.2.2.1, h.2.2.2.1, h.2.2.2.2.2.1, h.2.2.2.2.2.2.1, h.2.2.2.2.2.2.2.1, h.2.2.2.2.2.2.2.2⟩
  have KW : (0 ≤ s ∧ s < 4) → gI σ 107 s ≠ -1 → (0 ≤ x ∧ x < 40) → ∀ τ, eq9 (fun k => k ≠ 82 + 4 * s.toNat ∧ k ≠ 83 + 4 * s.toNat ∧ k ≠ 84 + 4 * s.toNat ∧ k ≠ 109 ∧ k ≠ 110 ∧ k ≠ 111) σ τ → (∀ j, j < 40 * s ∨ 40 * s + 40 ≤ j → gL τ 109 j = gL σ 109 j ∧ gF τ 110 j = gF σ 110 j ∧ gD τ 111 j = gD σ 111 j) → ((gI σ 107 s = 0 ∨ gI σ 107 s = 1) → ∀ j, 0 ≤ j → j < 40 → gL τ (82 + 4 * s.toNat) j = gL τ 109 (40 * s + j) ∧ (-9223372036854775808 ≤ gL τ (82 + 4 * s.toNat) j ∧ gL τ (82 + 4 * s.toNat) j < 9223372036854775808)) → (gI σ 107 s = 0 → ∀ j, 0 ≤ j → j < 40 → -2147483648 ≤ gL τ (82 + 4 * s.toNat) j ∧ gL τ (82 + 4 * s.toNat) j < 2147483648) → (gI σ 107 s = 2 → ∀ j, 0 ≤ j → j < 40 → fs32 (gF τ (83 + 4 * s.toNat) j) (gF τ 110 (40 * s + j))) → (gI σ 107 s = 3 → ∀ j, 0 ≤ j → j < 40 → fs64 (gD τ (84 + 4 * s.toNat) j) (gD τ 111 (40 * s + j))) → J9 τ := by
    intro zs hty zx τ e fo k1 k2 k3 k4
    refine J.slot (e.mono (fun k hk => by omega)) (fun i hi => ?_)
    have c1 : gI τ (81 + 4 * i) = gI σ (81 + 4 * i) := (e (81 + 4 * i) (by omega)).1
    have a1 : gI τ 107 = gI σ 107 := (e 107 (by omega)).1
    have a2 : gI τ 108 = gI σ 108 := (e 108 (by omega)).1
    by_cases q : i = s.toNat
    · have hi2 : (i : Int) = s := by omega
      have h := hS i hi
      unfold Slt at h ⊢
      rw [c1, a1, a2]
      rw [hi2] at h ⊢
      rw [← q] at k1 k2 k3 k4
      exact ⟨h.1, h.2.1, h.2.2.1, h.2.2.2.1, h.2.2.2.2.1, k1, k2, k3, k4⟩
    · refine (hS i hi).oth c1 ?_ ?_ ?_ (by rw [a1]) (by rw [a2]) (fun j a b => (fo _ (by omega)).1) (fun j a b => (fo _ (by omega)).2.1) (fun j a b => (fo _ (by omega)).2.2)
      · exact (e (82 + 4 * i) (by omega)).2.1
      · exact (e (83 + 4 * i) (by omega)).2.2.1
      · exact (e (84 + 4 * i) (by omega)).2.2.2
  refine c_X9_putElement hsl hs hx (fun z => ?_) (fun z1 z2 => ?_) (fun z1 z2 z3 => ?_) (fun z1 z2 => ⟨fun z3 => ?_, fun z3 => ?_, fun z3 => ?_, fun z3 => ?_⟩)
  · exact c_X10_putElement hT hL hs hx (fun y => ⟨rfl, J⟩) (fun y => absurd y z) (fun y => absurd y z) (fun y => absurd y z)
  · have h0 := (hq s z1.1 z1.2).1
    exact c_X10_putElement hT hL hs hx (fun y => absurd z1 y) (fun y1 y2 => ⟨rfl, J⟩) (fun y1 y2 => by omega) (fun y1 y2 => by omega)
  · have h := hq s z1.1 z1.2
    have h0 := h.1
    have h4 := h.2.2.1 (by omega)
    exact c_X10_putElement hT hL hs hx (fun y => absurd z1 y) (fun y1 y2 => by omega) (fun y1 y2 y3 => ⟨rfl, J⟩) (fun y1 y2 y3 => by omega)
  · have hb := (hsl s.toNat (by omega)).2
    have h := hq s z1.1 z1.2
    have h0 := h.1
    have hty : gI σ 107 s ≠ -1 := by omega
    have hln := h.2.2.1 hty
    obtain ⟨σ1, eσ⟩ : ∃ σ1, sL σ (82 + 4 * s.toNat) x (iI y).toInt = σ1 := ⟨_, rfl⟩
    rw [eσ]
    have E1 : eq9 (fun k => k ≠ 82 + 4 * s.toNat ∧ k ≠ 83 + 4 * s.toNat ∧ k ≠ 84 + 4 * s.toNat) σ σ1 := by rw [← eσ]; exact eq9.aL (fun z => z.1 rfl)
    have q7 : gI σ1 107 = gI σ 107 := (E1 107 (by omega)).1
    have q8 : gI σ1 108 = gI σ 108 := (E1 108 (by omega)).1
    refine c_X10_putElement (by rw [q7]; exact hT) (by rw [q7, q8]; exact hL) hs hx (fun y => absurd z1 y) (fun y1 y2 => by rw [q7] at y2; omega) (fun y1 y2 y3 => by rw [q8] at y3; omega) (fun y1 y2 y3 w w0 w1 => ⟨rfl, ?_⟩)
    rw [q7] at w0 w1
    obtain ⟨τ, eτ⟩ : ∃ τ, sD (sF (sL σ1 109 (40 * s + x) w) 110 (40 * s + x) (FP.l2f (lI y))) 111 (40 * s + x) (FP.l2d (lI y)) = τ := ⟨_, rfl⟩
    rw [eτ]
    have g109 : gL τ 109 = up9 (gL σ 109) (40 * s + x) w := by rw [← eτ]; show gL (sL σ1 109 (40 * s + x) w) 109 = _; rw [gL_aL_eq, (E1 109 (by omega)).2.1]
    have g110 : gF τ 110 = up9 (gF σ 110) (40 * s + x) (FP.l2f (lI y)) := by rw [← eτ]; show gF (sF (sL σ1 109 (40 * s + x) w) 110 (40 * s + x) (FP.l2f (lI y))) 110 = _; rw [gF_aF_eq]; show up9 (gF σ1 110) _ _ = _; rw [(E1 110 (by omega)).2.2.1]
    have g111 : gD τ 111 = up9 (gD σ 111) (40 * s + x) (FP.l2d (lI y)) := by rw [← eτ, gD_aD_eq]; show up9 (gD σ1 111) _ _ = _; rw [(E1 111 (by omega)).2.2.2]
    have E2 : eq9 (fun k => k ≠ 109 ∧ k ≠ 110 ∧ k ≠ 111) σ1 τ := by rw [← eτ]; exact ((eq9.aL (fun z => z.1 rfl)).tr (eq9.aF (fun z => z.2.1 rfl))).tr (eq9.aD (fun z => z.2.2 rfl))
    refine KW z1 hty (by omega) τ ((E1.mono (fun k hk => ⟨hk.1, hk.2.1, hk.2.2.1⟩)).tr (E2.mono (fun k hk => hk.2.2.2))) (fun j hj => ⟨by rw [g109, up9_ne (by omega)], by rw [g110, up9_ne (by omega)], by rw [g111, up9_ne (by omega)]⟩) ?_ ?_ ?_ ?_
    all_goals try (intro hh; omega)
    all_goals
      have g82 : gL τ (82 + 4 * s.toNat) = up9 (gL σ (82 + 4 * s.toNat)) x (iI y).toInt := by rw [(E2 (82 + 4 * s.toNat) (by omega)).2.1, ← eσ, gL_aL_eq]
      have ew : w = (iI y).toInt := w0 (by omega)
    · intro hh j a b
      rw [g82, g109, ew]
      by_cases qj : j = x
      · rw [qj, up9_eq, up9_eq]
        exact ⟨rfl, by have a1 := Int32.le_toInt (iI y); have a2 := Int32.toInt_lt (iI y); omega⟩
      · rw [up9_ne qj, up9_ne (by omega)]
        exact h.2.2.2.1 hh j a b
    · intro hh j a b
      rw [g82]
      by_cases qj : j = x
      · rw [qj, up9_eq]
        have a1 := Int32.le_toInt (iI y)
        have a2 := Int32.toInt_lt (iI y)
        omega
      · rw [up9_ne qj]
        exact h.2.2.2.2.1 hh j a b
  · have hb := (hsl s.toNat (by omega)).2
    have h := hq s z1.1 z1.2
    have h0 := h.1
    have hty : gI σ 107 s ≠ -1 := by omega
    have hln := h.2.2.1 hty
    obtain ⟨σ1, eσ⟩ : ∃ σ1, sL σ (82 + 4 * s.toNat) x y = σ1 := ⟨_, rfl⟩
    rw [eσ]
    have E1 : eq9 (fun k => k ≠ 82 + 4 * s.toNat ∧ k ≠ 83 + 4 * s.toNat ∧ k ≠ 84 + 4 * s.toNat) σ σ1 := by rw [← eσ]; exact eq9.aL (fun z => z.1 rfl)
    have q7 : gI σ1 107 = gI σ 107 := (E1 107 (by omega)).1
    have q8 : gI σ1 108 = gI σ 108 := (E1 108 (by omega)).1
    refine c_X10_putElement (by rw [q7]; exact hT) (by rw [q7, q8]; exact hL) hs hx (fun y => absurd z1 y) (fun y1 y2 => by rw [q7] at y2; omega) (fun y1 y2 y3 => by rw [q8] at y3; omega) (fun y1 y2 y3 w w0 w1 => ⟨rfl, ?_⟩)
    rw [q7] at w0 w1
    obtain ⟨τ, eτ⟩ : ∃ τ, sD (sF (sL σ1 109 (40 * s + x) w) 110 (40 * s + x) (FP.l2f (lI y))) 111 (40 * s + x) (FP.l2d (lI y)) = τ := ⟨_, rfl⟩
    rw [eτ]
    have g109 : gL τ 109 = up9 (gL σ 109) (40 * s + x) w := by rw [← eτ]; show gL (sL σ1 109 (40 * s + x) w) 109 = _; rw [gL_aL_eq, (E1 109 (by omega)).2.1]
    have g110 : gF τ 110 = up9 (gF σ 110) (40 * s + x) (FP.l2f (lI y)) := by rw [← eτ]; show gF (sF (sL σ1 109 (40 * s + x) w) 110 (40 * s + x) (FP.l2f (lI y))) 110 = _; rw [gF_aF_eq]; show up9 (gF σ1 110) _ _ = _; rw [(E1 110 (by omega)).2.2.1]
    have g111 : gD τ 111 = up9 (gD σ 111) (40 * s + x) (FP.l2d (lI y)) := by rw [← eτ, gD_aD_eq]; show up9 (gD σ1 111) _ _ = _; rw [(E1 111 (by omega)).2.2.2]
    have E2 : eq9 (fun k => k ≠ 109 ∧ k ≠ 110 ∧ k ≠ 111) σ1 τ := by rw [← eτ]; exact ((eq9.aL (fun z => z.1 rfl)).tr (eq9.aF (fun z => z.2.1 rfl))).tr (eq9.aD (fun z => z.2.2 rfl))
    refine KW z1 hty (by omega) τ ((E1.mono (fun k hk => ⟨hk.1, hk.2.1, hk.2.2.1⟩)).tr (E2.mono (fun k hk => hk.2.2.2))) (fun j hj => ⟨by rw [g109, up9_ne (by omega)], by rw [g110, up9_ne (by omega)], by rw [g111, up9_ne (by omega)]⟩) ?_ ?_ ?_ ?_
    all_goals try (intro hh; omega)
    all_goals
      have g82 : gL τ (82 + 4 * s.toNat) = up9 (gL σ (82 + 4 * s.toNat)) x y := by rw [(E2 (82 + 4 * s.toNat) (by omega)).2.1, ← eσ, gL_aL_eq]
      have ew : w = y := w1 (by omega)
    · intro hh j a b
      rw [g82, g109, ew]
      by_cases qj : j = x
      · rw [qj, up9_eq, up9_eq]
        exact ⟨rfl, hy⟩
      · rw [up9_ne qj, up9_ne (by omega)]
        exact h.2.2.2.1 hh j a b
  · have hb := (hsl s.toNat (by omega)).2
    have h := hq s z1.1 z1.2
    have h0 := h.1
    have hty : gI σ 107 s ≠ -1 := by omega
    have hln := h.2.2.1 hty
    obtain ⟨σ1, eσ⟩ : ∃ σ1, sF σ (83 + 4 * s.toNat) x (FP.l2f (lI y)) = σ1 := ⟨_, rfl⟩
    rw [eσ]
    have E1 : eq9 (fun k => k ≠ 82 + 4 * s.toNat ∧ k ≠ 83 + 4 * s.toNat ∧ k ≠ 84 + 4 * s.toNat) σ σ1 := by rw [← eσ]; exact eq9.aF (fun z => z.2.1 rfl)
    have q7 : gI σ1 107 = gI σ 107 := (E1 107 (by omega)).1
    have q8 : gI σ1 108 = gI σ 108 := (E1 108 (by omega)).1
    refine c_X10_putElement (by rw [q7]; exact hT) (by rw [q7, q8]; exact hL) hs hx (fun y => absurd z1 y) (fun y1 y2 => by rw [q7] at y2; omega) (fun y1 y2 y3 => by rw [q8] at y3; omega) (fun y1 y2 y3 w w0 w1 => ⟨rfl, ?_⟩)
    rw [q7] at w0 w1
    obtain ⟨τ, eτ⟩ : ∃ τ, sD (sF (sL σ1 109 (40 * s + x) w) 110 (40 * s + x) (FP.l2f (lI y))) 111 (40 * s + x) (FP.l2d (lI y)) = τ := ⟨_, rfl⟩
    rw [eτ]
    have g109 : gL τ 109 = up9 (gL σ 109) (40 * s + x) w := by rw [← eτ]; show gL (sL σ1 109 (40 * s + x) w) 109 = _; rw [gL_aL_eq, (E1 109 (by omega)).2.1]
    have g110 : gF τ 110 = up9 (gF σ 110) (40 * s + x) (FP.l2f (lI y)) := by rw [← eτ]; show gF (sF (sL σ1 109 (40 * s + x) w) 110 (40 * s + x) (FP.l2f (lI y))) 110 = _; rw [gF_aF_eq]; show up9 (gF σ1 110) _ _ = _; rw [(E1 110 (by omega)).2.2.1]
    have g111 : gD τ 111 = up9 (gD σ 111) (40 * s + x) (FP.l2d (lI y)) := by rw [← eτ, gD_aD_eq]; show up9 (gD σ1 111) _ _ = _; rw [(E1 111 (by omega)).2.2.2]
    have E2 : eq9 (fun k => k ≠ 109 ∧ k ≠ 110 ∧ k ≠ 111) σ1 τ := by rw [← eτ]; exact ((eq9.aL (fun z => z.1 rfl)).tr (eq9.aF (fun z => z.2.1 rfl))).tr (eq9.aD (fun z => z.2.2 rfl))
    refine KW z1 hty (by omega) τ ((E1.mono (fun k hk => ⟨hk.1, hk.2.1, hk.2.2.1⟩)).tr (E2.mono (fun k hk => hk.2.2.2))) (fun j hj => ⟨by rw [g109, up9_ne (by omega)], by rw [g110, up9_ne (by omega)], by rw [g111, up9_ne (by omega)]⟩) ?_ ?_ ?_ ?_
    all_goals try (intro hh; omega)
    intro hh j a b
    have g8 : gF τ (83 + 4 * s.toNat) = up9 (gF σ (83 + 4 * s.toNat)) x (FP.l2f (lI y)) := by rw [(E2 (83 + 4 * s.toNat) (by omega)).2.2.1, ← eσ, gF_aF_eq]
    rw [g8, g110]
    by_cases qj : j = x
    · rw [qj, up9_eq, up9_eq]
      exact fsl232 (lI y)
    · rw [up9_ne qj, up9_ne (by omega)]
      exact h.2.2.2.2.2.1 hh j a b
  · have hb := (hsl s.toNat (by omega)).2
    have h := hq s z1.1 z1.2
    have h0 := h.1
    have hty : gI σ 107 s ≠ -1 := by omega
    have hln := h.2.2.1 hty
    obtain ⟨σ1, eσ⟩ : ∃ σ1, sD σ (84 + 4 * s.toNat) x (FP.l2d (lI y)) = σ1 := ⟨_, rfl⟩
    rw [eσ]
    have E1 : eq9 (fun k => k ≠ 82 + 4 * s.toNat ∧ k ≠ 83 + 4 * s.toNat ∧ k ≠ 84 + 4 * s.toNat) σ σ1 := by rw [← eσ]; exact eq9.aD (fun z => z.2.2 rfl)
    have q7 : gI σ1 107 = gI σ 107 := (E1 107 (by omega)).1
    have q8 : gI σ1 108 = gI σ 108 := (E1 108 (by omega)).1
    refine c_X10_putElement (by rw [q7]; exact hT) (by rw [q7, q8]; exact hL) hs hx (fun y => absurd z1 y) (fun y1 y2 => by rw [q7] at y2; omega) (fun y1 y2 y3 => by rw [q8] at y3; omega) (fun y1 y2 y3 w w0 w1 => ⟨rfl, ?_⟩)
    rw [q7] at w0 w1
    obtain ⟨τ, eτ⟩ : ∃ τ, sD (sF (sL σ1 109 (40 * s + x) w) 110 (40 * s + x) (FP.l2f (lI y))) 111 (40 * s + x) (FP.l2d (lI y)) = τ := ⟨_, rfl⟩
    rw [eτ]
    have g109 : gL τ 109 = up9 (gL σ 109) (40 * s + x) w := by rw [← eτ]; show gL (sL σ1 109 (40 * s + x) w) 109 = _; rw [gL_aL_eq, (E1 109 (by omega)).2.1]
    have g110 : gF τ 110 = up9 (gF σ 110) (40 * s + x) (FP.l2f (lI y)) := by rw [← eτ]; show gF (sF (sL σ1 109 (40 * s + x) w) 110 (40 * s + x) (FP.l2f (lI y))) 110 = _; rw [gF_aF_eq]; show up9 (gF σ1 110) _ _ = _; rw [(E1 110 (by omega)).2.2.1]
    have g111 : gD τ 111 = up9 (gD σ 111) (40 * s + x) (FP.l2d (lI y)) := by rw [← eτ, gD_aD_eq]; show up9 (gD σ1 111) _ _ = _; rw [(E1 111 (by omega)).2.2.2]
    have E2 : eq9 (fun k => k ≠ 109 ∧ k ≠ 110 ∧ k ≠ 111) σ1 τ := by rw [← eτ]; exact ((eq9.aL (fun z => z.1 rfl)).tr (eq9.aF (fun z => z.2.1 rfl))).tr (eq9.aD (fun z => z.2.2 rfl))
    refine KW z1 hty (by omega) τ ((E1.mono (fun k hk => ⟨hk.1, hk.2.1, hk.2.2.1⟩)).tr (E2.mono (fun k hk => hk.2.2.2))) (fun j hj => ⟨by rw [g109, up9_ne (by omega)], by rw [g110, up9_ne (by omega)], by rw [g111, up9_ne (by omega)]⟩) ?_ ?_ ?_ ?_
    all_goals try (intro hh; omega)
    intro hh j a b
    have g8 : gD τ (84 + 4 * s.toNat) = up9 (gD σ (84 + 4 * s.toNat)) x (FP.l2d (lI y)) := by rw [(E2 (84 + 4 * s.toNat) (by omega)).2.2.2, ← eσ, gD_aD_eq]
    rw [g8, g111]
    by_cases qj : j = x
    · rw [qj, up9_eq, up9_eq]
      exact fsl264 (lI y)
    · rw [up9_ne qj, up9_ne (by omega)]
      exact h.2.2.2.2.2.2 hh j a b
theorem pr_divideElement {σ : S9} (J : J9 σ) {s x y : Int} (hs : (-2147483648 ≤ s ∧ s < 2147483648)) (hx : (-2147483648 ≤ x ∧ x < 2147483648)) (hy : (-2147483648 ≤ y ∧ y < 2147483648)) : Cc 8 mX9_divideElement [.ref 0, .int (iI s), .int (iI x), .int (iI y)] σ (QI (fun u1 σ1 => Cc 8 mX10_divideElement [.ref 97, .int (iI s), .int (iI x), .int (iI y)] σ1 (QI (fun u2 σ2 => u2 = u1 ∧ J9 σ2)))) := by
  obtain ⟨⟨⟨n, R, lf, rg, wt, lev, stt, ap, str, v, cC, cM⟩, ⟨kc, kf, iv, iC, iM⟩, ⟨lc, l1, l2, lv, lC, lM⟩, hS, hP⟩, hz⟩ := id J
  have hn := v.1
  have hR := v.2.1
  have hsl : ∀ i : Nat, i < 4 → (-1 ≤ gI σ (81 + 4 * i) 0 ∧ gI σ (81 + 4 * i) 0 ≤ 3) ∧ (0 ≤ gI σ (81 + 4 * i) 1 ∧ gI σ (81 + 4 * i) 1 ≤ 40) := fun i hi => ⟨by rw [(hS i hi).1]; exact (hS i hi).2.1, (hS i hi).2.2.2.2.1⟩
  have hT : ∀ i, 0 ≤ i → i < 4 → (-1 ≤ gI σ 107 i ∧ gI σ 107 i ≤ 3) := fun i a b => by
    have h := (hS i.toNat (by omega)).2.1
    rw [Int.toNat_of_nonneg a] at h
    exact h
  have hL : ∀ i, 0 ≤ i → i < 4 → gI σ 107 i ≠ -1 → (0 ≤ gI σ 108 i ∧ gI σ 108 i ≤ 40) := fun i a b z => by
    have h := hS i.toNat (by omega)
    unfold Slt at h
    rw [Int.toNat_of_nonneg a] at h
    rw [← h.2.2.2.1 z]
    exact h.2.2.2.2.1
  have hq : ∀ i, 0 ≤ i → i < 4 → gI σ (81 + 4 * i.toNat) 0 = gI σ 107 i ∧ (gI σ 107 i = -1 → gI σ (81 + 4 * i.toNat) 1 = 0) ∧ (gI σ 107 i ≠ -1 → gI σ (81 + 4 * i.toNat) 1 = gI σ 108 i) ∧ ((gI σ 107 i = 0 ∨ gI σ 107 i = 1) → ∀ j, 0 ≤ j → j < 40 → gL σ (82 + 4 * i.toNat) j = gL σ 109 (40 * i + j) ∧ (-9223372036854775808 ≤ gL σ (82 + 4 * i.toNat) j ∧ gL σ (82 + 4 * i.toNat) j < 9223372036854775808)) ∧ (gI σ 107 i = 0 → ∀ j, 0 ≤ j → j < 40 → -2147483648 ≤ gL σ (82 + 4 * i.toNat) j ∧ gL σ (82 + 4 * i.toNat) j < 2147483648) ∧ (gI σ 107 i = 2 → ∀ j, 0 ≤ j → j < 40 → fs32 (gF σ (83 + 4 * i.toNat) j) (gF σ 110 (40 * i + j))) ∧ (gI σ 107 i = 3 → ∀ j, 0 ≤ j → j < 40 → fs64 (gD σ (84 + 4 * i.toNat) j) (gD σ 111 (40 * i + j))) := fun i a b => by
    have h := hS i.toNat (by omega)
    unfold Slt at h
    rw [Int.toNat_of_nonneg a] at h
    exact ⟨h.1, h.2.2.1, h.2.2.2.1, h.2.2.2.2.2.1, h.2.2.2.2.2.2.1, h.2.2.2.2.2.2.2.1, h.2.2.2.2.2.2.2.2⟩
  have KW : (0 ≤ s ∧ s < 4) → gI σ 107 s ≠ -1 → (0 ≤ x ∧ x < 40) → ∀ τ, eq9 (fun k => k ≠ 82 + 4 * s.toNat ∧ k ≠ 83 + 4 * s.toNat ∧ k ≠ 84 + 4 * s.toNat ∧ k ≠ 109 ∧ k ≠ 110 ∧ k ≠ 111) σ τ → (∀ j, j < 40 * s ∨ 40 * s + 40 ≤ j → gL τ 109 j = gL σ 109 j ∧ gF τ 110 j = gF σ 110 j ∧ gD τ 111 j = gD σ 111 j) → ((gI σ 107 s = 0 ∨ gI σ 107 s = 1) → ∀ j, 0 ≤ j → j < 40 → gL τ (82 + 4 * s.toNat) j = gL τ 109 (40 * s + j) ∧ (-9223372036854775808 ≤ gL τ (82 + 4 * s.toNat) j ∧ gL τ (82 + 4 * s.toNat) j < 9223372036854775808)) → (gI σ 107 s = 0 → ∀ j, 0 ≤ j → j < 40 → -2147483648 ≤ gL τ (82 + 4 * s.toNat) j ∧ gL τ (82 + 4 * s.toNat) j < 2147483648) → (gI σ 107 s = 2 → ∀ j, 0 ≤ j → j < 40 → fs32 (gF τ (83 + 4 * s.toNat) j) (gF τ 110 (40 * s + j))) → (gI σ 107 s = 3 → ∀ j, 0 ≤ j → j < 40 → fs64 (gD τ (84 + 4 * s.toNat) j) (gD τ 111 (40 * s + j))) → J9 τ := by
    intro zs hty zx τ e fo k1 k2 k3 k4
    refine J.slot (e.mono (fun k hk => by omega)) (fun i hi => ?_)
    have c1 : gI τ (81 + 4 * i) = gI σ (81 + 4 * i) := (e (81 + 4 * i) (by omega)).1
    have a1 : gI τ 107 = gI σ 107 := (e 107 (by omega)).1
    have a2 : gI τ 108 = gI σ 108 := (e 108 (by omega)).1
    by_cases q : i = s.toNat
    · have hi2 : (i : Int) = s := by omega
      have h := hS i hi
      unfold Slt at h ⊢
      rw [c1, a1, a2]
      rw [hi2] at h ⊢
      rw [← q] at k1 k2 k3 k4
      exact ⟨h.1, h.2.1, h.2.2.1, h.2.2.2.1, h.2.2.2.2.1, k1, k2, k3, k4⟩
    · refine (hS i hi).oth c1 ?_ ?_ ?_ (by rw [a1]) (by rw [a2]) (fun j a b => (fo _ (by omega)).1) (fun j a b => (fo _ (by omega)).2.1) (fun j a b => (fo _ (by omega)).2.2)
      · exact (e (82 + 4 * i) (by omega)).2.1
      · exact (e (83 + 4 * i) (by omega)).2.2.1
      · exact (e (84 + 4 * i) (by omega)).2.2.2
  refine c_X9_divideElement hsl hs hx hy (fun z => ?_) (fun z1 z2 => ?_) (fun z1 z2 => ?_) (fun z1 z2 z3 => ?_) (fun z1 z2 => ⟨fun z3 => ⟨fun z4 => ?_, fun z4 r hr9 => ?_⟩, fun z3 => ⟨fun z4 => ?_, fun z4 r hr9 => ?_⟩⟩)
  · exact c_X10_divideElement hT hL hs hx (fun y => ⟨rfl, J⟩) (fun y => absurd y z) (fun y => absurd y z) (fun y => absurd y z) (fun y => absurd y z)
  · have h0 := (hq s z1.1 z1.2).1
    exact c_X10_divideElement hT hL hs hx (fun y => absurd z1 y) (fun y1 y2 => ⟨rfl, J⟩) (fun y1 y2 => by omega) (fun y1 y2 => by omega) (fun y1 y2 => by omega)
  · have h0 := (hq s z1.1 z1.2).1
    exact c_X10_divideElement hT hL hs hx (fun y => absurd z1 y) (fun y1 y2 => by omega) (fun y1 y2 => ⟨rfl, J⟩) (fun y1 y2 => by omega) (fun y1 y2 => by omega)
  · have h := hq s z1.1 z1.2
    have h0 := h.1
    have h4 := h.2.2.1 (by omega)
    exact c_X10_divideElement hT hL hs hx (fun y => absurd z1 y) (fun y1 y2 => by omega) (fun y1 y2 => by omega) (fun y1 y2 y3 => ⟨rfl, J⟩) (fun y1 y2 y3 => by omega)
  · have hb := (hsl s.toNat (by omega)).2
    have h := hq s z1.1 z1.2
    have h0 := h.1
    have hty : gI σ 107 s ≠ -1 := by omega
    have hln := h.2.2.1 hty
    obtain ⟨σ1, eσ⟩ : ∃ σ1, σ = σ1 := ⟨_, rfl⟩
    suffices HH : Cc 8 mX10_divideElement [.ref 97, .int (iI s), .int (iI x), .int (iI y)] σ1 (QI (fun u2 σ2 => u2 = 1 ∧ J9 σ2)) by rw [eσ]; exact HH
    have E1 : eq9 (fun k => k ≠ 82 + 4 * s.toNat ∧ k ≠ 83 + 4 * s.toNat ∧ k ≠ 84 + 4 * s.toNat) σ σ1 := by rw [← eσ]; exact eq9.rf
    have q7 : gI σ1 107 = gI σ 107 := (E1 107 (by omega)).1
    have q8 : gI σ1 108 = gI σ 108 := (E1 108 (by omega)).1
    refine c_X10_divideElement (by rw [q7]; exact hT) (by rw [q7, q8]; exact hL) hs hx (fun y => absurd z1 y) (fun y1 y2 => by rw [q7] at y2; omega) (fun y1 y2 => by rw [q7] at y2; omega) (fun y1 y2 y3 => by rw [q8] at y3; omega) (fun y1 y2 y3 p q hp hqq => ⟨rfl, ?_⟩)
    obtain ⟨τ, eτ⟩ : ∃ τ, sD (sF σ1 110 (40 * s + x) p) 111 (40 * s + x) q = τ := ⟨_, rfl⟩
    rw [eτ]
    have g110 : gF τ 110 = up9 (gF σ 110) (40 * s + x) p := by rw [← eτ]; show gF (sF σ1 110 (40 * s + x) p) 110 = _; rw [gF_aF_eq, (E1 110 (by omega)).2.2.1]
    have g111 : gD τ 111 = up9 (gD σ 111) (40 * s + x) q := by rw [← eτ, gD_aD_eq]; show up9 (gD σ1 111) _ _ = _; rw [(E1 111 (by omega)).2.2.2]
    have E2 : eq9 (fun k => k ≠ 109 ∧ k ≠ 110 ∧ k ≠ 111) σ1 τ := by rw [← eτ]; exact (eq9.aF (fun z => z.2.1 rfl)).tr (eq9.aD (fun z => z.2.2 rfl))
    have g109 : gL τ 109 = gL σ 109 := by rw [← eτ]; exact (E1 109 (by omega)).2.1
    rw [(E1 110 (by omega)).2.2.1] at hp
    rw [(E1 111 (by omega)).2.2.2] at hqq
    refine KW z1 hty (by omega) τ ((E1.mono (fun k hk => ⟨hk.1, hk.2.1, hk.2.2.1⟩)).tr (E2.mono (fun k hk => hk.2.2.2))) (fun j hj => ⟨by rw [g109], by rw [g110, up9_ne (by omega)], by rw [g111, up9_ne (by omega)]⟩) ?_ ?_ ?_ ?_
    all_goals try (intro hh; omega)
    intro hh j a b
    have g8 : gF τ (83 + 4 * s.toNat) = gF σ (83 + 4 * s.toNat) := by rw [(E2 (83 + 4 * s.toNat) (by omega)).2.2.1, ← eσ]
    rw [g8, g110]
    by_cases qj : j = x
    · rw [qj, up9_eq]
      exact fse32 (h.2.2.2.2.2.1 hh x (by omega) (by omega)) z4 hp
    · rw [up9_ne (by omega)]
      exact h.2.2.2.2.2.1 hh j a b
  · have hb := (hsl s.toNat (by omega)).2
    have h := hq s z1.1 z1.2
    have h0 := h.1
    have hty : gI σ 107 s ≠ -1 := by omega
    have hln := h.2.2.1 hty
    obtain ⟨σ1, eσ⟩ : ∃ σ1, sF σ (83 + 4 * s.toNat) x r = σ1 := ⟨_, rfl⟩
    rw [eσ]
    have E1 : eq9 (fun k => k ≠ 82 + 4 * s.toNat ∧ k ≠ 83 + 4 * s.toNat ∧ k ≠ 84 + 4 * s.toNat) σ σ1 := by rw [← eσ]; exact eq9.aF (fun z => z.2.1 rfl)
    have q7 : gI σ1 107 = gI σ 107 := (E1 107 (by omega)).1
    have q8 : gI σ1 108 = gI σ 108 := (E1 108 (by omega)).1
    refine c_X10_divideElement (by rw [q7]; exact hT) (by rw [q7, q8]; exact hL) hs hx (fun y => absurd z1 y) (fun y1 y2 => by rw [q7] at y2; omega) (fun y1 y2 => by rw [q7] at y2; omega) (fun y1 y2 y3 => by rw [q8] at y3; omega) (fun y1 y2 y3 p q hp hqq => ⟨rfl, ?_⟩)
    obtain ⟨τ, eτ⟩ : ∃ τ, sD (sF σ1 110 (40 * s + x) p) 111 (40 * s + x) q = τ := ⟨_, rfl⟩
    rw [eτ]
    have g110 : gF τ 110 = up9 (gF σ 110) (40 * s + x) p := by rw [← eτ]; show gF (sF σ1 110 (40 * s + x) p) 110 = _; rw [gF_aF_eq, (E1 110 (by omega)).2.2.1]
    have g111 : gD τ 111 = up9 (gD σ 111) (40 * s + x) q := by rw [← eτ, gD_aD_eq]; show up9 (gD σ1 111) _ _ = _; rw [(E1 111 (by omega)).2.2.2]
    have E2 : eq9 (fun k => k ≠ 109 ∧ k ≠ 110 ∧ k ≠ 111) σ1 τ := by rw [← eτ]; exact (eq9.aF (fun z => z.2.1 rfl)).tr (eq9.aD (fun z => z.2.2 rfl))
    have g109 : gL τ 109 = gL σ 109 := by rw [← eτ]; exact (E1 109 (by omega)).2.1
    rw [(E1 110 (by omega)).2.2.1] at hp
    rw [(E1 111 (by omega)).2.2.2] at hqq
    refine KW z1 hty (by omega) τ ((E1.mono (fun k hk => ⟨hk.1, hk.2.1, hk.2.2.1⟩)).tr (E2.mono (fun k hk => hk.2.2.2))) (fun j hj => ⟨by rw [g109], by rw [g110, up9_ne (by omega)], by rw [g111, up9_ne (by omega)]⟩) ?_ ?_ ?_ ?_
    all_goals try (intro hh; omega)
    intro hh j a b
    have g8 : gF τ (83 + 4 * s.toNat) = up9 (gF σ (83 + 4 * s.toNat)) x r := by rw [(E2 (83 + 4 * s.toNat) (by omega)).2.2.1, ← eσ, gF_aF_eq]
    rw [g8, g110]
    by_cases qj : j = x
    · rw [qj, up9_eq, up9_eq]
      exact fsd32 (h.2.2.2.2.2.1 hh x (by omega) (by omega)) z4 hr9 hp
    · rw [up9_ne qj, up9_ne (by omega)]
      exact h.2.2.2.2.2.1 hh j a b
  · have hb := (hsl s.toNat (by omega)).2
    have h := hq s z1.1 z1.2
    have h0 := h.1
    have hty : gI σ 107 s ≠ -1 := by omega
    have hln := h.2.2.1 hty
    obtain ⟨σ1, eσ⟩ : ∃ σ1, σ = σ1 := ⟨_, rfl⟩
    suffices HH : Cc 8 mX10_divideElement [.ref 97, .int (iI s), .int (iI x), .int (iI y)] σ1 (QI (fun u2 σ2 => u2 = 1 ∧ J9 σ2)) by rw [eσ]; exact HH
    have E1 : eq9 (fun k => k ≠ 82 + 4 * s.toNat ∧ k ≠ 83 + 4 * s.toNat ∧ k ≠ 84 + 4 * s.toNat) σ σ1 := by rw [← eσ]; exact eq9.rf
    have q7 : gI σ1 107 = gI σ 107 := (E1 107 (by omega)).1
    have q8 : gI σ1 108 = gI σ 108 := (E1 108 (by omega)).1
    refine c_X10_divideElement (by rw [q7]; exact hT) (by rw [q7, q8]; exact hL) hs hx (fun y => absurd z1 y) (fun y1 y2 => by rw [q7] at y2; omega) (fun y1 y2 => by rw [q7] at y2; omega) (fun y1 y2 y3 => by rw [q8] at y3; omega) (fun y1 y2 y3 p q hp hqq => ⟨rfl, ?_⟩)
    obtain ⟨τ, eτ⟩ : ∃ τ, sD (sF σ1 110 (40 * s + x) p) 111 (40 * s + x) q = τ := ⟨_, rfl⟩
    rw [eτ]
    have g110 : gF τ 110 = up9 (gF σ 110) (40 * s + x) p := by rw [← eτ]; show gF (sF σ1 110 (40 * s + x) p) 110 = _; rw [gF_aF_eq, (E1 110 (by omega)).2.2.1]
    have g111 : gD τ 111 = up9 (gD σ 111) (40 * s + x) q := by rw [← eτ, gD_aD_eq]; show up9 (gD σ1 111) _ _ = _; rw [(E1 111 (by omega)).2.2.2]
    have E2 : eq9 (fun k => k ≠ 109 ∧ k ≠ 110 ∧ k ≠ 111) σ1 τ := by rw [← eτ]; exact (eq9.aF (fun z => z.2.1 rfl)).tr (eq9.aD (fun z => z.2.2 rfl))
    have g109 : gL τ 109 = gL σ 109 := by rw [← eτ]; exact (E1 109 (by omega)).2.1
    rw [(E1 110 (by omega)).2.2.1] at hp
    rw [(E1 111 (by omega)).2.2.2] at hqq
    refine KW z1 hty (by omega) τ ((E1.mono (fun k hk => ⟨hk.1, hk.2.1, hk.2.2.1⟩)).tr (E2.mono (fun k hk => hk.2.2.2))) (fun j hj => ⟨by rw [g109], by rw [g110, up9_ne (by omega)], by rw [g111, up9_ne (by omega)]⟩) ?_ ?_ ?_ ?_
    all_goals try (intro hh; omega)
    intro hh j a b
    have g8 : gD τ (84 + 4 * s.toNat) = gD σ (84 + 4 * s.toNat) := by rw [(E2 (84 + 4 * s.toNat) (by omega)).2.2.2, ← eσ]
    rw [g8, g111]
    by_cases qj : j = x
    · rw [qj, up9_eq]
      exact fse64 (h.2.2.2.2.2.2 hh x (by omega) (by omega)) z4 hqq
    · rw [up9_ne (by omega)]
      exact h.2.2.2.2.2.2 hh j a b
  · have hb := (hsl s.toNat (by omega)).2
    have h := hq s z1.1 z1.2
    have h0 := h.1
    have hty : gI σ 107 s ≠ -1 := by omega
    have hln := h.2.2.1 hty
    obtain ⟨σ1, eσ⟩ : ∃ σ1, sD σ (84 + 4 * s.toNat) x r = σ1 := ⟨_, rfl⟩
    rw [eσ]
    have E1 : eq9 (fun k => k ≠ 82 + 4 * s.toNat ∧ k ≠ 83 + 4 * s.toNat ∧ k ≠ 84 + 4 * s.toNat) σ σ1 := by rw [← eσ]; exact eq9.aD (fun z => z.2.2 rfl)
    have q7 : gI σ1 107 = gI σ 107 := (E1 107 (by omega)).1
    have q8 : gI σ1 108 = gI σ 108 := (E1 108 (by omega)).1
    refine c_X10_divideElement (by rw [q7]; exact hT) (by rw [q7, q8]; exact hL) hs hx (fun y => absurd z1 y) (fun y1 y2 => by rw [q7] at y2; omega) (fun y1 y2 => by rw [q7] at y2; omega) (fun y1 y2 y3 => by rw [q8] at y3; omega) (fun y1 y2 y3 p q hp hqq => ⟨rfl, ?_⟩)
    obtain ⟨τ, eτ⟩ : ∃ τ, sD (sF σ1 110 (40 * s + x) p) 111 (40 * s + x) q = τ := ⟨_, rfl⟩
    rw [eτ]
    have g110 : gF τ 110 = up9 (gF σ 110) (40 * s + x) p := by rw [← eτ]; show gF (sF σ1 110 (40 * s + x) p) 110 = _; rw [gF_aF_eq, (E1 110 (by omega)).2.2.1]
    have g111 : gD τ 111 = up9 (gD σ 111) (40 * s + x) q := by rw [← eτ, gD_aD_eq]; show up9 (gD σ1 111) _ _ = _; rw [(E1 111 (by omega)).2.2.2]
    have E2 : eq9 (fun k => k ≠ 109 ∧ k ≠ 110 ∧ k ≠ 111) σ1 τ := by rw [← eτ]; exact (eq9.aF (fun z => z.2.1 rfl)).tr (eq9.aD (fun z => z.2.2 rfl))
    have g109 : gL τ 109 = gL σ 109 := by rw [← eτ]; exact (E1 109 (by omega)).2.1
    rw [(E1 110 (by omega)).2.2.1] at hp
    rw [(E1 111 (by omega)).2.2.2] at hqq
    refine KW z1 hty (by omega) τ ((E1.mono (fun k hk => ⟨hk.1, hk.2.1, hk.2.2.1⟩)).tr (E2.mono (fun k hk => hk.2.2.2))) (fun j hj => ⟨by rw [g109], by rw [g110, up9_ne (by omega)], by rw [g111, up9_ne (by omega)]⟩) ?_ ?_ ?_ ?_
    all_goals try (intro hh; omega)
    intro hh j a b
    have g8 : gD τ (84 + 4 * s.toNat) = up9 (gD σ (84 + 4 * s.toNat)) x r := by rw [(E2 (84 + 4 * s.toNat) (by omega)).2.2.2, ← eσ, gD_aD_eq]
    rw [g8, g111]
    by_cases qj : j = x
    · rw [qj, up9_eq, up9_eq]
      exact fsd64 (h.2.2.2.2.2.2 hh x (by omega) (by omega)) z4 hr9 hqq
    · rw [up9_ne qj, up9_ne (by omega)]
      exact h.2.2.2.2.2.2 hh j a b
theorem pr_copyElements {σ : S9} (J : J9 σ) {s a u b m : Int} (hs : (-2147483648 ≤ s ∧ s < 2147483648)) (ha : (-2147483648 ≤ a ∧ a < 2147483648)) (hu : (-2147483648 ≤ u ∧ u < 2147483648)) (hb : (-2147483648 ≤ b ∧ b < 2147483648)) (hm : (-2147483648 ≤ m ∧ m < 2147483648)) : Cc 8 mX9_copyElements [.ref 0, .int (iI s), .int (iI a), .int (iI u), .int (iI b), .int (iI m)] σ (QI (fun u1 σ1 => Cc 8 mX10_copyElements [.ref 97, .int (iI s), .int (iI a), .int (iI u), .int (iI b), .int (iI m)] σ1 (QI (fun u2 σ2 => u2 = u1 ∧ J9 σ2)))) := by
  obtain ⟨⟨⟨n, R, lf, rg, wt, lev, stt, ap, str, v, cC, cM⟩, ⟨kc, kf, iv, iC, iM⟩, ⟨lc, l1, l2, lv, lC, lM⟩, hS, hP⟩, hz⟩ := id J
  have hn := v.1
  have hR := v.2.1
  have hsl : ∀ i : Nat, i < 4 → (-1 ≤ gI σ (81 + 4 * i) 0 ∧ gI σ (81 + 4 * i) 0 ≤ 3) ∧ (0 ≤ gI σ (81 + 4 * i) 1 ∧ gI σ (81 + 4 * i) 1 ≤ 40) := fun i hi => ⟨by rw [(hS i hi).1]; exact (hS i hi).2.1, (hS i hi).2.2.2.2.1⟩
  have hT : ∀ i, 0 ≤ i → i < 4 → (-1 ≤ gI σ 107 i ∧ gI σ 107 i ≤ 3) := fun i a b => by
    have h := (hS i.toNat (by omega)).2.1
    rw [Int.toNat_of_nonneg a] at h
    exact h
  have hL : ∀ i, 0 ≤ i → i < 4 → gI σ 107 i ≠ -1 → (0 ≤ gI σ 108 i ∧ gI σ 108 i ≤ 40) := fun i a b z => by
    have h := hS i.toNat (by omega)
    unfold Slt at h
    rw [Int.toNat_of_nonneg a] at h
    rw [← h.2.2.2.1 z]
    exact h.2.2.2.2.1
  have hq : ∀ i, 0 ≤ i → i < 4 → gI σ (81 + 4 * i.toNat) 0 = gI σ 107 i ∧ (gI σ 107 i = -1 → gI σ (81 + 4 * i.toNat) 1 = 0) ∧ (gI σ 107 i ≠ -1 → gI σ (81 + 4 * i.toNat) 1 = gI σ 108 i) ∧ ((gI σ 107 i = 0 ∨ gI σ 107 i = 1) → ∀ j, 0 ≤ j → j < 40 → gL σ (82 + 4 * i.toNat) j = gL σ 109 (40 * i + j) ∧ (-9223372036854775808 ≤ gL σ (82 + 4 * i.toNat) j ∧ gL σ (82 + 4 * i.toNat) j < 9223372036854775808)) ∧ (gI σ 107 i = 0 → ∀ j, 0 ≤ j → j < 40 → -2147483648 ≤ gL σ (82 + 4 * i.toNat) j ∧ gL σ (82 + 4 * i.toNat) j < 2147483648) ∧ (gI σ 107 i = 2 → ∀ j, 0 ≤ j → j < 40 → fs32 (gF σ (83 + 4 * i.toNat) j) (gF σ 110 (40 * i + j))) ∧ (gI σ 107 i = 3 → ∀ j, 0 ≤ j → j < 40 → fs64 (gD σ (84 + 4 * i.toNat) j) (gD σ 111 (40 * i + j))) := fun i a b => by
    have h := hS i.toNat (by omega)
    unfold Slt at h
    rw [Int.toNat_of_nonneg a] at h
    exact ⟨h.1, h.2.2.1, h.2.2.2.1, h.2.2.2.2.2.1, h.2.2.2.2.2.2.1, h.2.2.2.2.2.2.2.1, h.2.2.2.2.2.2.2.2⟩
  refine c_X9_copyElements hsl hs ha hu hb hm (fun z => ?_) (fun z1 z2 => ?_) (fun z1 z2 z3 z4 => ?_) (fun z1 z2 z3 z4 => ?_) (fun z1 z2 z3 z4 => ?_)
  · exact c_X10_copyElements hT hL hs ha hu hb hm (fun y => ⟨rfl, J⟩) (fun y => absurd y z) (fun y => absurd y z) (fun y => absurd y z) (fun y => absurd y z)
  all_goals
    have h := hq s z1.1.1 z1.1.2
    have k := hq u z1.2.1 z1.2.2
    have h0 := h.1
    have k0 := k.1
    rw [h0] at z2
  · rw [k0] at z2
    exact c_X10_copyElements hT hL hs ha hu hb hm (fun y => absurd z1 y) (fun y1 y2 => ⟨rfl, J⟩) (fun y1 y2 y3 y4 => absurd z2 (fun q => q.elim y2 y3)) (fun y1 y2 y3 y4 => absurd z2 (fun q => q.elim y2 (fun q2 => y2 (y3.trans q2)))) (fun y1 y2 y3 y4 => absurd z2 (fun q => q.elim y2 (fun q2 => y2 (y3.trans q2))))
  · rw [k0] at z3
    rw [h0, k0] at z4
    exact c_X10_copyElements hT hL hs ha hu hb hm (fun y => absurd z1 y) (fun y1 y2 => absurd y2 (fun q => q.elim z2 z3)) (fun y1 y2 y3 y4 => ⟨rfl, J⟩) (fun y1 y2 y3 => absurd y3 z4) (fun y1 y2 y3 => absurd y3 z4)
  · rw [h0, k0] at z3
    have h4 := h.2.2.1 z2
    have k4 := k.2.2.1 (fun q => z2 (z3.trans q))
    rw [h4, k4] at z4
    exact c_X10_copyElements hT hL hs ha hu hb hm (fun y => absurd z1 y) (fun y1 y2 => absurd y2 (fun q => q.elim z2 (fun q2 => z2 (z3.trans q2)))) (fun y1 y2 y3 y4 => absurd z3 y4) (fun y1 y2 y3 y4 => ⟨rfl, J⟩) (fun y1 y2 y3 y4 => absurd y4 z4)
  rw [h0, k0] at z3
  have h4 := h.2.2.1 z2
  have hu1 : gI σ 107 u ≠ -1 := fun q => z2 (z3.trans q)
  have k4 := k.2.2.1 hu1
  rw [h4, k4] at z4
  have hbs := hL s z1.1.1 z1.1.2 z2
  have hbu := hL u z1.2.1 z1.2.2 hu1
  obtain ⟨σ1, eσ⟩ : ∃ σ1, aD (aF (aL σ (82 + 4 * u.toNat) (cpy9 (gL σ (82 + 4 * s.toNat)) (gL σ (82 + 4 * u.toNat)) a b m)) (83 + 4 * u.toNat) (cpy9 (gF σ (83 + 4 * s.toNat)) (gF σ (83 + 4 * u.toNat)) a b m)) (84 + 4 * u.toNat) (cpy9 (gD σ (84 + 4 * s.toNat)) (gD σ (84 + 4 * u.toNat)) a b m) = σ1 := ⟨_, rfl⟩
  rw [eσ]
  have E1 : eq9 (fun k => k ≠ 82 + 4 * u.toNat ∧ k ≠ 83 + 4 * u.toNat ∧ k ≠ 84 + 4 * u.toNat) σ σ1 := by rw [← eσ]; exact ((eq9.aL (fun z => z.1 rfl)).tr (eq9.aF (fun z => z.2.1 rfl))).tr (eq9.aD (fun z => z.2.2 rfl))
  have s82 : gL σ1 (82 + 4 * u.toNat) = cpy9 (gL σ (82 + 4 * s.toNat)) (gL σ (82 + 4 * u.toNat)) a b m := by rw [← eσ]; exact gL_aL_eq _ _ _
  have s83 : gF σ1 (83 + 4 * u.toNat) = cpy9 (gF σ (83 + 4 * s.toNat)) (gF σ (83 + 4 * u.toNat)) a b m := by rw [← eσ]; exact gF_aF_eq _ _ _
  have s84 : gD σ1 (84 + 4 * u.toNat) = cpy9 (gD σ (84 + 4 * s.toNat)) (gD σ (84 + 4 * u.toNat)) a b m := by rw [← eσ, gD_aD_eq]
  have q7 : gI σ1 107 = gI σ 107 := (E1 107 (by omega)).1
  have q8 : gI σ1 108 = gI σ 108 := (E1 108 (by omega)).1
  have c107 : gI σ1 107 s = gI σ 107 s := by rw [q7]
  refine c_X10_copyElements (by rw [q7]; exact hT) (by rw [q7, q8]; exact hL) hs ha hu hb hm (fun y => absurd z1 y) (fun y1 y2 => by rw [q7] at y2; exact absurd y2 (fun q => q.elim z2 hu1)) (fun y1 y2 y3 y4 => by rw [q7] at y4; exact absurd z3 y4) (fun y1 y2 y3 y4 => by rw [q8] at y4; exact absurd z4 y4) (fun y1 y2 y3 y4 τ e f109 f110 f111 => ⟨rfl, ?_⟩)
  rw [(E1 109 (by omega)).2.1] at f109
  rw [(E1 110 (by omega)).2.2.1] at f110
  rw [(E1 111 (by omega)).2.2.2] at f111
  refine J.slot ((E1.mono (fun k hk => by omega)).tr (e.mono (fun k hk => by omega))) (fun i hi => ?_)
  have c1 : gI τ (81 + 4 * i) = gI σ (81 + 4 * i) := (e (81 + 4 * i) (by omega)).1.trans (E1 (81 + 4 * i) (by omega)).1
  have a1 : gI τ 107 = gI σ 107 := (e 107 (by omega)).1.trans q7
  have a2 : gI τ 108 = gI σ 108 := (e 108 (by omega)).1.trans q8
  by_cases q : i = u.toNat
  · have hi2 : (i : Int) = u := by omega
    have hh := hS i hi
    unfold Slt at hh ⊢
    rw [c1, a1, a2]
    rw [hi2] at hh ⊢
    have c2 : gL τ (82 + 4 * i) = cpy9 (gL σ (82 + 4 * s.toNat)) (gL σ (82 + 4 * i)) a b m := by rw [(e (82 + 4 * i) (by omega)).2.1, q, s82]
    have c3 : gF τ (83 + 4 * i) = cpy9 (gF σ (83 + 4 * s.toNat)) (gF σ (83 + 4 * i)) a b m := by rw [(e (83 + 4 * i) (by omega)).2.2.1, q, s83]
    have c4 : gD τ (84 + 4 * i) = cpy9 (gD σ (84 + 4 * s.toNat)) (gD σ (84 + 4 * i)) a b m := by rw [(e (84 + 4 * i) (by omega)).2.2.2, q, s84]
    have p1 : ∀ {α : Type} (f g : Int → α) (j : Int), (b ≤ j ∧ j < b + m) → cpy9 f g a b m j = f (a + (j - b)) := fun f g j hj => if_pos hj
    have p2 : ∀ {α : Type} (f g : Int → α) (j : Int), ¬ (b ≤ j ∧ j < b + m) → cpy9 f g a b m j = g j := fun f g j hj => if_neg hj
    have p3 : ∀ {α : Type} (f : Int → α) (j : Int), (b ≤ j ∧ j < b + m) → cpy9 f f (40 * s + a) (40 * u + b) m (40 * u + j) = f (40 * s + (a + (j - b))) := fun f j hj => by
      unfold cpy9
      rw [if_pos (by omega), show 40 * s + a + (40 * u + j - (40 * u + b)) = 40 * s + (a + (j - b)) by omega]
    have p4 : ∀ {α : Type} (f : Int → α) (j : Int), ¬ (b ≤ j ∧ j < b + m) → cpy9 f f (40 * s + a) (40 * u + b) m (40 * u + j) = f (40 * u + j) := fun f j hj => if_neg (by omega)
    refine ⟨hh.1, hh.2.1, hh.2.2.1, hh.2.2.2.1, hh.2.2.2.2.1, fun ht j j0 j1 => ?_, fun ht j j0 j1 => ?_, fun ht j j0 j1 => ?_, fun ht j j0 j1 => ?_⟩
    · rw [c2, f109]
      by_cases qj : b ≤ j ∧ j < b + m
      · rw [p1 _ _ j qj, p3 _ j qj]; exact h.2.2.2.1 (by omega) _ (by omega) (by omega)
      · rw [p2 _ _ j qj, p4 _ j qj]; exact hh.2.2.2.2.2.1 ht j j0 j1
    · rw [c2]
      by_cases qj : b ≤ j ∧ j < b + m
      · rw [p1 _ _ j qj]; exact h.2.2.2.2.1 (by omega) _ (by omega) (by omega)
      · rw [p2 _ _ j qj]; exact hh.2.2.2.2.2.2.1 ht j j0 j1
    · rw [c3, f110]
      by_cases qj : b ≤ j ∧ j < b + m
      · rw [p1 _ _ j qj, p3 _ j qj]; exact h.2.2.2.2.2.1 (by omega) _ (by omega) (by omega)
      · rw [p2 _ _ j qj, p4 _ j qj]; exact hh.2.2.2.2.2.2.2.1 ht j j0 j1
    · rw [c4, f111]
      by_cases qj : b ≤ j ∧ j < b + m
      · rw [p1 _ _ j qj, p3 _ j qj]; exact h.2.2.2.2.2.2 (by omega) _ (by omega) (by omega)
      · rw [p2 _ _ j qj, p4 _ j qj]; exact hh.2.2.2.2.2.2.2.2 ht j j0 j1
  · refine (hS i hi).oth c1 ?_ ?_ ?_ (by rw [a1]) (by rw [a2]) (fun j x y => ?_) (fun j x y => ?_) (fun j x y => ?_)
    · exact (e (82 + 4 * i) (by omega)).2.1.trans (E1 (82 + 4 * i) (by omega)).2.1
    · exact (e (83 + 4 * i) (by omega)).2.2.1.trans (E1 (83 + 4 * i) (by omega)).2.2.1
    · exact (e (84 + 4 * i) (by omega)).2.2.2.trans (E1 (84 + 4 * i) (by omega)).2.2.2
    · rw [f109]; exact if_neg (by omega)
    · rw [f110]; exact if_neg (by omega)
    · rw [f111]; exact if_neg (by omega)
