/-! ===== class and reference, call by call ===== -/
def J9 (σ : S9) : Prop := Inv σ ∧ ∀ x, 0 ≤ x → x < 8 → gI σ 66 x = 0
theorem Snp.mv {σ τ : S9} (h : Snp σ) (f97 : ∀ i, 20 ≤ i → i ≤ 30 → gI τ 97 i = gI σ 97 i) (he : eq9 (fun k => k = 0 ∨ (16 ≤ k ∧ k ≤ 30) ∨ (112 ≤ k ∧ k ≤ 117)) σ τ) : Snp τ := by
  obtain ⟨h1, h2, h3⟩ := h
  have e0 : gI τ 0 = gI σ 0 := (he 0 (by omega)).1
  refine ⟨by rw [e0, f97 20 (by omega) (by omega)]; exact h1, by rw [e0]; exact h2, fun q => ?_⟩
  rw [e0] at q
  obtain ⟨n, R, lf, rg, wt, lev, stt, ap, str, v, c, m⟩ := h3 q
  refine ⟨n, R, lf, rg, wt, lev, stt, ap, str, v, c.eq v.2.1.2 (he.mono (fun k hk => by omega)), ?_⟩
  unfold SyMs SyM at m ⊢
  rw [f97 21 (by omega) (by omega), f97 22 (by omega) (by omega), f97 27 (by omega) (by omega), f97 30 (by omega) (by omega), (he 112 (by omega)).1, (he 113 (by omega)).1, (he 114 (by omega)).1, (he 115 (by omega)).1, (he 116 (by omega)).2.2.1, (he 117 (by omega)).1]
  exact m
theorem J9.mk {σ τ : S9} (h : J9 σ) (hS : Sys τ) (hI : Inp τ) (hL : Lop τ) (e : eq9 (fun k => k = 0 ∨ (16 ≤ k ∧ k ≤ 30) ∨ k = 66 ∨ (81 ≤ k ∧ k ≤ 96) ∨ (107 ≤ k ∧ k ≤ 117)) σ τ) (f97 : ∀ i, 20 ≤ i → i ≤ 30 → gI τ 97 i = gI σ 97 i) : J9 τ :=
  ⟨⟨hS, hI, hL, fun i hi => (h.1.2.2.2.1 i hi).eq hi (e.mono (fun k hk => by omega)), h.1.2.2.2.2.mv f97 (e.mono (fun k hk => by omega))⟩, fun x a b => by rw [(e 66 (by omega)).1]; exact h.2 x a b⟩
theorem SyM.mv {σ τ : S9} {n R : Int} {lf rg : Int → List Int} {wt lev : Int → Int} {stt : Int} {ap : Int → UInt32} {str : List Int} (c : SyMn σ n R lf rg wt lev stt ap str) (e : eq9 (fun k => (98 ≤ k ∧ k ≤ 102) ∨ k = 104) σ τ) (f : ∀ i, i = 0 ∨ i = 1 ∨ i = 6 ∨ i = 11 → gI τ 97 i = gI σ 97 i) : SyMn τ n R lf rg wt lev stt ap str := by
  unfold SyMn SyM at c ⊢
  rw [f 0 (by omega), f 1 (by omega), f 6 (by omega), f 11 (by omega), (e 98 (by omega)).1, (e 99 (by omega)).1, (e 100 (by omega)).1, (e 101 (by omega)).1, (e 102 (by omega)).2.2.1, (e 104 (by omega)).1]
  exact c
theorem InM.mv {σ τ : S9} {c : Int} {f : Int → Int} (h : InM σ c f) (e : gI τ 103 = gI σ 103) (g : gI τ 97 9 = gI σ 97 9) : InM τ c f := by
  unfold InM
  rw [e, g]
  exact h
theorem LoM.mv {σ τ : S9} {c : Int} {f g : Int → Int} (h : LoM σ c f g) (e : eq9 (fun k => k = 105 ∨ k = 106) σ τ) (hg : gI τ 97 12 = gI σ 97 12) : LoM τ c f g := by
  unfold LoM
  rw [(e 105 (by omega)).1, (e 106 (by omega)).1, hg]
  exact h
theorem Sys.mv {σ τ : S9} (h : Sys σ) (e : eq9 (fun k => (1 ≤ k ∧ k ≤ 15) ∨ (98 ≤ k ∧ k ≤ 102) ∨ k = 104) σ τ) (f : ∀ i, i = 0 ∨ i = 1 ∨ i = 6 ∨ i = 11 → gI τ 97 i = gI σ 97 i) : Sys τ := by
  obtain ⟨n, R, lf, rg, wt, lev, stt, ap, str, v, cC, cM⟩ := h
  exact ⟨n, R, lf, rg, wt, lev, stt, ap, str, v, cC.eq v.2.1.2 (e.mono (fun k hk => by omega)), cM.mv (e.mono (fun k hk => by omega)) f⟩
theorem Inp.mv {σ τ : S9} (h : Inp σ) (e : eq9 (fun k => k = 31 ∨ k = 32 ∨ k = 103) σ τ) (f : gI τ 97 9 = gI σ 97 9) : Inp τ := by
  obtain ⟨c, g, v, hC, hM⟩ := h
  exact ⟨c, g, v, hC.eq (e.mono (fun k hk => by omega)), hM.mv (e 103 (by omega)).1 f⟩
theorem Lop.mv {σ τ : S9} (h : Lop σ) (e : eq9 (fun k => (33 ≤ k ∧ k ≤ 35) ∨ k = 105 ∨ k = 106) σ τ) (f : gI τ 97 12 = gI σ 97 12) : Lop τ := by
  obtain ⟨c, g, g2, v, hC, hM⟩ := h
  exact ⟨c, g, g2, v, hC.eq (e.mono (fun k hk => by omega)), hM.mv (e.mono (fun k hk => by omega)) f⟩
/-- what only searches write -/
theorem J9.keep {σ τ : S9} (h : J9 σ) (e : eq9 (fun k => k < 36 ∨ k = 66 ∨ (80 < k ∧ k < 97) ∨ (97 < k ∧ k < 118)) σ τ) (f : ∀ i, i ≠ 40 → gI τ 97 i = gI σ 97 i) : J9 τ :=
  h.mk (h.1.1.mv (e.mono (fun k hk => by omega)) (fun i hi => f i (by omega))) (h.1.2.1.mv (e.mono (fun k hk => by omega)) (f 9 (by decide))) (h.1.2.2.1.mv (e.mono (fun k hk => by omega)) (f 12 (by decide))) (e.mono (fun k hk => by omega)) (fun i a b => f i (by omega))
theorem J9.ks {σ τ : S9} {T : Nat → Prop} (h : J9 σ) (e : eq9 T σ τ) (hT : ∀ k, k < 36 ∨ k = 66 ∨ (80 < k ∧ k < 118) → T k) : J9 τ := h.keep (e.mono (fun k hk => hT k (by omega))) (fun i _ => by rw [(e 97 (hT 97 (by omega))).1])
theorem pr_letters {σ : S9} (J : J9 σ) : Cc 8 mX9_letters [.ref 0] σ (QI (fun u1 σ1 => Cc 8 mX10_letters [.ref 97] σ1 (QI (fun u2 σ2 => u2 = u1 ∧ J9 σ2)))) := by
  obtain ⟨⟨⟨n, R, lf, rg, wt, lev, stt, ap, str, v, cC, cM⟩, ⟨kc, kf, iv, iC, iM⟩, ⟨lc, l1, l2, lv, lC, lM⟩, hS, hP⟩, hz⟩ := id J
  have hn := v.1
  have hR := v.2.1
  exact c_X9_letters cC (c_X10_letters cM ⟨rfl, J⟩)
theorem pr_ruleCount {σ : S9} (J : J9 σ) : Cc 8 mX9_ruleCount [.ref 0] σ (QI (fun u1 σ1 => Cc 8 mX10_ruleCount [.ref 97] σ1 (QI (fun u2 σ2 => u2 = u1 ∧ J9 σ2)))) := by
  obtain ⟨⟨⟨n, R, lf, rg, wt, lev, stt, ap, str, v, cC, cM⟩, ⟨kc, kf, iv, iC, iM⟩, ⟨lc, l1, l2, lv, lC, lM⟩, hS, hP⟩, hz⟩ := id J
  have hn := v.1
  have hR := v.2.1
  exact c_X9_ruleCount cC (c_X10_ruleCount cM ⟨rfl, J⟩)
theorem pr_stringLength {σ : S9} (J : J9 σ) : Cc 8 mX9_stringLength [.ref 0] σ (QI (fun u1 σ1 => Cc 8 mX10_stringLength [.ref 97] σ1 (QI (fun u2 σ2 => u2 = u1 ∧ J9 σ2)))) := by
  obtain ⟨⟨⟨n, R, lf, rg, wt, lev, stt, ap, str, v, cC, cM⟩, ⟨kc, kf, iv, iC, iM⟩, ⟨lc, l1, l2, lv, lC, lM⟩, hS, hP⟩, hz⟩ := id J
  have hn := v.1
  have hR := v.2.1
  exact c_X9_stringLength v cC (c_X10_stringLength cM ⟨rfl, J⟩)
theorem pr_stringWeight {σ : S9} (J : J9 σ) : Cc 8 mX9_stringWeight [.ref 0] σ (QI (fun u1 σ1 => Cc 8 mX10_stringWeight [.ref 97] σ1 (QI (fun u2 σ2 => u2 = u1 ∧ J9 σ2)))) := by
  obtain ⟨⟨⟨n, R, lf, rg, wt, lev, stt, ap, str, v, cC, cM⟩, ⟨kc, kf, iv, iC, iM⟩, ⟨lc, l1, l2, lv, lC, lM⟩, hS, hP⟩, hz⟩ := id J
  have hn := v.1
  have hR := v.2.1
  have hw : ∀ x, 0 ≤ x → x < n → gI σ 13 x = gI σ 100 x := fun x a b => (cC.2.2.2.2.2 x a (by omega)).1.trans (cM.w9 ⟨a, by omega⟩).symm
  have hv : ∀ x, 0 ≤ x → x < n → gI σ 14 x = gI σ 101 x := fun x a b => (cC.2.2.2.2.2 x a (by omega)).2.1.trans (cM.v9 ⟨a, by omega⟩).symm
  have ha : ∀ x, 0 ≤ x → x < n → gF σ 15 x = gF σ 102 x := fun x a b => (cC.2.2.2.2.2 x a (by omega)).2.2.trans (cM.a9 ⟨a, by omega⟩).symm
  exact c_X9_stringWeight v cC (c_X10_stringWeight v cM ⟨wt9_congr (fun x hx => by have := v.2.2.2.2.2.1 x hx; exact (hw x this.1 this.2).symm), J⟩)
theorem pr_weight {σ : S9} (J : J9 σ) {x : Int} (hx : (-2147483648 ≤ x ∧ x < 2147483648)) : Cc 8 mX9_weight [.ref 0, .int (iI x)] σ (QI (fun u1 σ1 => Cc 8 mX10_weight [.ref 97, .int (iI x)] σ1 (QI (fun u2 σ2 => u2 = u1 ∧ J9 σ2)))) := by
  obtain ⟨⟨⟨n, R, lf, rg, wt, lev, stt, ap, str, v, cC, cM⟩, ⟨kc, kf, iv, iC, iM⟩, ⟨lc, l1, l2, lv, lC, lM⟩, hS, hP⟩, hz⟩ := id J
  have hn := v.1
  have hR := v.2.1
  refine c_X9_weight v cC hx (fun z0 => ?_) (fun z0 => ?_)
  · exact c_X10_weight v cM hx (fun y0 => by first | exact ⟨rfl, J⟩ | (exfalso; omega)) (fun y0 => by first | exact ⟨rfl, J⟩ | (exfalso; omega))
  · exact c_X10_weight v cM hx (fun y0 => by first | exact ⟨rfl, J⟩ | (exfalso; omega)) (fun y0 => by first | exact ⟨rfl, J⟩ | (exfalso; omega))
theorem pr_level {σ : S9} (J : J9 σ) {x : Int} (hx : (-2147483648 ≤ x ∧ x < 2147483648)) : Cc 8 mX9_level [.ref 0, .int (iI x)] σ (QI (fun u1 σ1 => Cc 8 mX10_level [.ref 97, .int (iI x)] σ1 (QI (fun u2 σ2 => u2 = u1 ∧ J9 σ2)))) := by
  obtain ⟨⟨⟨n, R, lf, rg, wt, lev, stt, ap, str, v, cC, cM⟩, ⟨kc, kf, iv, iC, iM⟩, ⟨lc, l1, l2, lv, lC, lM⟩, hS, hP⟩, hz⟩ := id J
  have hn := v.1
  have hR := v.2.1
  refine c_X9_level v cC hx (fun z0 => ?_) (fun z0 => ?_)
  · exact c_X10_level v cM hx (fun y0 => by first | exact ⟨rfl, J⟩ | (exfalso; omega)) (fun y0 => by first | exact ⟨rfl, J⟩ | (exfalso; omega))
  · exact c_X10_level v cM hx (fun y0 => by first | exact ⟨rfl, J⟩ | (exfalso; omega)) (fun y0 => by first | exact ⟨rfl, J⟩ | (exfalso; omega))
theorem pr_balance {σ : S9} (J : J9 σ) {r x : Int} (hr : (-2147483648 ≤ r ∧ r < 2147483648)) (hx : (-2147483648 ≤ x ∧ x < 2147483648)) : Cc 8 mX9_balance [.ref 0, .int (iI r), .int (iI x)] σ (QI (fun u1 σ1 => Cc 8 mX10_balance [.ref 97, .int (iI r), .int (iI x)] σ1 (QI (fun u2 σ2 => u2 = u1 ∧ J9 σ2)))) := by
  obtain ⟨⟨⟨n, R, lf, rg, wt, lev, stt, ap, str, v, cC, cM⟩, ⟨kc, kf, iv, iC, iM⟩, ⟨lc, l1, l2, lv, lC, lM⟩, hS, hP⟩, hz⟩ := id J
  have hn := v.1
  have hR := v.2.1
  refine c_X9_balance v cC hr hx (fun z0 => ?_) (fun z0 z1 => ?_) (fun z0 z1 => ?_)
  · exact c_X10_balance v cM hr hx (fun y0 => by first | exact ⟨rfl, J⟩ | (exfalso; omega)) (fun y0 y1 => by first | exact ⟨rfl, J⟩ | (exfalso; omega)) (fun y0 y1 => by first | exact ⟨rfl, J⟩ | (exfalso; omega))
  · exact c_X10_balance v cM hr hx (fun y0 => by first | exact ⟨rfl, J⟩ | (exfalso; omega)) (fun y0 y1 => by first | exact ⟨rfl, J⟩ | (exfalso; omega)) (fun y0 y1 => by first | exact ⟨rfl, J⟩ | (exfalso; omega))
  · exact c_X10_balance v cM hr hx (fun y0 => by first | exact ⟨rfl, J⟩ | (exfalso; omega)) (fun y0 y1 => by first | exact ⟨rfl, J⟩ | (exfalso; omega)) (fun y0 y1 => by first | exact ⟨rfl, J⟩ | (exfalso; omega))
theorem pr_stringLetter {σ : S9} (J : J9 σ) {p : Int} (hp : (-2147483648 ≤ p ∧ p < 2147483648)) : Cc 8 mX9_stringLetter [.ref 0, .int (iI p)] σ (QI (fun u1 σ1 => Cc 8 mX10_stringLetter [.ref 97, .int (iI p)] σ1 (QI (fun u2 σ2 => u2 = u1 ∧ J9 σ2)))) := by
  obtain ⟨⟨⟨n, R, lf, rg, wt, lev, stt, ap, str, v, cC, cM⟩, ⟨kc, kf, iv, iC, iM⟩, ⟨lc, l1, l2, lv, lC, lM⟩, hS, hP⟩, hz⟩ := id J
  have hn := v.1
  have hR := v.2.1
  refine c_X9_stringLetter v cC hp (fun z0 => ?_) (fun z0 => ?_)
  · exact c_X10_stringLetter v cM hp (fun y0 => by first | exact ⟨rfl, J⟩ | (exfalso; omega)) (fun y0 => by first | exact ⟨rfl, J⟩ | (exfalso; omega))
  · exact c_X10_stringLetter v cM hp (fun y0 => by first | exact ⟨rfl, J⟩ | (exfalso; omega)) (fun y0 => by first | exact ⟨rfl, J⟩ | (exfalso; omega))
theorem pr_ruleLetter {σ : S9} (J : J9 σ) {r s p : Int} (hr : (-2147483648 ≤ r ∧ r < 2147483648)) (hs : (-2147483648 ≤ s ∧ s < 2147483648)) (hp : (-2147483648 ≤ p ∧ p < 2147483648)) : Cc 8 mX9_ruleLetter [.ref 0, .int (iI r), .int (iI s), .int (iI p)] σ (QI (fun u1 σ1 => Cc 8 mX10_ruleLetter [.ref 97, .int (iI r), .int (iI s), .int (iI p)] σ1 (QI (fun u2 σ2 => u2 = u1 ∧ J9 σ2)))) := by
  obtain ⟨⟨⟨n, R, lf, rg, wt, lev, stt, ap, str, v, cC, cM⟩, ⟨kc, kf, iv, iC, iM⟩, ⟨lc, l1, l2, lv, lC, lM⟩, hS, hP⟩, hz⟩ := id J
  have hn := v.1
  have hR := v.2.1
  refine c_X9_ruleLetter v cC hr hs hp (fun z => ?_) (fun z1 z2 => ?_) (fun z1 z2 w ew => ⟨fun z3 => ?_, fun z3 => ?_⟩)
  · exact c_X10_ruleLetter v cM hr hs hp (fun y => ⟨rfl, J⟩) (fun y1 y2 => absurd y1 z) (fun y1 y2 => absurd y1 z)
  · exact c_X10_ruleLetter v cM hr hs hp (fun y => absurd z1 y) (fun y1 y2 => ⟨rfl, J⟩) (fun y1 y2 => absurd y2 z2)
  · exact c_X10_ruleLetter v cM hr hs hp (fun y => absurd z1 y) (fun y1 y2 => absurd z2 y2) (fun y1 y2 w' ew' => by
      rw [← ew] at ew'
      subst ew'
      exact ⟨fun y3 => ⟨rfl, J⟩, fun y3 => absurd z3 y3⟩)
  · exact c_X10_ruleLetter v cM hr hs hp (fun y => absurd z1 y) (fun y1 y2 => absurd z2 y2) (fun y1 y2 w' ew' => by
      rw [← ew] at ew'
      subst ew'
      exact ⟨fun y3 => absurd y3 z3, fun y3 => ⟨rfl, J⟩⟩)
theorem pr_approximateWeight {σ : S9} (J : J9 σ) {x : Int} (hx : (-2147483648 ≤ x ∧ x < 2147483648)) : Cc 8 mX9_approximateWeight [.ref 0, .int (iI x)] σ (QL (fun u1 σ1 => Cc 8 mX10_approximateWeight [.ref 97, .int (iI x)] σ1 (QL (fun u2 σ2 => u2 = u1 ∧ J9 σ2)))) := by
  obtain ⟨⟨⟨n, R, lf, rg, wt, lev, stt, ap, str, v, cC, cM⟩, ⟨kc, kf, iv, iC, iM⟩, ⟨lc, l1, l2, lv, lC, lM⟩, hS, hP⟩, hz⟩ := id J
  have hn := v.1
  have hR := v.2.1
  have hw : ∀ x, 0 ≤ x → x < n → gI σ 13 x = gI σ 100 x := fun x a b => (cC.2.2.2.2.2 x a (by omega)).1.trans (cM.w9 ⟨a, by omega⟩).symm
  have hv : ∀ x, 0 ≤ x → x < n → gI σ 14 x = gI σ 101 x := fun x a b => (cC.2.2.2.2.2 x a (by omega)).2.1.trans (cM.v9 ⟨a, by omega⟩).symm
  have ha : ∀ x, 0 ≤ x → x < n → gF σ 15 x = gF σ 102 x := fun x a b => (cC.2.2.2.2.2 x a (by omega)).2.2.trans (cM.a9 ⟨a, by omega⟩).symm
  refine c_X9_approximateWeight v cC hx (fun z => ?_) (fun z => ?_)
  · exact c_X10_approximateWeight v cM hx (fun y => ⟨rfl, J⟩) (fun y => absurd y z)
  · exact c_X10_approximateWeight v cM hx (fun y => absurd z y) (fun y => ⟨by rw [ha x z.1 z.2], J⟩)
theorem pr_margin {σ : S9} (J : J9 σ) {r : Int} (hr : (-2147483648 ≤ r ∧ r < 2147483648)) : Cc 8 mX9_margin [.ref 0, .int (iI r)] σ (QL (fun u1 σ1 => Cc 8 mX10_margin [.ref 97, .int (iI r)] σ1 (QL (fun u2 σ2 => u2 = u1 ∧ J9 σ2)))) := by
  obtain ⟨⟨⟨n, R, lf, rg, wt, lev, stt, ap, str, v, cC, cM⟩, ⟨kc, kf, iv, iC, iM⟩, ⟨lc, l1, l2, lv, lC, lM⟩, hS, hP⟩, hz⟩ := id J
  have hn := v.1
  have hR := v.2.1
  have hw : ∀ x, 0 ≤ x → x < n → gI σ 13 x = gI σ 100 x := fun x a b => (cC.2.2.2.2.2 x a (by omega)).1.trans (cM.w9 ⟨a, by omega⟩).symm
  have hv : ∀ x, 0 ≤ x → x < n → gI σ 14 x = gI σ 101 x := fun x a b => (cC.2.2.2.2.2 x a (by omega)).2.1.trans (cM.v9 ⟨a, by omega⟩).symm
  have ha : ∀ x, 0 ≤ x → x < n → gF σ 15 x = gF σ 102 x := fun x a b => (cC.2.2.2.2.2 x a (by omega)).2.2.trans (cM.a9 ⟨a, by omega⟩).symm
  refine c_X9_margin v cC hr (fun z => ?_) (fun z => ?_)
  · exact c_X10_margin v cM hr (fun y => ⟨rfl, J⟩) (fun y => absurd y z)
  · exact c_X10_margin v cM hr (fun y => absurd z y) (fun y => ⟨by rw [mg9_congr (f := gF σ 15) (g := gF σ 102) n.toNat (fun x a b => ⟨rfl, ha x a (by omega)⟩)], J⟩)
theorem pr_isAdmissible {σ : S9} (J : J9 σ) : Cc 8 mX9_isAdmissible [.ref 0] σ (QI (fun u1 σ1 => Cc 8 mX10_isAdmissible [.ref 97] σ1 (QI (fun u2 σ2 => u2 = u1 ∧ J9 σ2)))) := by
  obtain ⟨⟨⟨n, R, lf, rg, wt, lev, stt, ap, str, v, cC, cM⟩, ⟨kc, kf, iv, iC, iM⟩, ⟨lc, l1, l2, lv, lC, lM⟩, hS, hP⟩, hz⟩ := id J
  have hn := v.1
  have hR := v.2.1
  have hw : ∀ x, 0 ≤ x → x < n → gI σ 13 x = gI σ 100 x := fun x a b => (cC.2.2.2.2.2 x a (by omega)).1.trans (cM.w9 ⟨a, by omega⟩).symm
  have hv : ∀ x, 0 ≤ x → x < n → gI σ 14 x = gI σ 101 x := fun x a b => (cC.2.2.2.2.2 x a (by omega)).2.1.trans (cM.v9 ⟨a, by omega⟩).symm
  have ha : ∀ x, 0 ≤ x → x < n → gF σ 15 x = gF σ 102 x := fun x a b => (cC.2.2.2.2.2 x a (by omega)).2.2.trans (cM.a9 ⟨a, by omega⟩).symm
  have ad := adm9_congr hw hv
  refine c_X9_isAdmissible v cC (fun z => ?_) (fun z => ?_)
  · exact c_X10_isAdmissible cM.1 hn (cM.wb v) (cM.vb v) (fun y => ⟨rfl, J⟩) (fun y => absurd (ad.mp z) y)
  · exact c_X10_isAdmissible cM.1 hn (cM.wb v) (cM.vb v) (fun y => absurd (ad.mpr y) z) (fun y => ⟨rfl, J⟩)
theorem pr_compareSides {σ : S9} (J : J9 σ) {r : Int} (hr : (-2147483648 ≤ r ∧ r < 2147483648)) : Cc 8 mX9_compareSides [.ref 0, .int (iI r)] σ (QI (fun u1 σ1 => Cc 8 mX10_compareSides [.ref 97, .int (iI r)] σ1 (QI (fun u2 σ2 => u2 = u1 ∧ J9 σ2)))) := by
  obtain ⟨⟨⟨n, R, lf, rg, wt, lev, stt, ap, str, v, cC, cM⟩, ⟨kc, kf, iv, iC, iM⟩, ⟨lc, l1, l2, lv, lC, lM⟩, hS, hP⟩, hz⟩ := id J
  have hn := v.1
  have hR := v.2.1
  have hw : ∀ x, 0 ≤ x → x < n → gI σ 13 x = gI σ 100 x := fun x a b => (cC.2.2.2.2.2 x a (by omega)).1.trans (cM.w9 ⟨a, by omega⟩).symm
  have hv : ∀ x, 0 ≤ x → x < n → gI σ 14 x = gI σ 101 x := fun x a b => (cC.2.2.2.2.2 x a (by omega)).2.1.trans (cM.v9 ⟨a, by omega⟩).symm
  have ha : ∀ x, 0 ≤ x → x < n → gF σ 15 x = gF σ 102 x := fun x a b => (cC.2.2.2.2.2 x a (by omega)).2.2.trans (cM.a9 ⟨a, by omega⟩).symm
  have hc : ∀ a b : List Int, (∀ x ∈ a, 0 ≤ x ∧ x < n) → (∀ x ∈ b, 0 ≤ x ∧ x < n) → cmp9 (gI σ 100) (gI σ 101) (gI σ 97 6) a b = cmp9 (gI σ 13) (gI σ 14) (gI σ 1 7) a b := fun a b h1 h2 => by
    rw [cM.2.2.1, cC.2.2.1]
    exact (cmp9_congr hw hv h1 h2 stt).symm
  refine c_X9_compareSides v cC hr (fun z => ?_) (fun z => ?_)
  · exact c_X10_compareSides v.2.1 cM.2.1 (fun r a b => cM.ll ⟨a, b⟩) (fun r a b => cM.rr ⟨a, b⟩) (fun r a b => v.ol ⟨a, b⟩) (fun r a b => v.or ⟨a, b⟩) (by rw [cM.2.2.1]; exact v.2.2.2.2.1) (cM.wb v) (cM.vb v) hr (fun y => ⟨rfl, J⟩) (fun y => absurd y z)
  · exact c_X10_compareSides v.2.1 cM.2.1 (fun r a b => cM.ll ⟨a, b⟩) (fun r a b => cM.rr ⟨a, b⟩) (fun r a b => v.ol ⟨a, b⟩) (fun r a b => v.or ⟨a, b⟩) (by rw [cM.2.2.1]; exact v.2.2.2.2.1) (cM.wb v) (cM.vb v) hr (fun y => absurd z y) (fun y τ e => ⟨hc _ _ (v.2.2.1 r z.1 z.2).1.1 (v.2.2.1 r z.1 z.2).2.2.1, J.ks e (fun k hk => by omega)⟩)
theorem pr_firstUnoriented {σ : S9} (J : J9 σ) : Cc 8 mX9_firstUnoriented [.ref 0] σ (QI (fun u1 σ1 => Cc 8 mX10_firstUnoriented [.ref 97] σ1 (QI (fun u2 σ2 => u2 = u1 ∧ J9 σ2)))) := by
  obtain ⟨⟨⟨n, R, lf, rg, wt, lev, stt, ap, str, v, cC, cM⟩, ⟨kc, kf, iv, iC, iM⟩, ⟨lc, l1, l2, lv, lC, lM⟩, hS, hP⟩, hz⟩ := id J
  have hn := v.1
  have hR := v.2.1
  have hw : ∀ x, 0 ≤ x → x < n → gI σ 13 x = gI σ 100 x := fun x a b => (cC.2.2.2.2.2 x a (by omega)).1.trans (cM.w9 ⟨a, by omega⟩).symm
  have hv : ∀ x, 0 ≤ x → x < n → gI σ 14 x = gI σ 101 x := fun x a b => (cC.2.2.2.2.2 x a (by omega)).2.1.trans (cM.v9 ⟨a, by omega⟩).symm
  have ha : ∀ x, 0 ≤ x → x < n → gF σ 15 x = gF σ 102 x := fun x a b => (cC.2.2.2.2.2 x a (by omega)).2.2.trans (cM.a9 ⟨a, by omega⟩).symm
  have hc : ∀ a b : List Int, (∀ x ∈ a, 0 ≤ x ∧ x < n) → (∀ x ∈ b, 0 ≤ x ∧ x < n) → cmp9 (gI σ 100) (gI σ 101) (gI σ 97 6) a b = cmp9 (gI σ 13) (gI σ 14) (gI σ 1 7) a b := fun a b h1 h2 => by
    rw [cM.2.2.1, cC.2.2.1]
    exact (cmp9_congr hw hv h1 h2 stt).symm
  have hcr : ∀ r, 0 ≤ r → r < R → cmp9 (gI σ 100) (gI σ 101) (gI σ 97 6) (lf r) (rg r) = cmp9 (gI σ 13) (gI σ 14) (gI σ 1 7) (lf r) (rg r) := fun r a b => hc _ _ (v.2.2.1 r a b).1.1 (v.2.2.1 r a b).2.2.1
  refine c_X9_firstUnoriented v cC (fun r r0 r1 z1 z2 => ?_) (fun z => ?_)
  · refine c_X10_firstUnoriented v.2.1 cM.2.1 (fun r a b => cM.ll ⟨a, b⟩) (fun r a b => cM.rr ⟨a, b⟩) (fun r a b => v.ol ⟨a, b⟩) (fun r a b => v.or ⟨a, b⟩) (by rw [cM.2.2.1]; exact v.2.2.2.2.1) (cM.wb v) (cM.vb v) (fun s s0 s1 y1 y2 τ e => ⟨?_, J.ks e (fun k hk => by omega)⟩) (fun y τ e => absurd ((hcr r r0 r1).symm.trans (y r r0 r1)) z1)
    rcases Int.lt_trichotomy s r with q | q | q
    · exact absurd ((hcr s s0 s1).trans (z2 s s0 q)) y1
    · exact q
    · exact absurd ((hcr r r0 r1).symm.trans (y2 r r0 q)) z1
  · exact c_X10_firstUnoriented v.2.1 cM.2.1 (fun r a b => cM.ll ⟨a, b⟩) (fun r a b => cM.rr ⟨a, b⟩) (fun r a b => v.ol ⟨a, b⟩) (fun r a b => v.or ⟨a, b⟩) (by rw [cM.2.2.1]; exact v.2.2.2.2.1) (cM.wb v) (cM.vb v) (fun s s0 s1 y1 y2 τ e => absurd ((hcr s s0 s1).trans (z s s0 s1)) y1) (fun y τ e => ⟨rfl, J.ks e (fun k hk => by omega)⟩)
theorem pr_reachableLetters {σ : S9} (J : J9 σ) {x : Int} (hx : (-2147483648 ≤ x ∧ x < 2147483648)) : Cc 8 mX9_reachableLetters [.ref 0, .int (iI x)] σ (QI (fun u1 σ1 => Cc 8 mX10_reachableLetters [.ref 97, .int (iI x)] σ1 (QI (fun u2 σ2 => u2 = u1 ∧ J9 σ2)))) := by
  obtain ⟨⟨⟨n, R, lf, rg, wt, lev, stt, ap, str, v, cC, cM⟩, ⟨kc, kf, iv, iC, iM⟩, ⟨lc, l1, l2, lv, lC, lM⟩, hS, hP⟩, hz⟩ := id J
  have hn := v.1
  have hR := v.2.1
  refine c_X9_reachableLetters v cC hx (fun z => ?_) (fun z S hS1 => ?_)
  · exact c_X10_reachableLetters v cM hx (fun y => ⟨rfl, J⟩) (fun y => absurd y z)
  · exact c_X10_reachableLetters v cM hx (fun y => absurd z y) (fun y T hT => ⟨by rw [hT.uniq hS1], J⟩)
theorem pr_loopStep {σ : S9} (J : J9 σ) {a b : Int} (ha : (-2147483648 ≤ a ∧ a < 2147483648)) (hb : (-2147483648 ≤ b ∧ b < 2147483648)) : Cc 8 mX9_loopStep [.ref 0, .int (iI a), .int (iI b)] σ (QI (fun u1 σ1 => Cc 8 mX10_loopStep [.ref 97, .int (iI a), .int (iI b)] σ1 (QI (fun u2 σ2 => u2 = u1 ∧ J9 σ2)))) := by
  obtain ⟨⟨⟨n, R, lf, rg, wt, lev, stt, ap, str, v, cC, cM⟩, ⟨kc, kf, iv, iC, iM⟩, ⟨lc, l1, l2, lv, lC, lM⟩, hS, hP⟩, hz⟩ := id J
  have hn := v.1
  have hR := v.2.1
  refine c_X9_loopStep lv lC ha hb (fun z => ?_) (fun z1 z2 => ?_) (fun z1 z2 => ?_)
  · exact c_X10_loopStep lv lM ha hb (fun y => ⟨rfl, J⟩) (fun y1 y2 => absurd y1 z) (fun y1 y2 => absurd y1 z)
  · exact c_X10_loopStep lv lM ha hb (fun y => absurd z1 y) (fun y1 y2 => ⟨rfl, J⟩) (fun y1 y2 => absurd y2 z2)
  · exact c_X10_loopStep lv lM ha hb (fun y => absurd z1 y) (fun y1 y2 => absurd z2 y2) (fun y1 y2 => ⟨rfl, J⟩)
