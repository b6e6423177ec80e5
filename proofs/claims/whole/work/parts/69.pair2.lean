theorem s97 {σ : S9} {j x i : Int} (h : i ≠ j) : gI (sI σ 97 j x) 97 i = gI σ 97 i := by rw [gI_aI_eq, up9_ne h]
theorem ap1 : apOK 0x3f800000 := ⟨by decide, by decide +kernel⟩
theorem inp0 {τ : S9} (h1 : gI τ 31 0 = 0) (h2 : gI τ 97 9 = 0) : Inp τ := ⟨0, fun _ => 0, ⟨by omega, fun j a b => by omega⟩, ⟨h1, fun j a b => by omega⟩, ⟨h2, fun j a b => by omega⟩⟩
theorem lop0 {τ : S9} (h1 : gI τ 33 0 = 0) (h2 : gI τ 97 12 = 0) : Lop τ := ⟨0, fun _ => 0, fun _ => 0, ⟨by omega, fun j a b => by omega⟩, ⟨h1, fun j a b => by omega⟩, ⟨h2, fun j a b => by omega⟩⟩
section
variable {n R : Int} {lf rg : Int → List Int} {wt lev : Int → Int} {stt : Int} {ap : Int → UInt32} {str : List Int} {σ τ : S9} {wt' lev' : Int → Int} {stt' : Int} {ap' : Int → UInt32} {str' : List Int}
theorem SyC.rep (c : SyC σ 1 n R lf rg wt lev stt ap str) (hR : R ≤ 8) (e : eq9 (fun k => 2 ≤ k ∧ k ≤ 12) σ τ) (h0 : gI τ 1 0 = n) (h1 : gI τ 1 1 = R) (h7 : gI τ 1 7 = stt') (h9 : gL τ 1 9 = encW str') (hr : ∀ x, 0 ≤ x → x < 8 → gI τ 13 x = wt' x ∧ gI τ 14 x = lev' x ∧ gF τ 15 x = ap' x) : SyC τ 1 n R lf rg wt' lev' stt' ap' str' := by
  refine ⟨h0, h1, h7, h9, fun r r0 r1 => ?_, hr⟩
  have h := c.2.2.2.2.1 r r0 r1
  rw [(e (1 + 1) (by omega)).2.1, (e (1 + 2) (by omega)).2.1, (e (1 + 4 + r.toNat) (by omega)).1]
  exact h
theorem SyM.rep (c : SyMn σ n R lf rg wt lev stt ap str) (e : eq9 (fun k => k = 98 ∨ k = 99) σ τ) (h0 : gI τ 97 0 = n) (h1 : gI τ 97 1 = R) (h7 : gI τ 97 6 = stt') (h9 : gI τ 97 11 = str'.length) (hr : ∀ x, 0 ≤ x → x < 6 → gI τ 100 x = wt' x ∧ gI τ 101 x = lev' x ∧ gF τ 102 x = ap' x) (ht : ∀ k : Int, 0 ≤ k → k < str'.length → gI τ 104 k = at9 str' k) : SyMn τ n R lf rg wt' lev' stt' ap' str' := by
  refine ⟨h0, h1, h7, h9, fun r r0 r1 => ?_, hr, fun k a b => ht k (by omega) (by omega)⟩
  have h := c.2.2.2.2.1 r r0 r1
  rw [(e 98 (by omega)).1, (e 99 (by omega)).1]
  exact h
theorem Va.rep (v : Va n R lf rg wt lev stt ap str) (h : ∀ x, 0 ≤ x → x < 8 → (0 ≤ wt' x ∧ wt' x ≤ 99) ∧ (0 ≤ lev' x ∧ lev' x ≤ 9) ∧ apOK (ap' x)) (hs : 0 ≤ stt' ∧ stt' ≤ 1) (ho : OkL n 12 str') : Va n R lf rg wt' lev' stt' ap' str' := ⟨v.1, v.2.1, v.2.2.1, h, hs, ho⟩
theorem dec9_congr {w w' : Int → Int} (hw : ∀ x, 0 ≤ x → x < n → w x = w' x) (v : Va n R lf rg wt lev stt ap str) : ∀ k : Nat, (k : Int) ≤ R → dec9 lf rg w k = dec9 lf rg w' k
  | 0, _ => rfl
  | k + 1, h => by
    have hr := v.2.2.1 k (by omega) (by omega)
    unfold dec9
    rw [dec9_congr hw v k (by omega), wt9_congr (f := w) (g := w') (xs := lf k) (fun x hx => hw x (hr.1.1 x hx).1 (hr.1.1 x hx).2), wt9_congr (f := w) (g := w') (xs := rg k) (fun x hx => hw x (hr.2.2.1 x hx).1 (hr.2.2.1 x hx).2)]
end
theorem isR_uniq {k : Int} {f : Int → Int} {n a b : Int} (h1 : isR k f n a) (h2 : isR k f n b) : a = b := by
  obtain ⟨a1, a2, a3, a4, a5, a6, a7⟩ := h1
  obtain ⟨b1, b2, b3, b4, b5, b6, b7⟩ := h2
  rcases Int.lt_trichotomy a b with q | q | q
  · have := b6 a (by omega) q; omega
  · exact q
  · have := a6 b (by omega) q; omega
theorem pr_clearInput {σ : S9} (J : J9 σ) : Cc 8 mX9_clearInput [.ref 0] σ (QI (fun u1 σ1 => Cc 8 mX10_clearInput [.ref 97] σ1 (QI (fun u2 σ2 => u2 = u1 ∧ J9 σ2)))) := by
  obtain ⟨⟨⟨n, R, lf, rg, wt, lev, stt, ap, str, v, cC, cM⟩, ⟨kc, kf, iv, iC, iM⟩, ⟨lc, l1, l2, lv, lC, lM⟩, hS, hP⟩, hz⟩ := id J
  have hn := v.1
  have hR := v.2.1
  refine c_X9_clearInput iC.1 (c_X10_clearInput (k := kc) (by rw [gI_aI_ne (by decide)]; exact iM.1) ⟨rfl, ?_⟩)
  have E : eq9 (fun k => k ≠ 31 ∧ k ≠ 97) σ (sI (sI σ 31 0 0) 97 9 0) := (eq9.aI (fun z => z.1 rfl)).tr (eq9.aI (fun z => z.2 rfl))
  have F : ∀ i, i ≠ 9 → gI (sI (sI σ 31 0 0) 97 9 0) 97 i = gI σ 97 i := fun i hi => by rw [s97 hi, gI_aI_ne (by decide)]
  exact J.mk (J.1.1.mv (E.mono (fun k hk => by omega)) (fun i hi => F i (by omega))) (inp0 (by rw [gI_aI_ne (by decide), gI_aI_eq, up9_eq]) (by rw [gI_aI_eq, up9_eq])) (J.1.2.2.1.mv (E.mono (fun k hk => by omega)) (F 12 (by decide))) (E.mono (fun k hk => by omega)) (fun i a b => F i (by omega))
theorem pr_append {σ : S9} (J : J9 σ) {x m : Int} (hx : (-2147483648 ≤ x ∧ x < 2147483648)) (hm : (-2147483648 ≤ m ∧ m < 2147483648)) : Cc 8 mX9_append [.ref 0, .int (iI x), .int (iI m)] σ (QI (fun u1 σ1 => Cc 8 mX10_append [.ref 97, .int (iI x), .int (iI m)] σ1 (QI (fun u2 σ2 => u2 = u1 ∧ J9 σ2)))) := by
  obtain ⟨⟨⟨n, R, lf, rg, wt, lev, stt, ap, str, v, cC, cM⟩, ⟨kc, kf, iv, iC, iM⟩, ⟨lc, l1, l2, lv, lC, lM⟩, hS, hP⟩, hz⟩ := id J
  have hn := v.1
  have hR := v.2.1
  refine c_X9_append iC.1 iv.1 hx hm (fun z => ?_) (fun z1 z2 => ?_) (fun z1 z2 => ?_)
  · exact c_X10_append iM.1 iv.1 hx hm (fun y => ⟨rfl, J⟩) (fun y1 y2 => absurd y1 z) (fun y1 y2 => absurd y1 z)
  · exact c_X10_append iM.1 iv.1 hx hm (fun y => absurd z1 y) (fun y1 y2 => ⟨rfl, J⟩) (fun y1 y2 => absurd y2 z2)
  obtain ⟨σ1, e1⟩ : ∃ σ1, sI (aI σ 32 (fil9 (gI σ 32) kc m x)) 31 0 (kc + m) = σ1 := ⟨_, rfl⟩
  rw [e1]
  have E1 : eq9 (fun k => k ≠ 31 ∧ k ≠ 32) σ σ1 := by rw [← e1]; exact (eq9.aI (fun z => z.2 rfl)).tr (eq9.aI (fun z => z.1 rfl))
  have g31 : gI σ1 31 0 = kc + m := by rw [← e1, gI_aI_eq, up9_eq]
  have g32 : gI σ1 32 = fil9 (gI σ 32) kc m x := by rw [← e1, gI_aI_ne (by decide), gI_aI_eq]
  have h97 : gI σ1 97 = gI σ 97 := (E1 97 (by decide)).1
  have h103 : gI σ1 103 = gI σ 103 := (E1 103 (by decide)).1
  refine c_X10_append (k := kc) (by rw [h97]; exact iM.1) iv.1 hx hm (fun y => absurd z1 y) (fun y1 y2 => absurd z2 y2) (fun y1 y2 => ⟨rfl, ?_⟩)
  have E : eq9 (fun k => k ≠ 31 ∧ k ≠ 32 ∧ k ≠ 97 ∧ k ≠ 103) σ (sI (aI σ1 103 (fil9 (gI σ1 103) kc m x)) 97 9 (kc + m)) := ((E1.mono (fun k hk => ⟨hk.1, hk.2.1⟩)).tr (eq9.aI (fun z => z.2.2.2 rfl))).tr (eq9.aI (fun z => z.2.2.1 rfl))
  have F : ∀ i, i ≠ 9 → gI (sI (aI σ1 103 (fil9 (gI σ1 103) kc m x)) 97 9 (kc + m)) 97 i = gI σ 97 i := fun i hi => by rw [s97 hi, gI_aI_ne (by decide), h97]
  have key : ∀ (f : Int → Int), (∀ j, 0 ≤ j → j < kc → f j = kf j) → ∀ j, 0 ≤ j → j < kc + m → fil9 f kc m x j = fil9 kf kc m x j := fun f hf j a b => by
    unfold fil9
    by_cases q : kc ≤ j ∧ j < kc + m
    · rw [if_pos q, if_pos q]
    · rw [if_neg q, if_neg q]; exact hf j a (by omega)
  have hI : Inp (sI (aI σ1 103 (fil9 (gI σ1 103) kc m x)) 97 9 (kc + m)) := by
    refine ⟨kc + m, fil9 kf kc m x, ⟨by have := iv.1; omega, fun j a b => ?_⟩, ⟨?_, fun j a b => ?_⟩, ⟨?_, fun j a b => ?_⟩⟩
    · show 0 ≤ fil9 kf kc m x j ∧ fil9 kf kc m x j ≤ 127
      unfold fil9
      by_cases q : kc ≤ j ∧ j < kc + m
      · rw [if_pos q]; exact z1.1
      · rw [if_neg q]; exact iv.2 j a (by omega)
    · rw [gI_aI_ne (by decide), gI_aI_ne (by decide)]; exact g31
    · rw [gI_aI_ne (by decide), gI_aI_ne (by decide), g32]
      exact key _ iC.2 j a b
    · rw [gI_aI_eq, up9_eq]
    · rw [gI_aI_ne (by decide), gI_aI_eq, h103]
      exact key _ iM.2 j a b
  exact J.mk (J.1.1.mv (E.mono (fun k hk => by omega)) (fun i hi => F i (by omega))) hI (J.1.2.2.1.mv (E.mono (fun k hk => by omega)) (F 12 (by decide))) (E.mono (fun k hk => by omega)) (fun i a b => F i (by omega))
theorem pr_reset {σ : S9} (J : J9 σ) {m : Int} (hm : (-2147483648 ≤ m ∧ m < 2147483648)) : Cc 8 mX9_reset [.ref 0, .int (iI m)] σ (QI (fun u1 σ1 => Cc 8 mX10_reset [.ref 97, .int (iI m)] σ1 (QI (fun u2 σ2 => u2 = u1 ∧ J9 σ2)))) := by
  obtain ⟨⟨⟨n, R, lf, rg, wt, lev, stt, ap, str, v, cC, cM⟩, ⟨kc, kf, iv, iC, iM⟩, ⟨lc, l1, l2, lv, lC, lM⟩, hS, hP⟩, hz⟩ := id J
  have hn := v.1
  have hR := v.2.1
  refine c_X9_reset v cC hm (fun z => ?_) (fun z σ1 s1 e1 g33 => ?_)
  · exact c_X10_reset cM hm (fun y => ⟨rfl, J⟩) (fun y => absurd y z)
  have h97 : gI σ1 97 = gI σ 97 := (e1 97 (by decide)).1
  refine c_X10_reset (cM.mv (e1.mono (fun k hk => by omega)) (fun i hi => by rw [h97])) hm (fun y => absurd z y) (fun y τ e2 f2 w2 => ⟨rfl, ?_⟩)
  have E : eq9 (fun k => ¬ (1 ≤ k ∧ k ≤ 15) ∧ k ≠ 33 ∧ k ≠ 97 ∧ k ≠ 100 ∧ k ≠ 101 ∧ k ≠ 102) σ τ := (e1.mono (fun k hk => ⟨hk.1, hk.2.1⟩)).tr (e2.mono (fun k hk => hk.2.2))
  have F : ∀ i, i ≠ 0 ∧ i ≠ 1 ∧ i ≠ 11 ∧ i ≠ 12 ∧ i ≠ 6 → gI τ 97 i = gI σ 97 i := fun i hi => by rw [f2, up9_ne hi.2.2.2.2, up9_ne hi.2.2.2.1, up9_ne hi.2.2.1, up9_ne hi.2.1, up9_ne hi.1, h97]
  have hSy : Sys τ := by
    refine ⟨m, 0, lf, rg, fun _ => 1, fun _ => 0, 0, fun _ => 0x3f800000, [], ⟨z, by omega, fun r a b => by omega, fun x a b => ⟨(by decide : (0 : Int) ≤ 1 ∧ (1 : Int) ≤ 99), (by decide : (0 : Int) ≤ 0 ∧ (0 : Int) ≤ 9), ap1⟩, by decide, fun x hx => absurd hx List.not_mem_nil, Nat.zero_le _⟩, (s1 lf rg).eq (by omega) (e2.mono (fun k hk => by omega)), ?_⟩
    refine ⟨?_, ?_, ?_, ?_, fun r a b => by omega, w2, fun k a b => by rw [List.length_nil] at b; omega⟩
    · rw [f2, up9_ne (by decide), up9_ne (by decide), up9_ne (by decide), up9_ne (by decide), up9_eq]
    · rw [f2, up9_ne (by decide), up9_ne (by decide), up9_ne (by decide), up9_eq]
    · rw [f2, up9_eq]
    · rw [f2, up9_ne (by decide), up9_ne (by decide), up9_eq]; rfl
  exact J.mk hSy (J.1.2.1.mv (E.mono (fun k hk => by omega)) (F 9 (by decide))) (lop0 (by rw [(e2 33 (by decide)).1]; exact g33) (by rw [f2, up9_ne (by decide), up9_eq])) (E.mono (fun k hk => by omega)) (fun i a b => F i (by omega))
theorem pr_setWeight {σ : S9} (J : J9 σ) {x y : Int} (hx : (-2147483648 ≤ x ∧ x < 2147483648)) (hy : (-2147483648 ≤ y ∧ y < 2147483648)) : Cc 8 mX9_setWeight [.ref 0, .int (iI x), .int (iI y)] σ (QI (fun u1 σ1 => Cc 8 mX10_setWeight [.ref 97, .int (iI x), .int (iI y)] σ1 (QI (fun u2 σ2 => u2 = u1 ∧ J9 σ2)))) := by
  obtain ⟨⟨⟨n, R, lf, rg, wt, lev, stt, ap, str, v, cC, cM⟩, ⟨kc, kf, iv, iC, iM⟩, ⟨lc, l1, l2, lv, lC, lM⟩, hS, hP⟩, hz⟩ := id J
  have hn := v.1
  have hR := v.2.1
  refine c_X9_setWeight v cC hx hy (fun z => ?_) (fun z1 z2 => ?_) (fun z1 z2 => ?_)
  · exact c_X10_setWeight v cM hx hy (fun q => ⟨rfl, J⟩) (fun q1 q2 => absurd q1 z) (fun q1 q2 => absurd q1 z)
  · exact c_X10_setWeight v cM hx hy (fun q => absurd z1 q) (fun q1 q2 => ⟨rfl, J⟩) (fun q1 q2 => absurd q2 z2)
  have c1 := cM.eq (σ' := sI σ 13 x y) (eq9.aI (by decide))
  refine c_X10_setWeight v c1 hx hy (fun q => absurd z1 q) (fun q1 q2 => absurd z2 q2) (fun q1 q2 => ⟨rfl, ?_⟩)
  have E : eq9 (fun k => k ≠ 13 ∧ k ≠ 100) σ (sI (sI σ 13 x y) 100 x y) := (eq9.aI (fun z => z.1 rfl)).tr (eq9.aI (fun z => z.2 rfl))
  have F : ∀ i, i ≠ 1000 → gI (sI (sI σ 13 x y) 100 x y) 97 i = gI σ 97 i := fun i hi => by rw [gI_aI_ne (by decide), gI_aI_ne (by decide)]
  have hu : ∀ f : Int → Int, (∀ i, 0 ≤ i → i < 6 → f i = wt i) → ∀ i, 0 ≤ i → i < 6 → up9 f x y i = up9 wt x y i := fun f hf i a b => by
    by_cases q : i = x
    · rw [q, up9_eq, up9_eq]
    · rw [up9_ne q, up9_ne q]; exact hf i a b
  have hSy : Sys (sI (sI σ 13 x y) 100 x y) := by
    refine ⟨n, R, lf, rg, up9 wt x y, lev, stt, ap, str, v.rep (fun i a b => ⟨?_, (v.2.2.2.1 i a b).2⟩) v.2.2.2.2.1 v.2.2.2.2.2, cC.rep hR.2 (E.mono (fun k hk => by omega)) ?_ ?_ ?_ ?_ (fun i a b => ⟨?_, ?_, ?_⟩), cM.rep (E.mono (fun k hk => by omega)) ?_ ?_ ?_ ?_ (fun i a b => ⟨?_, ?_, ?_⟩) (fun k a b => ?_)⟩
    · by_cases q : i = x
      · rw [q, up9_eq]; exact z2
      · rw [up9_ne q]; exact (v.2.2.2.1 i a b).1
    · rw [(E 1 (by decide)).1]; exact cC.1
    · rw [(E 1 (by decide)).1]; exact cC.2.1
    · rw [(E 1 (by decide)).1]; exact cC.2.2.1
    · rw [(E 1 (by decide)).2.1]; exact cC.2.2.2.1
    · rw [gI_aI_ne (by decide), gI_aI_eq]
      by_cases q : i = x
      · rw [q, up9_eq, up9_eq]
      · rw [up9_ne q, up9_ne q]; exact (cC.2.2.2.2.2 i a b).1
    · rw [(E 14 (by decide)).1]; exact (cC.2.2.2.2.2 i a b).2.1
    · rw [(E 15 (by decide)).2.2.1]; exact (cC.2.2.2.2.2 i a b).2.2
    · rw [(E 97 (by decide)).1]; exact cM.1
    · rw [(E 97 (by decide)).1]; exact cM.2.1
    · rw [(E 97 (by decide)).1]; exact cM.2.2.1
    · rw [(E 97 (by decide)).1]; exact cM.2.2.2.1
    · rw [gI_aI_eq, gI_aI_ne (by decide)]
      exact hu _ (fun i a b => cM.w9 ⟨a, b⟩) i a b
    · rw [(E 101 (by decide)).1]; exact cM.v9 ⟨a, b⟩
    · rw [(E 102 (by decide)).2.2.1]; exact cM.a9 ⟨a, b⟩
    · rw [(E 104 (by decide)).1]; exact cM.tt k a b
  exact J.mk hSy (J.1.2.1.mv (E.mono (fun k hk => by omega)) (F 9 (by decide))) (J.1.2.2.1.mv (E.mono (fun k hk => by omega)) (F 12 (by decide))) (E.mono (fun k hk => by omega)) (fun i a b => F i (by omega))
theorem pr_setLevel {σ : S9} (J : J9 σ) {x y : Int} (hx : (-2147483648 ≤ x ∧ x < 2147483648)) (hy : (-2147483648 ≤ y ∧ y < 2147483648)) : Cc 8 mX9_setLevel [.ref 0, .int (iI x), .int (iI y)] σ (QI (fun u1 σ1 => Cc 8 mX10_setLevel [.ref 97, .int (iI x), .int (iI y)] σ1 (QI (fun u2 σ2 => u2 = u1 ∧ J9 σ2)))) := by
  obtain ⟨⟨⟨n, R, lf, rg, wt, lev, stt, ap, str, v, cC, cM⟩, ⟨kc, kf, iv, iC, iM⟩, ⟨lc, l1, l2, lv, lC, lM⟩, hS, hP⟩, hz⟩ := id J
  have hn := v.1
  have hR := v.2.1
  refine c_X9_setLevel v cC hx hy (fun z => ?_) (fun z1 z2 => ?_) (fun z1 z2 => ?_)
  · exact c_X10_setLevel v cM hx hy (fun q => ⟨rfl, J⟩) (fun q1 q2 => absurd q1 z) (fun q1 q2 => absurd q1 z)
  · exact c_X10_setLevel v cM hx hy (fun q => absurd z1 q) (fun q1 q2 => ⟨rfl, J⟩) (fun q1 q2 => absurd q2 z2)
  have c1 := cM.eq (σ' := sI σ 14 x y) (eq9.aI (by decide))
  refine c_X10_setLevel v c1 hx hy (fun q => absurd z1 q) (fun q1 q2 => absurd z2 q2) (fun q1 q2 => ⟨rfl, ?_⟩)
  have E : eq9 (fun k => k ≠ 14 ∧ k ≠ 101) σ (sI (sI σ 14 x y) 101 x y) := (eq9.aI (fun z => z.1 rfl)).tr (eq9.aI (fun z => z.2 rfl))
  have F : ∀ i, i ≠ 1000 → gI (sI (sI σ 14 x y) 101 x y) 97 i = gI σ 97 i := fun i hi => by rw [gI_aI_ne (by decide), gI_aI_ne (by decide)]
  have hu : ∀ f : Int → Int, (∀ i, 0 ≤ i → i < 6 → f i = lev i) → ∀ i, 0 ≤ i → i < 6 → up9 f x y i = up9 lev x y i := fun f hf i a b => by
    by_cases q : i = x
    · rw [q, up9_eq, up9_eq]
    · rw [up9_ne q, up9_ne q]; exact hf i a b
  have hSy : Sys (sI (sI σ 14 x y) 101 x y) := by
    refine ⟨n, R, lf, rg, wt, up9 lev x y, stt, ap, str, v.rep (fun i a b => ⟨(v.2.2.2.1 i a b).1, ?_, (v.2.2.2.1 i a b).2.2⟩) v.2.2.2.2.1 v.2.2.2.2.2, cC.rep hR.2 (E.mono (fun k hk => by omega)) ?_ ?_ ?_ ?_ (fun i a b => ⟨?_, ?_, ?_⟩), cM.rep (E.mono (fun k hk => by omega)) ?_ ?_ ?_ ?_ (fun i a b => ⟨?_, ?_, ?_⟩) (fun k a b => ?_)⟩
    · by_cases q : i = x
      · rw [q, up9_eq]; exact z2
      · rw [up9_ne q]; exact (v.2.2.2.1 i a b).2.1
    · rw [(E 1 (by decide)).1]; exact cC.1
    · rw [(E 1 (by decide)).1]; exact cC.2.1
    · rw [(E 1 (by decide)).1]; exact cC.2.2.1
    · rw [(E 1 (by decide)).2.1]; exact cC.2.2.2.1
    · rw [(E 13 (by decide)).1]; exact (cC.2.2.2.2.2 i a b).1
    · rw [gI_aI_ne (by decide), gI_aI_eq]
      by_cases q : i = x
      · rw [q, up9_eq, up9_eq]
      · rw [up9_ne q, up9_ne q]; exact (cC.2.2.2.2.2 i a b).2.1
    · rw [(E 15 (by decide)).2.2.1]; exact (cC.2.2.2.2.2 i a b).2.2
    · rw [(E 97 (by decide)).1]; exact cM.1
    · rw [(E 97 (by decide)).1]; exact cM.2.1
    · rw [(E 97 (by decide)).1]; exact cM.2.2.1
    · rw [(E 97 (by decide)).1]; exact cM.2.2.2.1
    · rw [(E 100 (by decide)).1]; exact cM.w9 ⟨a, b⟩
    · rw [gI_aI_eq, gI_aI_ne (by decide)]
      exact hu _ (fun i a b => cM.v9 ⟨a, b⟩) i a b
    · rw [(E 102 (by decide)).2.2.1]; exact cM.a9 ⟨a, b⟩
    · rw [(E 104 (by decide)).1]; exact cM.tt k a b
  exact J.mk hSy (J.1.2.1.mv (E.mono (fun k hk => by omega)) (F 9 (by decide))) (J.1.2.2.1.mv (E.mono (fun k hk => by omega)) (F 12 (by decide))) (E.mono (fun k hk => by omega)) (fun i a b => F i (by omega))
theorem pr_setStatus {σ : S9} (J : J9 σ) {x : Int} (hx : (-2147483648 ≤ x ∧ x < 2147483648)) : Cc 8 mX9_setStatus [.ref 0, .int (iI x)] σ (QI (fun u1 σ1 => Cc 8 mX10_setStatus [.ref 97, .int (iI x)] σ1 (QI (fun u2 σ2 => u2 = u1 ∧ J9 σ2)))) := by
  obtain ⟨⟨⟨n, R, lf, rg, wt, lev, stt, ap, str, v, cC, cM⟩, ⟨kc, kf, iv, iC, iM⟩, ⟨lc, l1, l2, lv, lC, lM⟩, hS, hP⟩, hz⟩ := id J
  have hn := v.1
  have hR := v.2.1
  refine c_X9_setStatus cC hx (fun z => ?_) (fun z => ?_)
  · exact c_X10_setStatus cM hx (fun q => ⟨rfl, J⟩) (fun q => absurd q z)
  have c1 := cM.eq (σ' := sI σ 1 7 x) (eq9.aI (by decide))
  refine c_X10_setStatus c1 hx (fun q => absurd z q) (fun q => ⟨rfl, ?_⟩)
  have E : eq9 (fun k => k ≠ 1 ∧ k ≠ 97) σ (sI (sI σ 1 7 x) 97 6 x) := (eq9.aI (fun z => z.1 rfl)).tr (eq9.aI (fun z => z.2 rfl))
  have F : ∀ i, i ≠ 6 → gI (sI (sI σ 1 7 x) 97 6 x) 97 i = gI σ 97 i := fun i hi => by rw [s97 hi, gI_aI_ne (by decide)]
  have G : ∀ i, i ≠ 7 → gI (sI (sI σ 1 7 x) 97 6 x) 1 i = gI σ 1 i := fun i hi => by rw [gI_aI_ne (by decide), gI_aI_eq, up9_ne hi]
  have hSy : Sys (sI (sI σ 1 7 x) 97 6 x) := by
    refine ⟨n, R, lf, rg, wt, lev, x, ap, str, v.rep v.2.2.2.1 z v.2.2.2.2.2, cC.rep hR.2 (E.mono (fun k hk => by omega)) ?_ ?_ ?_ ?_ (fun i a b => ?_), cM.rep (E.mono (fun k hk => by omega)) ?_ ?_ ?_ ?_ (fun i a b => ?_) (fun k a b => ?_)⟩
    · rw [G 0 (by decide)]; exact cC.1
    · rw [G 1 (by decide)]; exact cC.2.1
    · rw [gI_aI_ne (by decide), gI_aI_eq, up9_eq]
    · exact cC.2.2.2.1
    · rw [(E 13 (by decide)).1, (E 14 (by decide)).1, (E 15 (by decide)).2.2.1]; exact cC.2.2.2.2.2 i a b
    · rw [F 0 (by decide)]; exact cM.1
    · rw [F 1 (by decide)]; exact cM.2.1
    · rw [gI_aI_eq, up9_eq]
    · rw [F 11 (by decide)]; exact cM.2.2.2.1
    · rw [(E 100 (by decide)).1, (E 101 (by decide)).1, (E 102 (by decide)).2.2.1]; exact cM.2.2.2.2.2.1 i a b
    · rw [(E 104 (by decide)).1]; exact cM.tt k a b
  exact J.mk hSy (J.1.2.1.mv (E.mono (fun k hk => by omega)) (F 9 (by decide))) (J.1.2.2.1.mv (E.mono (fun k hk => by omega)) (F 12 (by decide))) (E.mono (fun k hk => by omega)) (fun i a b => F i (by omega))
