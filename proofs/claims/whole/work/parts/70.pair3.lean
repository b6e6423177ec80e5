theorem pr_compareWithInput {σ : S9} (J : J9 σ) : Cc 8 mX9_compareWithInput [.ref 0] σ (QI (fun u1 σ1 => Cc 8 mX10_compareWithInput [.ref 97] σ1 (QI (fun u2 σ2 => u2 = u1 ∧ J9 σ2)))) := by
  obtain ⟨⟨⟨n, R, lf, rg, wt, lev, stt, ap, str, v, cC, cM⟩, ⟨kc, kf, iv, iC, iM⟩, ⟨lc, l1, l2, lv, lC, lM⟩, hS, hP⟩, hz⟩ := id J
  have hn := v.1
  have hR := v.2.1
  have hw : ∀ x, 0 ≤ x → x < n → gI σ 13 x = gI σ 100 x := fun x a b => (cC.2.2.2.2.2 x a (by omega)).1.trans (cM.w9 ⟨a, by omega⟩).symm
  have hv : ∀ x, 0 ≤ x → x < n → gI σ 14 x = gI σ 101 x := fun x a b => (cC.2.2.2.2.2 x a (by omega)).2.1.trans (cM.v9 ⟨a, by omega⟩).symm
  have ha : ∀ x, 0 ≤ x → x < n → gF σ 15 x = gF σ 102 x := fun x a b => (cC.2.2.2.2.2 x a (by omega)).2.2.trans (cM.a9 ⟨a, by omega⟩).symm
  have hc : ∀ a b : List Int, (∀ x ∈ a, 0 ≤ x ∧ x < n) → (∀ x ∈ b, 0 ≤ x ∧ x < n) → cmp9 (gI σ 100) (gI σ 101) (gI σ 97 6) a b = cmp9 (gI σ 13) (gI σ 14) (gI σ 1 7) a b := fun a b h1 h2 => by
    rw [cM.2.2.1, cC.2.2.1]
    exact (cmp9_congr hw hv h1 h2 stt).symm
  have i1 : InM (sI σ 31 0 0) kc kf := iM.eq (eq9.aI (by decide))
  have c1 := cM.eq (σ' := sI σ 31 0 0) (eq9.aI (by decide))
  have E0 : eq9 (fun k => k ≠ 31 ∧ k ≠ 97) σ (sI (sI σ 31 0 0) 97 9 0) := (eq9.aI (fun z => z.1 rfl)).tr (eq9.aI (fun z => z.2 rfl))
  have J0 : J9 (sI (sI σ 31 0 0) 97 9 0) := by
    have E := E0
    have F : ∀ i, i ≠ 9 → gI (sI (sI σ 31 0 0) 97 9 0) 97 i = gI σ 97 i := fun i hi => by rw [s97 hi, gI_aI_ne (by decide)]
    exact J.mk (J.1.1.mv (E.mono (fun k hk => by omega)) (fun i hi => F i (by omega))) (inp0 (by rw [gI_aI_ne (by decide), gI_aI_eq, up9_eq]) (by rw [gI_aI_eq, up9_eq])) (J.1.2.2.1.mv (E.mono (fun k hk => by omega)) (F 12 (by decide))) (E.mono (fun k hk => by omega)) (fun i a b => F i (by omega))
  refine c_X9_compareWithInput v cC iC iv (fun z => ?_) (fun z => ?_)
  · refine c_X10_compareWithInput v c1 i1 iv (fun y τ e f => ⟨?_, ?_⟩) (fun y => absurd z y)
    · rw [gI_aI_ne (by decide), gI_aI_ne (by decide), gI_aI_ne (by decide)]
      exact hc _ _ v.2.2.2.2.2.1 (isT_ok z iv.1.1).1
    · have E : eq9 (fun k => k ≠ 31 ∧ k ≠ 97 ∧ k ≠ 118 ∧ k ≠ 119) σ τ := (eq9.aI (fun z => z.1 rfl)).tr (e.mono (fun k hk => hk.2))
      have F : ∀ i, i ≠ 9 → gI τ 97 i = gI σ 97 i := fun i hi => by rw [f, up9_ne hi, gI_aI_ne (by decide)]
      exact J.mk (J.1.1.mv (E.mono (fun k hk => by omega)) (fun i hi => F i (by omega))) (inp0 (by rw [(e 31 (by decide)).1, gI_aI_eq, up9_eq]) (by rw [f, up9_eq])) (J.1.2.2.1.mv (E.mono (fun k hk => by omega)) (F 12 (by decide))) (E.mono (fun k hk => by omega)) (fun i a b => F i (by omega))
  · exact c_X10_compareWithInput v c1 i1 iv (fun y => absurd y z) (fun y => ⟨rfl, J0⟩)
theorem pr_setString {σ : S9} (J : J9 σ) : Cc 8 mX9_setString [.ref 0] σ (QI (fun u1 σ1 => Cc 8 mX10_setString [.ref 97] σ1 (QI (fun u2 σ2 => u2 = u1 ∧ J9 σ2)))) := by
  obtain ⟨⟨⟨n, R, lf, rg, wt, lev, stt, ap, str, v, cC, cM⟩, ⟨kc, kf, iv, iC, iM⟩, ⟨lc, l1, l2, lv, lC, lM⟩, hS, hP⟩, hz⟩ := id J
  have hn := v.1
  have hR := v.2.1
  have J0 : J9 (sI (sI σ 31 0 0) 97 9 0) := by
    have E : eq9 (fun k => k ≠ 31 ∧ k ≠ 97) σ (sI (sI σ 31 0 0) 97 9 0) := (eq9.aI (fun z => z.1 rfl)).tr (eq9.aI (fun z => z.2 rfl))
    have F : ∀ i, i ≠ 9 → gI (sI (sI σ 31 0 0) 97 9 0) 97 i = gI σ 97 i := fun i hi => by rw [s97 hi, gI_aI_ne (by decide)]
    exact J.mk (J.1.1.mv (E.mono (fun k hk => by omega)) (fun i hi => F i (by omega))) (inp0 (by rw [gI_aI_ne (by decide), gI_aI_eq, up9_eq]) (by rw [gI_aI_eq, up9_eq])) (J.1.2.2.1.mv (E.mono (fun k hk => by omega)) (F 12 (by decide))) (E.mono (fun k hk => by omega)) (fun i a b => F i (by omega))
  refine c_X9_setString v cC iC iv (fun z => ?_) (fun z => ?_)
  · obtain ⟨σ1, e1⟩ : ∃ σ1, sL (sI σ 31 0 0) 1 9 (encW (seg9 kf 0 kc.toNat)) = σ1 := ⟨_, rfl⟩
    rw [e1]
    have E1 : eq9 (fun k => k ≠ 31 ∧ k ≠ 1) σ σ1 := by rw [← e1]; exact (eq9.aI (fun z => z.1 rfl)).tr (eq9.aL (fun z => z.2 rfl))
    have h97 : gI σ1 97 = gI σ 97 := (E1 97 (by decide)).1
    have g1 : gI σ1 1 = gI σ 1 := by
      rw [← e1]
      show gI (sI σ 31 0 0) 1 = gI σ 1
      exact gI_aI_ne (by decide)
    have g1L : gL σ1 1 9 = encW (seg9 kf 0 kc.toNat) := by rw [← e1, gL_aL_eq, up9_eq]
    have g31 : gI σ1 31 0 = 0 := by
      rw [← e1]
      show gI (sI σ 31 0 0) 31 0 = 0
      rw [gI_aI_eq, up9_eq]
    have hk0 := iv.1
    refine c_X10_setString v (cM.eq (E1.mono (fun k hk => by omega))) (iM.eq (E1.mono (fun k hk => by omega))) iv (fun y τ e f ft => ⟨by rw [seg9_len]; omega, ?_⟩) (fun y => absurd z y)
    have E : eq9 (fun k => k ≠ 31 ∧ k ≠ 1 ∧ k ≠ 97 ∧ k ≠ 104) σ τ := (E1.mono (fun k hk => ⟨hk.1, hk.2.1⟩)).tr (e.mono (fun k hk => hk.2.2))
    have F : ∀ i, i ≠ 9 ∧ i ≠ 11 → gI τ 97 i = gI σ 97 i := fun i hi => by rw [f, up9_ne hi.2, up9_ne hi.1, h97]
    have t1 : gI τ 1 = gI σ 1 := (e 1 (by decide)).1.trans g1
    have hSy : Sys τ := by
      refine ⟨n, R, lf, rg, wt, lev, stt, ap, seg9 kf 0 kc.toNat, v.rep v.2.2.2.1 v.2.2.2.2.1 (isT_ok z iv.1.1), cC.rep hR.2 (E.mono (fun k hk => by omega)) ?_ ?_ ?_ ?_ (fun i a b => ?_), cM.rep (E.mono (fun k hk => by omega)) ?_ ?_ ?_ ?_ (fun i a b => ?_) (fun k a b => ?_)⟩
      · rw [t1]; exact cC.1
      · rw [t1]; exact cC.2.1
      · rw [t1]; exact cC.2.2.1
      · rw [(e 1 (by decide)).2.1]; exact g1L
      · rw [(E 13 (by decide)).1, (E 14 (by decide)).1, (E 15 (by decide)).2.2.1]; exact cC.2.2.2.2.2 i a b
      · rw [F 0 (by decide)]; exact cM.1
      · rw [F 1 (by decide)]; exact cM.2.1
      · rw [F 6 (by decide)]; exact cM.2.2.1
      · rw [f, up9_eq, seg9_len]; omega
      · rw [(E 100 (by decide)).1, (E 101 (by decide)).1, (E 102 (by decide)).2.2.1]; exact cM.2.2.2.2.2.1 i a b
      · rw [seg9_len] at b
        rw [ft k a (by omega), at_seg (by omega), Int.zero_add]
    exact J.mk hSy (inp0 (by rw [(e 31 (by decide)).1]; exact g31) (by rw [f, up9_ne (by decide), up9_eq])) (J.1.2.2.1.mv (E.mono (fun k hk => by omega)) (F 12 (by decide))) (E.mono (fun k hk => by omega)) (fun i a b => F i (by omega))
  · exact c_X10_setString v (cM.eq (σ' := sI σ 31 0 0) (eq9.aI (by decide))) (iM.eq (eq9.aI (by decide))) iv (fun y => absurd y z) (fun y => ⟨rfl, J0⟩)
theorem pr_rewrite {σ : S9} (J : J9 σ) {r p : Int} (hr : (-2147483648 ≤ r ∧ r < 2147483648)) (hp : (-2147483648 ≤ p ∧ p < 2147483648)) : Cc 8 mX9_rewrite [.ref 0, .int (iI r), .int (iI p)] σ (QI (fun u1 σ1 => Cc 8 mX10_rewrite [.ref 97, .int (iI r), .int (iI p)] σ1 (QI (fun u2 σ2 => u2 = u1 ∧ J9 σ2)))) := by
  obtain ⟨⟨⟨n, R, lf, rg, wt, lev, stt, ap, str, v, cC, cM⟩, ⟨kc, kf, iv, iC, iM⟩, ⟨lc, l1, l2, lv, lC, lM⟩, hS, hP⟩, hz⟩ := id J
  have hn := v.1
  have hR := v.2.1
  have NS : ∀ ys : List Int, OkL n 12 ys → ∀ τ, eq9 (fun k => k ≠ 97 ∧ k ≠ 104) (sL σ 1 9 (encW ys)) τ → gI τ 97 = up9 (gI (sL σ 1 9 (encW ys)) 97) 11 ys.length → (∀ i : Int, 0 ≤ i → i < ys.length → gI τ 104 i = at9 ys i) → J9 τ := by
    intro ys oy τ e f ft
    have E : eq9 (fun k => k ≠ 1 ∧ k ≠ 97 ∧ k ≠ 104) σ τ := (eq9.aL (fun z => z.1 rfl)).tr (e.mono (fun k hk => hk.2))
    have F : ∀ i, i ≠ 11 → gI τ 97 i = gI σ 97 i := fun i hi => by rw [f, up9_ne hi]; rfl
    have c1 : SyMn (sL σ 1 9 (encW ys)) n R lf rg wt lev stt ap str := cM.eq (eq9.aL (by decide))
    have hSy : Sys τ := ⟨n, R, lf, rg, wt, lev, stt, ap, ys, v.nst oy, (cC.stg (w := ys)).eq hR.2 (e.mono (fun k hk => by omega)), c1.nst e f ft⟩
    exact J.mk hSy (J.1.2.1.mv (E.mono (fun k hk => by omega)) (F 9 (by decide))) (J.1.2.2.1.mv (E.mono (fun k hk => by omega)) (F 12 (by decide))) (E.mono (fun k hk => by omega)) (fun i a b => F i (by omega))
  refine c_X9_rewrite v cC hr hp (fun z => ?_) (fun z1 z2 => ?_) (fun z1 ys z2 => ?_)
  · exact c_X10_rewrite v cM hr hp (fun y => ⟨rfl, J⟩) (fun y1 y2 => absurd y1 z) (fun y1 => absurd y1 z)
  · exact c_X10_rewrite v cM hr hp (fun y => absurd z1 y) (fun y1 y2 => ⟨rfl, J⟩) (fun y1 ys y2 => by rw [z2] at y2; cases y2)
  · refine c_X10_rewrite v (cM.eq (σ' := sL σ 1 9 (encW ys)) (eq9.aL (by decide))) hr hp (fun y => absurd z1 y) (fun y1 y2 => by rw [z2] at y2; cases y2) (fun y1 zs y2 τ e f ft => ?_)
    rw [z2] at y2
    cases y2
    exact ⟨rfl, NS ys (stp9_ok v z1 v.2.2.2.2.2 z2) τ e f ft⟩
theorem pr_normalize {σ : S9} (J : J9 σ) {s : Int} (hs : (-2147483648 ≤ s ∧ s < 2147483648)) : Cc 8 mX9_normalize [.ref 0, .int (iI s)] σ (QI (fun u1 σ1 => Cc 8 mX10_normalize [.ref 97, .int (iI s)] σ1 (QI (fun u2 σ2 => u2 = u1 ∧ J9 σ2)))) := by
  obtain ⟨⟨⟨n, R, lf, rg, wt, lev, stt, ap, str, v, cC, cM⟩, ⟨kc, kf, iv, iC, iM⟩, ⟨lc, l1, l2, lv, lC, lM⟩, hS, hP⟩, hz⟩ := id J
  have hn := v.1
  have hR := v.2.1
  have NS : ∀ ys : List Int, OkL n 12 ys → ∀ τ, eq9 (fun k => k ≠ 97 ∧ k ≠ 104) (sL σ 1 9 (encW ys)) τ → gI τ 97 = up9 (gI (sL σ 1 9 (encW ys)) 97) 11 ys.length → (∀ i : Int, 0 ≤ i → i < ys.length → gI τ 104 i = at9 ys i) → J9 τ := by
    intro ys oy τ e f ft
    have E : eq9 (fun k => k ≠ 1 ∧ k ≠ 97 ∧ k ≠ 104) σ τ := (eq9.aL (fun z => z.1 rfl)).tr (e.mono (fun k hk => hk.2))
    have F : ∀ i, i ≠ 11 → gI τ 97 i = gI σ 97 i := fun i hi => by rw [f, up9_ne hi]; rfl
    have c1 : SyMn (sL σ 1 9 (encW ys)) n R lf rg wt lev stt ap str := cM.eq (eq9.aL (by decide))
    have hSy : Sys τ := ⟨n, R, lf, rg, wt, lev, stt, ap, ys, v.nst oy, (cC.stg (w := ys)).eq hR.2 (e.mono (fun k hk => by omega)), c1.nst e f ft⟩
    exact J.mk hSy (J.1.2.1.mv (E.mono (fun k hk => by omega)) (F 9 (by decide))) (J.1.2.2.1.mv (E.mono (fun k hk => by omega)) (F 12 (by decide))) (E.mono (fun k hk => by omega)) (fun i a b => F i (by omega))
  refine c_X9_normalize v cC hs (fun z => ?_) (fun z => ?_)
  · exact c_X10_normalize v cM hs (fun y => ⟨rfl, J⟩) (fun y => absurd y z)
  · refine c_X10_normalize v (cM.eq (σ' := sL σ 1 9 (encW (nrm9 lf rg R s.toNat str).1)) (eq9.aL (by decide))) hs (fun y => absurd z y) (fun y ys τ ey e f ft => ⟨rfl, ?_⟩)
    subst ey
    exact NS _ (nrm9_ok v _ v.2.2.2.2.2) τ e f ft
theorem pr_improve {σ : S9} (J : J9 σ) {k : Int} (hk : (-2147483648 ≤ k ∧ k < 2147483648)) : Cc 8 mX9_improve [.ref 0, .int (iI k)] σ (QI (fun u1 σ1 => Cc 8 mX10_improve [.ref 97, .int (iI k)] σ1 (QI (fun u2 σ2 => u2 = u1 ∧ J9 σ2)))) := by
  obtain ⟨⟨⟨n, R, lf, rg, wt, lev, stt, ap, str, v, cC, cM⟩, ⟨kc, kf, iv, iC, iM⟩, ⟨lc, l1, l2, lv, lC, lM⟩, hS, hP⟩, hz⟩ := id J
  have hn := v.1
  have hR := v.2.1
  have hw : ∀ x, 0 ≤ x → x < n → gI σ 13 x = gI σ 100 x := fun x a b => (cC.2.2.2.2.2 x a (by omega)).1.trans (cM.w9 ⟨a, by omega⟩).symm
  have hv : ∀ x, 0 ≤ x → x < n → gI σ 14 x = gI σ 101 x := fun x a b => (cC.2.2.2.2.2 x a (by omega)).2.1.trans (cM.v9 ⟨a, by omega⟩).symm
  have ha : ∀ x, 0 ≤ x → x < n → gF σ 15 x = gF σ 102 x := fun x a b => (cC.2.2.2.2.2 x a (by omega)).2.2.trans (cM.a9 ⟨a, by omega⟩).symm
  have WL : ∀ (wt' lev' : Int → Int) (stt' : Int) (ap' : Int → UInt32) (τ : S9), (∀ x, 0 ≤ x → x < 8 → (0 ≤ wt' x ∧ wt' x ≤ 99) ∧ (0 ≤ lev' x ∧ lev' x ≤ 9) ∧ apOK (ap' x)) → (0 ≤ stt' ∧ stt' ≤ 1) → eq9 (fun k => (k < 36 ∨ k = 66 ∨ (80 < k ∧ k < 97) ∨ (97 < k ∧ k < 118)) ∧ k ≠ 1 ∧ k ≠ 13 ∧ k ≠ 14 ∧ k ≠ 15 ∧ k ≠ 100 ∧ k ≠ 101 ∧ k ≠ 102) σ τ → gI τ 1 = up9 (gI σ 1) 7 stt' → gL τ 1 = gL σ 1 → (∀ i, i ≠ 6 → gI τ 97 i = gI σ 97 i) → gI τ 97 6 = stt' → (∀ x, 0 ≤ x → x < 8 → gI τ 13 x = wt' x ∧ gI τ 14 x = lev' x ∧ gF τ 15 x = ap' x) → (∀ x, 0 ≤ x → x < 6 → gI τ 100 x = wt' x ∧ gI τ 101 x = lev' x ∧ gF τ 102 x = ap' x) → J9 τ := by
    intro wt' lev' stt' ap' τ hr hs E g1 g1L F f6 hc hm
    have hSy : Sys τ := by
      refine ⟨n, R, lf, rg, wt', lev', stt', ap', str, v.rep hr hs v.2.2.2.2.2, cC.rep hR.2 (E.mono (fun k hk => by omega)) ?_ ?_ ?_ ?_ hc, cM.rep (E.mono (fun k hk => by omega)) ?_ ?_ f6 ?_ hm (fun k a b => ?_)⟩
      · rw [g1, up9_ne (by decide)]; exact cC.1
      · rw [g1, up9_ne (by decide)]; exact cC.2.1
      · rw [g1, up9_eq]
      · rw [g1L]; exact cC.2.2.2.1
      · rw [F 0 (by decide)]; exact cM.1
      · rw [F 1 (by decide)]; exact cM.2.1
      · rw [F 11 (by decide)]; exact cM.2.2.2.1
      · rw [(E 104 (by decide)).1]; exact cM.tt k a b
    exact J.mk hSy (J.1.2.1.mv (E.mono (fun k hk => by omega)) (F 9 (by decide))) (J.1.2.2.1.mv (E.mono (fun k hk => by omega)) (F 12 (by decide))) (E.mono (fun k hk => by omega)) (fun i a b => F i (by omega))
  have u1 : gI σ 1 = up9 (gI σ 1) 7 stt := by
    funext i
    by_cases q : i = 7
    · rw [q, up9_eq]; exact cC.2.2.1
    · rw [up9_ne q]
  refine c_X9_improve v cC hk (fun z => ?_) (fun z => ?_)
  · exact c_X10_improve v cM hk (fun y => ⟨rfl, J⟩) (fun y => absurd y z)
  have c1 : SyMn (aF σ 15 (imN (bl9 lf rg) n R (gF σ 15) k.toNat)) n R lf rg wt lev stt ap str := cM.eq (eq9.aF (by decide))
  refine c_X10_improve v c1 hk (fun y => absurd z y) (fun y => ?_)
  rw [gF_aF_ne (show 102 ≠ 15 by decide)]
  have hbb : ∀ s x : Int, 0 ≤ s → s < R → -6 ≤ bl9 lf rg s x ∧ bl9 lf rg s x ≤ 6 := fun s x a b => v.bal ⟨a, b⟩ x
  have hI : ∀ x, 0 ≤ x → x < n → imN (bl9 lf rg) n R (gF σ 102) k.toNat x = imN (bl9 lf rg) n R (gF σ 15) k.toNat x := imN_congr (fun x a b => (ha x a b).symm) (fun s x _ _ _ _ => rfl) k.toNat
  refine ⟨wide9_congr hI R.toNat (fun s x _ _ _ _ => rfl), ?_⟩
  refine WL wt lev stt (imN (bl9 lf rg) n R (gF σ 15) k.toNat) _ (fun x a b => ⟨(v.2.2.2.1 x a b).1, (v.2.2.2.1 x a b).2.1, imN_ok (cC.apk v) (by omega) hbb k.toNat x a b⟩) v.2.2.2.2.1 ((eq9.aF (fun z => z.2.2.2.2.1 rfl)).tr (eq9.aF (fun z => z.2.2.2.2.2.2.2 rfl))) u1 rfl (fun i _ => rfl) cM.2.2.1 (fun x a b => ⟨(cC.2.2.2.2.2 x a b).1, (cC.2.2.2.2.2 x a b).2.1, ?_⟩) (fun x a b => ⟨cM.w9 ⟨a, b⟩, cM.v9 ⟨a, b⟩, ?_⟩)
  · rw [gF_aF_ne (by decide), gF_aF_eq]
  · rw [gF_aF_eq]
    by_cases q : x < n
    · exact hI x a q
    · rw [imN_out _ _ (by omega), imN_out _ _ (by omega), cM.a9 ⟨a, b⟩]
      exact (cC.2.2.2.2.2 x a (by omega)).2.2.symm
theorem pr_setApproximateWeight {σ : S9} (J : J9 σ) {x a b : Int} (hx : (-2147483648 ≤ x ∧ x < 2147483648)) (ha9 : (-2147483648 ≤ a ∧ a < 2147483648)) (hb : (-2147483648 ≤ b ∧ b < 2147483648)) : Cc 8 mX9_setApproximateWeight [.ref 0, .int (iI x), .int (iI a), .int (iI b)] σ (QI (fun u1 σ1 => Cc 8 mX10_setApproximateWeight [.ref 97, .int (iI x), .int (iI a), .int (iI b)] σ1 (QI (fun u2 σ2 => u2 = u1 ∧ J9 σ2)))) := by
  obtain ⟨⟨⟨n, R, lf, rg, wt, lev, stt, ap, str, v, cC, cM⟩, ⟨kc, kf, iv, iC, iM⟩, ⟨lc, l1, l2, lv, lC, lM⟩, hS, hP⟩, hz⟩ := id J
  have hn := v.1
  have hR := v.2.1
  have hw : ∀ x, 0 ≤ x → x < n → gI σ 13 x = gI σ 100 x := fun x a b => (cC.2.2.2.2.2 x a (by omega)).1.trans (cM.w9 ⟨a, by omega⟩).symm
  have hv : ∀ x, 0 ≤ x → x < n → gI σ 14 x = gI σ 101 x := fun x a b => (cC.2.2.2.2.2 x a (by omega)).2.1.trans (cM.v9 ⟨a, by omega⟩).symm
  have ha : ∀ x, 0 ≤ x → x < n → gF σ 15 x = gF σ 102 x := fun x a b => (cC.2.2.2.2.2 x a (by omega)).2.2.trans (cM.a9 ⟨a, by omega⟩).symm
  have WL : ∀ (wt' lev' : Int → Int) (stt' : Int) (ap' : Int → UInt32) (τ : S9), (∀ x, 0 ≤ x → x < 8 → (0 ≤ wt' x ∧ wt' x ≤ 99) ∧ (0 ≤ lev' x ∧ lev' x ≤ 9) ∧ apOK (ap' x)) → (0 ≤ stt' ∧ stt' ≤ 1) → eq9 (fun k => (k < 36 ∨ k = 66 ∨ (80 < k ∧ k < 97) ∨ (97 < k ∧ k < 118)) ∧ k ≠ 1 ∧ k ≠ 13 ∧ k ≠ 14 ∧ k ≠ 15 ∧ k ≠ 100 ∧ k ≠ 101 ∧ k ≠ 102) σ τ → gI τ 1 = up9 (gI σ 1) 7 stt' → gL τ 1 = gL σ 1 → (∀ i, i ≠ 6 → gI τ 97 i = gI σ 97 i) → gI τ 97 6 = stt' → (∀ x, 0 ≤ x → x < 8 → gI τ 13 x = wt' x ∧ gI τ 14 x = lev' x ∧ gF τ 15 x = ap' x) → (∀ x, 0 ≤ x → x < 6 → gI τ 100 x = wt' x ∧ gI τ 101 x = lev' x ∧ gF τ 102 x = ap' x) → J9 τ := by
    intro wt' lev' stt' ap' τ hr hs E g1 g1L F f6 hc hm
    have hSy : Sys τ := by
      refine ⟨n, R, lf, rg, wt', lev', stt', ap', str, v.rep hr hs v.2.2.2.2.2, cC.rep hR.2 (E.mono (fun k hk => by omega)) ?_ ?_ ?_ ?_ hc, cM.rep (E.mono (fun k hk => by omega)) ?_ ?_ f6 ?_ hm (fun k a b => ?_)⟩
      · rw [g1, up9_ne (by decide)]; exact cC.1
      · rw [g1, up9_ne (by decide)]; exact cC.2.1
      · rw [g1, up9_eq]
      · rw [g1L]; exact cC.2.2.2.1
      · rw [F 0 (by decide)]; exact cM.1
      · rw [F 1 (by decide)]; exact cM.2.1
      · rw [F 11 (by decide)]; exact cM.2.2.2.1
      · rw [(E 104 (by decide)).1]; exact cM.tt k a b
    exact J.mk hSy (J.1.2.1.mv (E.mono (fun k hk => by omega)) (F 9 (by decide))) (J.1.2.2.1.mv (E.mono (fun k hk => by omega)) (F 12 (by decide))) (E.mono (fun k hk => by omega)) (fun i a b => F i (by omega))
  have u1 : gI σ 1 = up9 (gI σ 1) 7 stt := by
    funext i
    by_cases q : i = 7
    · rw [q, up9_eq]; exact cC.2.2.1
    · rw [up9_ne q]
  refine c_X9_setApproximateWeight v cC hx ha9 hb (fun z => ?_) (fun z1 z2 => ?_) (fun z1 z2 => ?_)
  · exact c_X10_setApproximateWeight v cM hx ha9 hb (fun q => ⟨rfl, J⟩) (fun q1 q2 => absurd q1 z) (fun q1 q2 => absurd q1 z)
  · exact c_X10_setApproximateWeight v cM hx ha9 hb (fun q => absurd z1 q) (fun q1 q2 => ⟨rfl, J⟩) (fun q1 q2 => absurd q2 z2)
  obtain ⟨w, ew⟩ : ∃ w, FP.fdiv (FP.i2f (iI a)) (FP.i2f (iI b)) = w := ⟨_, rfl⟩
  have hq := quo9 z2.1 z2.2
  rw [ew] at hq ⊢
  have c1 : SyMn (sF σ 15 x w) n R lf rg wt lev stt ap str := cM.eq (eq9.aF (by decide))
  refine c_X10_setApproximateWeight v c1 hx ha9 hb (fun q => absurd z1 q) (fun q1 q2 => absurd z2 q2) (fun q1 q2 => ?_)
  rw [ew, gF_aF_ne (show 102 ≠ 15 by decide), ← ha x z1.1 z1.2]
  refine ⟨rfl, WL wt lev stt (up9 ap x w) _ (fun i c d => ⟨(v.2.2.2.1 i c d).1, (v.2.2.2.1 i c d).2.1, ?_⟩) v.2.2.2.2.1 ((eq9.aF (fun z => z.2.2.2.2.1 rfl)).tr (eq9.aF (fun z => z.2.2.2.2.2.2.2 rfl))) u1 rfl (fun i _ => rfl) cM.2.2.1 (fun i c d => ⟨(cC.2.2.2.2.2 i c d).1, (cC.2.2.2.2.2 i c d).2.1, ?_⟩) (fun i c d => ⟨cM.w9 ⟨c, d⟩, cM.v9 ⟨c, d⟩, ?_⟩)⟩
  · by_cases q : i = x
    · rw [q, up9_eq]; exact hq
    · rw [up9_ne q]; exact (v.2.2.2.1 i c d).2.2
  · rw [gF_aF_ne (by decide), gF_aF_eq]
    by_cases q : i = x
    · rw [q, up9_eq, up9_eq]
    · rw [up9_ne q, up9_ne q]; exact (cC.2.2.2.2.2 i c d).2.2
  · rw [gF_aF_eq, gF_aF_ne (by decide)]
    by_cases q : i = x
    · rw [q, up9_eq, up9_eq]
    · rw [up9_ne q, up9_ne q]; exact cM.a9 ⟨c, d⟩
theorem pr_roundWeights {σ : S9} (J : J9 σ) {k : Int} (hk : (-2147483648 ≤ k ∧ k < 2147483648)) : Cc 8 mX9_roundWeights [.ref 0, .int (iI k)] σ (QI (fun u1 σ1 => Cc 8 mX10_roundWeights [.ref 97, .int (iI k)] σ1 (QI (fun u2 σ2 => u2 = u1 ∧ J9 σ2)))) := by
  obtain ⟨⟨⟨n, R, lf, rg, wt, lev, stt, ap, str, v, cC, cM⟩, ⟨kc, kf, iv, iC, iM⟩, ⟨lc, l1, l2, lv, lC, lM⟩, hS, hP⟩, hz⟩ := id J
  have hn := v.1
  have hR := v.2.1
  have hw : ∀ x, 0 ≤ x → x < n → gI σ 13 x = gI σ 100 x := fun x a b => (cC.2.2.2.2.2 x a (by omega)).1.trans (cM.w9 ⟨a, by omega⟩).symm
  have hv : ∀ x, 0 ≤ x → x < n → gI σ 14 x = gI σ 101 x := fun x a b => (cC.2.2.2.2.2 x a (by omega)).2.1.trans (cM.v9 ⟨a, by omega⟩).symm
  have ha : ∀ x, 0 ≤ x → x < n → gF σ 15 x = gF σ 102 x := fun x a b => (cC.2.2.2.2.2 x a (by omega)).2.2.trans (cM.a9 ⟨a, by omega⟩).symm
  have WL : ∀ (wt' lev' : Int → Int) (stt' : Int) (ap' : Int → UInt32) (τ : S9), (∀ x, 0 ≤ x → x < 8 → (0 ≤ wt' x ∧ wt' x ≤ 99) ∧ (0 ≤ lev' x ∧ lev' x ≤ 9) ∧ apOK (ap' x)) → (0 ≤ stt' ∧ stt' ≤ 1) → eq9 (fun k => (k < 36 ∨ k = 66 ∨ (80 < k ∧ k < 97) ∨ (97 < k ∧ k < 118)) ∧ k ≠ 1 ∧ k ≠ 13 ∧ k ≠ 14 ∧ k ≠ 15 ∧ k ≠ 100 ∧ k ≠ 101 ∧ k ≠ 102) σ τ → gI τ 1 = up9 (gI σ 1) 7 stt' → gL τ 1 = gL σ 1 → (∀ i, i ≠ 6 → gI τ 97 i = gI σ 97 i) → gI τ 97 6 = stt' → (∀ x, 0 ≤ x → x < 8 → gI τ 13 x = wt' x ∧ gI τ 14 x = lev' x ∧ gF τ 15 x = ap' x) → (∀ x, 0 ≤ x → x < 6 → gI τ 100 x = wt' x ∧ gI τ 101 x = lev' x ∧ gF τ 102 x = ap' x) → J9 τ := by
    intro wt' lev' stt' ap' τ hr hs E g1 g1L F f6 hc hm
    have hSy : Sys τ := by
      refine ⟨n, R, lf, rg, wt', lev', stt', ap', str, v.rep hr hs v.2.2.2.2.2, cC.rep hR.2 (E.mono (fun k hk => by omega)) ?_ ?_ ?_ ?_ hc, cM.rep (E.mono (fun k hk => by omega)) ?_ ?_ f6 ?_ hm (fun k a b => ?_)⟩
      · rw [g1, up9_ne (by decide)]; exact cC.1
      · rw [g1, up9_ne (by decide)]; exact cC.2.1
      · rw [g1, up9_eq]
      · rw [g1L]; exact cC.2.2.2.1
      · rw [F 0 (by decide)]; exact cM.1
      · rw [F 1 (by decide)]; exact cM.2.1
      · rw [F 11 (by decide)]; exact cM.2.2.2.1
      · rw [(E 104 (by decide)).1]; exact cM.tt k a b
    exact J.mk hSy (J.1.2.1.mv (E.mono (fun k hk => by omega)) (F 9 (by decide))) (J.1.2.2.1.mv (E.mono (fun k hk => by omega)) (F 12 (by decide))) (E.mono (fun k hk => by omega)) (fun i a b => F i (by omega))
  have u1 : gI σ 1 = up9 (gI σ 1) 7 stt := by
    funext i
    by_cases q : i = 7
    · rw [q, up9_eq]; exact cC.2.2.1
    · rw [up9_ne q]
  refine c_X9_roundWeights v cC hk (fun x a b => hnn9 (cC.apk v x a (by omega))) (fun z => ?_) (fun z => ?_)
  · exact c_X10_roundWeights v cM hk (fun y => ⟨rfl, J⟩) (fun y => absurd y z)
  have c1 : SyMn (aI σ 13 (rwA k n (gF σ 15) (gI σ 13))) n R lf rg wt lev stt ap str := cM.eq (eq9.aI (by decide))
  refine c_X10_roundWeights v c1 hk (fun y => absurd z y) (fun y => ?_)
  rw [gI_aI_ne (show 100 ≠ 13 by decide), gF_aI]
  have hI : ∀ x, 0 ≤ x → x < n → rwA k n (gF σ 102) (gI σ 100) x = rwA k n (gF σ 15) (gI σ 13) x := fun x a b => by
    unfold rwA
    rw [if_pos ⟨a, b⟩, if_pos ⟨a, b⟩, ha x a b]
  refine ⟨dec9_congr hI v R.toNat (by omega), ?_⟩
  refine WL (rwA k n (gF σ 15) (gI σ 13)) lev stt ap _ (fun x a b => ⟨?_, (v.2.2.2.1 x a b).2⟩) v.2.2.2.2.1 ((eq9.aI (fun z => z.2.2.1 rfl)).tr (eq9.aI (fun z => z.2.2.2.2.2.1 rfl))) ?_ rfl (fun i _ => ?_) ?_ (fun x a b => ⟨?_, ?_, (cC.2.2.2.2.2 x a b).2.2⟩) (fun x a b => ⟨?_, ?_, cM.a9 ⟨a, b⟩⟩)
  · show 0 ≤ rwA k n (gF σ 15) (gI σ 13) x ∧ rwA k n (gF σ 15) (gI σ 13) x ≤ 99
    unfold rwA
    by_cases q : 0 ≤ x ∧ x < n
    · rw [if_pos q]; exact (hnn9 (cC.apk v x a b) k z.1 z.2).2.2.2
    · rw [if_neg q]; exact cC.w v x a b
  · rw [gI_aI_ne (by decide), gI_aI_ne (by decide)]; exact u1
  · rw [gI_aI_ne (by decide), gI_aI_ne (by decide)]
  · rw [gI_aI_ne (by decide), gI_aI_ne (by decide)]; exact cM.2.2.1
  · rw [gI_aI_ne (by decide), gI_aI_eq]
  · rw [gI_aI_ne (by decide), gI_aI_ne (by decide)]; exact (cC.2.2.2.2.2 x a b).2.1
  · rw [gI_aI_eq]
    by_cases q : x < n
    · exact hI x a q
    · unfold rwA
      rw [if_neg (by omega), if_neg (by omega), cM.w9 ⟨a, b⟩]
      exact (cC.2.2.2.2.2 x a (by omega)).1.symm
  · rw [gI_aI_ne (by decide), gI_aI_ne (by decide)]; exact cM.v9 ⟨a, b⟩
