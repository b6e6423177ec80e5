theorem pr_addRule {σ : S9} (J : J9 σ) : Cc 8 mX9_addRule [.ref 0] σ (QI (fun u1 σ1 => Cc 8 mX10_addRule [.ref 97] σ1 (QI (fun u2 σ2 => u2 = u1 ∧ J9 σ2)))) := by
  obtain ⟨⟨⟨n, R, lf, rg, wt, lev, stt, ap, str, v, cC, cM⟩, ⟨kc, kf, iv, iC, iM⟩, ⟨lc, l1, l2, lv, lC, lM⟩, hS, hP⟩, hz⟩ := id J
  have hn := v.1
  have hR := v.2.1
  have J0 : J9 (sI (sI σ 31 0 0) 97 9 0) := by
    have E : eq9 (fun k => k ≠ 31 ∧ k ≠ 97) σ (sI (sI σ 31 0 0) 97 9 0) := (eq9.aI (fun z => z.1 rfl)).tr (eq9.aI (fun z => z.2 rfl))
    have F : ∀ i, i ≠ 9 → gI (sI (sI σ 31 0 0) 97 9 0) 97 i = gI σ 97 i := fun i hi => by rw [s97 hi, gI_aI_ne (by decide)]
    exact J.mk (J.1.1.mv (E.mono (fun k hk => by omega)) (fun i hi => F i (by omega))) (inp0 (by rw [gI_aI_ne (by decide), gI_aI_eq, up9_eq]) (by rw [gI_aI_eq, up9_eq])) (J.1.2.2.1.mv (E.mono (fun k hk => by omega)) (F 12 (by decide))) (E.mono (fun k hk => by omega)) (fun i a b => F i (by omega))
  have c1 : SyMn (sI σ 31 0 0) n R lf rg wt lev stt ap str := cM.eq (eq9.aI (by decide))
  have i1 : InM (sI σ 31 0 0) kc kf := iM.eq (eq9.aI (by decide))
  refine c_X9_addRule v cC iC iv (fun z => ?_) (fun z1 z2 => ?_) (fun z1 a za σ1 s1 e1 g31 => ?_)
  · exact c_X10_addRule v c1 i1 iv (fun y => ⟨rfl, J0⟩) (fun y1 => by omega) (fun y1 => by omega)
  · exact c_X10_addRule v c1 i1 iv (fun y => by omega) (fun y1 y2 => ⟨rfl, J0⟩) (fun y1 a ya => absurd ya (z2 a))
  · have h97 : gI σ1 97 = gI σ 97 := (e1 97 (by decide)).1
    refine c_X10_addRule v (cM.eq (e1.mono (fun k hk => by omega))) (iM.eq (e1.mono (fun k hk => by omega))) iv (fun y => by omega) (fun y1 y2 => absurd za (y2 a)) (fun y1 a2 ya τ e f f98 fl fr fo => ⟨rfl, ?_⟩)
    have ea := isR_uniq ya za
    subst ea
    obtain ⟨a1, a2', a3, a4, a5, a6, a7⟩ := id ya
    have E : eq9 (fun k => ¬ (1 ≤ k ∧ k ≤ 15) ∧ k ≠ 31 ∧ k ≠ 97 ∧ k ≠ 98 ∧ k ≠ 99) σ τ := (e1.mono (fun k hk => ⟨hk.1, hk.2.1⟩)).tr (e.mono (fun k hk => hk.2.2))
    have F : ∀ i, i ≠ 9 ∧ i ≠ 1 → gI τ 97 i = gI σ 97 i := fun i hi => by rw [f, up9_ne hi.2, up9_ne hi.1, h97]
    have h98 : gI σ1 98 = gI σ 98 := (e1 98 (by decide)).1
    have h99 : gI σ1 99 = gI σ 99 := (e1 99 (by decide)).1
    have hSy : Sys τ := by
      refine ⟨n, R + 1, up9 lf R (seg9 kf 0 a2.toNat), up9 rg R (seg9 kf (a2 + 1) (kc - a2 - 1).toNat), wt, lev, stt, ap, str, ⟨hn, by omega, fun r r0 r1 => ?_, v.2.2.2.1, v.2.2.2.2.1, v.2.2.2.2.2⟩, s1.eq (by omega) (e.mono (fun k hk => by omega)), ?_⟩
      · by_cases q : r = R
        · rw [q, up9_eq, up9_eq]
          exact ⟨seg_ok (by omega) (fun j x y => a6 j (by omega) (by omega)), by rw [seg9_len]; omega, seg_ok (by omega) (fun j x y => a7 j (by omega) (by omega))⟩
        · rw [up9_ne q, up9_ne q]; exact v.2.2.1 r r0 (by omega)
      · refine ⟨?_, ?_, ?_, ?_, fun r r0 r1 => ?_, fun x a b => ?_, fun k a b => ?_⟩
        · rw [F 0 (by decide)]; exact cM.1
        · rw [f, up9_eq]
        · rw [F 6 (by decide)]; exact cM.2.2.1
        · rw [F 11 (by decide)]; exact cM.2.2.2.1
        · by_cases q : r = R
          · subst q
            rw [up9_eq, up9_eq, seg9_len, seg9_len]
            refine ⟨?_, ?_, fun k a b => ?_, fun k a b => ?_⟩
            · rw [f98, up9_ne (by omega), up9_eq]; omega
            · rw [f98, up9_eq]; omega
            · rw [fl k (by omega) (by omega), at_seg (by omega), Int.zero_add]
            · rw [fr k (by omega) (by omega), at_seg (by omega)]
          · rw [up9_ne q, up9_ne q, f98, up9_ne (by omega), up9_ne (by omega), up9_ne (by omega), up9_ne (by omega), h98]
            obtain ⟨b1, b2, b3, b4⟩ := cM.2.2.2.2.1 r r0 (by omega)
            have hl := (v.2.2.1 r r0 (by omega)).1.2
            have hr := (v.2.2.1 r r0 (by omega)).2.2.2
            refine ⟨b1, b2, fun k a b => ?_, fun k a b => ?_⟩
            · rw [fo _ (by omega), h99]; exact b3 k a b
            · rw [fo _ (by omega), h99]; exact b4 k a b
        · rw [(E 100 (by decide)).1, (E 101 (by decide)).1, (E 102 (by decide)).2.2.1]; exact cM.2.2.2.2.2.1 x a b
        · rw [(E 104 (by decide)).1]; exact cM.2.2.2.2.2.2 k a b
    exact J.mk hSy (inp0 (by rw [(e 31 (by decide)).1, g31, up9_eq]) (by rw [f, up9_ne (by decide), up9_eq])) (J.1.2.2.1.mv (E.mono (fun k hk => by omega)) (F 12 (by decide))) (E.mono (fun k hk => by omega)) (fun i a b => F i (by omega))
theorem pr_removeRule {σ : S9} (J : J9 σ) {r : Int} (hr : (-2147483648 ≤ r ∧ r < 2147483648)) : Cc 8 mX9_removeRule [.ref 0, .int (iI r)] σ (QI (fun u1 σ1 => Cc 8 mX10_removeRule [.ref 97, .int (iI r)] σ1 (QI (fun u2 σ2 => u2 = u1 ∧ J9 σ2)))) := by
  obtain ⟨⟨⟨n, R, lf, rg, wt, lev, stt, ap, str, v, cC, cM⟩, ⟨kc, kf, iv, iC, iM⟩, ⟨lc, l1, l2, lv, lC, lM⟩, hS, hP⟩, hz⟩ := id J
  have hn := v.1
  have hR := v.2.1
  refine c_X9_removeRule v cC hr (fun z => ?_) (fun z σ1 s1 e1 g33 => ?_)
  · exact c_X10_removeRule v cM hr (fun y => ⟨rfl, J⟩) (fun y => absurd y z)
  · have h97 : gI σ1 97 = gI σ 97 := (e1 97 (by decide)).1
    have h98 : gI σ1 98 = gI σ 98 := (e1 98 (by decide)).1
    have h99 : gI σ1 99 = gI σ 99 := (e1 99 (by decide)).1
    refine c_X10_removeRule v (cM.eq (e1.mono (fun k hk => by omega))) hr (fun y => absurd z y) (fun y τ e f fr => ⟨rfl, ?_⟩)
    have E : eq9 (fun k => ¬ (1 ≤ k ∧ k ≤ 15) ∧ k ≠ 33 ∧ k ≠ 97 ∧ k ≠ 98 ∧ k ≠ 99) σ τ := (e1.mono (fun k hk => ⟨hk.1, hk.2.1⟩)).tr (e.mono (fun k hk => hk.2.2))
    have F : ∀ i, i ≠ 1 ∧ i ≠ 12 → gI τ 97 i = gI σ 97 i := fun i hi => by rw [f, up9_ne hi.2, up9_ne hi.1, h97]
    have hsh : ∀ j, 0 ≤ j → j < R - 1 → 0 ≤ shf9 r j ∧ shf9 r j < R := fun j a b => by unfold shf9; split <;> omega
    have hSy : Sys τ := by
      refine ⟨n, R - 1, fun j => lf (shf9 r j), fun j => rg (shf9 r j), wt, lev, stt, ap, str, ⟨hn, by omega, fun j j0 j1 => v.2.2.1 _ (hsh j j0 j1).1 (hsh j j0 j1).2, v.2.2.2.1, v.2.2.2.2.1, v.2.2.2.2.2⟩, s1.eq (by omega) (e.mono (fun k hk => by omega)), ?_⟩
      refine ⟨?_, ?_, ?_, ?_, fun j j0 j1 => ?_, fun x a b => ?_, fun k a b => ?_⟩
      · rw [F 0 (by decide)]; exact cM.1
      · rw [f, up9_ne (by decide), up9_eq]
      · rw [F 6 (by decide)]; exact cM.2.2.1
      · rw [F 11 (by decide)]; exact cM.2.2.2.1
      · have hs := hsh j j0 j1
        obtain ⟨b1, b2, b3, b4⟩ := cM.2.2.2.2.1 _ hs.1 hs.2
        obtain ⟨d1, d2, d3⟩ := fr j j0 j1
        have hl := (v.2.2.1 _ hs.1 hs.2).1.2
        have hr2 := (v.2.2.1 _ hs.1 hs.2).2.2.2
        rw [h98] at d1 d2
        rw [h99] at d3
        refine ⟨d1.trans b1, d2.trans b2, fun k a b => ?_, fun k a b => ?_⟩
        · have b' : k < (lf (shf9 r j)).length := b
          rw [d3 k (by omega) (by omega)]; exact b3 k a b
        · have b' : k < (rg (shf9 r j)).length := b
          have h5 := d3 (6 + (k : Int)) (by omega) (by omega)
          rw [show 12 * j + (6 + (k : Int)) = 12 * j + 6 + k by omega, show 12 * shf9 r j + (6 + (k : Int)) = 12 * shf9 r j + 6 + k by omega] at h5
          rw [h5]; exact b4 k a b
      · rw [(E 100 (by decide)).1, (E 101 (by decide)).1, (E 102 (by decide)).2.2.1]; exact cM.2.2.2.2.2.1 x a b
      · rw [(E 104 (by decide)).1]; exact cM.2.2.2.2.2.2 k a b
    exact J.mk hSy (J.1.2.1.mv (E.mono (fun k hk => by omega)) (F 9 (by decide))) (lop0 (by rw [(e 33 (by decide)).1]; exact g33) (by rw [f, up9_eq])) (E.mono (fun k hk => by omega)) (fun i a b => F i (by omega))
theorem pr_snapshot {σ : S9} (J : J9 σ) : Cc 8 mX9_snapshot [.ref 0] σ (QI (fun u1 σ1 => Cc 8 mX10_snapshot [.ref 97] σ1 (QI (fun u2 σ2 => u2 = u1 ∧ J9 σ2)))) := by
  obtain ⟨⟨⟨n, R, lf, rg, wt, lev, stt, ap, str, v, cC, cM⟩, ⟨kc, kf, iv, iC, iM⟩, ⟨lc, l1, l2, lv, lC, lM⟩, hS, hP⟩, hz⟩ := id J
  have hn := v.1
  have hR := v.2.1
  refine c_X9_snapshot v cC (fun σ1 s1 e1 g0 => ?_)
  have h97 : gI σ1 97 = gI σ 97 := (e1 97 (by decide)).1
  refine c_X10_snapshot (cM.eq (e1.mono (fun k hk => by omega))) (fun τ e f f113 f112 fw f117 => ⟨rfl, ?_⟩)
  have E : eq9 (fun k => ¬ (16 ≤ k ∧ k ≤ 30) ∧ k ≠ 0 ∧ k ≠ 97 ∧ ¬ (112 ≤ k ∧ k ≤ 117)) σ τ := (e1.mono (fun k hk => ⟨hk.1, hk.2.1⟩)).tr (e.mono (fun k hk => by omega))
  have F : ∀ i, i < 20 → gI τ 97 i = gI σ 97 i := fun i hi => by rw [f, up9_ne (by omega), up9_ne (by omega), up9_ne (by omega), up9_ne (by omega), up9_ne (by omega), h97]
  have q98 : gI σ1 98 = gI σ 98 := (e1 98 (by decide)).1
  have q99 : gI σ1 99 = gI σ 99 := (e1 99 (by decide)).1
  have q104 : gI σ1 104 = gI σ 104 := (e1 104 (by decide)).1
  have q100 : gI σ1 100 = gI σ 100 := (e1 100 (by decide)).1
  have q101 : gI σ1 101 = gI σ 101 := (e1 101 (by decide)).1
  have q102 : gF σ1 102 = gF σ 102 := (e1 102 (by decide)).2.2.1
  have t0 : gI τ 0 2 = 1 := by rw [(e 0 (by decide)).1]; exact g0
  refine ⟨⟨J.1.1.mv (E.mono (fun k hk => by omega)) (fun i hi => F i (by omega)), J.1.2.1.mv (E.mono (fun k hk => by omega)) (F 9 (by decide)), J.1.2.2.1.mv (E.mono (fun k hk => by omega)) (F 12 (by decide)), fun i hi => (hS i hi).eq hi (E.mono (fun k hk => by omega)), ?_, Or.inr t0, fun _ => ⟨n, R, lf, rg, wt, lev, stt, ap, str, v, s1.eq hR.2 (e.mono (fun k hk => by omega)), ?_⟩⟩, fun x a b => by rw [(E 66 (by decide)).1]; exact hz x a b⟩
  · rw [t0, f, up9_ne (by decide), up9_ne (by decide), up9_ne (by decide), up9_ne (by decide), up9_eq]
  · refine ⟨?_, ?_, ?_, ?_, fun r r0 r1 => ?_, fun x a b => ?_, fun k a b => ?_⟩
    · rw [f, up9_ne (by decide), up9_ne (by decide), up9_ne (by decide), up9_eq]
    · rw [f, up9_ne (by decide), up9_ne (by decide), up9_eq]
    · rw [f, up9_ne (by decide), up9_eq]
    · rw [f, up9_eq]
    · obtain ⟨b1, b2, b3, b4⟩ := cM.2.2.2.2.1 r r0 r1
      have hl := (v.2.2.1 r r0 r1).1.2
      have hr2 := (v.2.2.1 r r0 r1).2.2.2
      rw [f112 _ (by omega) (by omega), f112 _ (by omega) (by omega), q98]
      refine ⟨b1, b2, fun k a b => ?_, fun k a b => ?_⟩
      · rw [f113 _ (by omega) (by omega), q99]; exact b3 k a b
      · rw [f113 _ (by omega) (by omega), q99]; exact b4 k a b
    · obtain ⟨b1, b2, b3⟩ := fw x a b
      rw [b1, b2, b3, q100, q101, q102]; exact cM.2.2.2.2.2.1 x a b
    · have hl := v.2.2.2.2.2.2
      rw [f117 _ (by omega) (by omega), q104]; exact cM.2.2.2.2.2.2 k a b
theorem pr_restore {σ : S9} (J : J9 σ) : Cc 8 mX9_restore [.ref 0] σ (QI (fun u1 σ1 => Cc 8 mX10_restore [.ref 97] σ1 (QI (fun u2 σ2 => u2 = u1 ∧ J9 σ2)))) := by
  obtain ⟨⟨⟨n, R, lf, rg, wt, lev, stt, ap, str, v, cC, cM⟩, ⟨kc, kf, iv, iC, iM⟩, ⟨lc, l1, l2, lv, lC, lM⟩, hS, hP⟩, hz⟩ := id J
  have hn := v.1
  have hR := v.2.1
  obtain ⟨p1, p2, p3⟩ := hP
  rcases p2 with b0 | b1
  · refine c_X9_restore (n := n) (R := R) (lf := lf) (rg := rg) (wt := wt) (lev := lev) (stt := stt) (ap := ap) (str := str) b0 (Or.inl rfl) (fun _ => ?_) (fun z => by omega) (fun z => by omega) (fun z => by omega)
    exact c_X10_restore (n := n) (R := R) (lf := lf) (rg := rg) (wt := wt) (lev := lev) (stt := stt) (ap := ap) (str := str) (b := 0) (by rw [← p1]; exact b0) (Or.inl rfl) (fun _ => ⟨rfl, J⟩) (fun z => by omega) (fun z => by omega)
  · obtain ⟨n', R', lf', rg', wt', lev', stt', ap', str', v', s', m'⟩ := p3 b1
    have hn' := v'.1
    have hR' := v'.2.1
    refine c_X9_restore (n := n') (R := R') (lf := lf') (rg := rg') (wt := wt') (lev := lev') (stt := stt') (ap := ap') (str := str') b1 (Or.inr rfl) (fun z => by omega) (fun _ => hR'.2) (fun _ => s') (fun _ σ1 s1 e1 g33 => ?_)
    have h97 : gI σ1 97 = gI σ 97 := (e1 97 (by decide)).1
    refine c_X10_restore (n := n') (R := R') (lf := lf') (rg := rg') (wt := wt') (lev := lev') (stt := stt') (ap := ap') (str := str') (b := 1) (by rw [h97, ← p1]; exact b1) (Or.inr rfl) (fun z => by omega) (fun _ => m'.eq (e1.mono (fun k hk => by omega))) (fun _ τ e f f99 f98 fw f104 => ⟨rfl, ?_⟩)
    have E : eq9 (fun k => ¬ (1 ≤ k ∧ k ≤ 15) ∧ k ≠ 33 ∧ ¬ (97 ≤ k ∧ k ≤ 102) ∧ k ≠ 104) σ τ := (e1.mono (fun k hk => ⟨hk.1, hk.2.1⟩)).tr (e.mono (fun k hk => by omega))
    have F : ∀ i, i ≠ 0 ∧ i ≠ 1 ∧ i ≠ 6 ∧ i ≠ 11 ∧ i ≠ 12 → gI τ 97 i = gI σ 97 i := fun i hi => by rw [f, up9_ne (by omega), up9_ne (by omega), up9_ne (by omega), up9_ne (by omega), up9_ne (by omega), h97]
    have q112 : gI σ1 112 = gI σ 112 := (e1 112 (by decide)).1
    have q113 : gI σ1 113 = gI σ 113 := (e1 113 (by decide)).1
    have q117 : gI σ1 117 = gI σ 117 := (e1 117 (by decide)).1
    have q114 : gI σ1 114 = gI σ 114 := (e1 114 (by decide)).1
    have q115 : gI σ1 115 = gI σ 115 := (e1 115 (by decide)).1
    have q116 : gF σ1 116 = gF σ 116 := (e1 116 (by decide)).2.2.1
    have hSy : Sys τ := by
      refine ⟨n', R', lf', rg', wt', lev', stt', ap', str', v', s1.eq hR'.2 (e.mono (fun k hk => by omega)), ?_⟩
      refine ⟨?_, ?_, ?_, ?_, fun r r0 r1 => ?_, fun x a b => ?_, fun k a b => ?_⟩
      · rw [f, up9_ne (by decide), up9_ne (by decide), up9_ne (by decide), up9_ne (by decide), up9_eq]
      · rw [f, up9_ne (by decide), up9_ne (by decide), up9_ne (by decide), up9_eq]
      · rw [f, up9_ne (by decide), up9_ne (by decide), up9_eq]
      · rw [f, up9_ne (by decide), up9_eq]
      · obtain ⟨b1, b2, b3, b4⟩ := m'.2.2.2.2.1 r r0 r1
        have hl := (v'.2.2.1 r r0 r1).1.2
        have hr2 := (v'.2.2.1 r r0 r1).2.2.2
        rw [f98 _ (by omega) (by omega), f98 _ (by omega) (by omega), q112]
        refine ⟨b1, b2, fun k a b => ?_, fun k a b => ?_⟩
        · rw [f99 _ (by omega) (by omega), q113]; exact b3 k a b
        · rw [f99 _ (by omega) (by omega), q113]; exact b4 k a b
      · obtain ⟨b1, b2, b3⟩ := fw x a b
        rw [b1, b2, b3, q114, q115, q116]; exact m'.2.2.2.2.2.1 x a b
      · have hl := v'.2.2.2.2.2.2
        rw [f104 _ (by omega) (by omega), q117]; exact m'.2.2.2.2.2.2 k a b
    exact J.mk hSy (J.1.2.1.mv (E.mono (fun k hk => by omega)) (F 9 (by decide))) (lop0 (by rw [(e 33 (by decide)).1]; exact g33) (by rw [f, up9_eq])) (E.mono (fun k hk => by omega)) (fun i a b => F i (by omega))
