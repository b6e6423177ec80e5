theorem FWR9 {n R : Int} {lf rg : Int → List Int} {wt lev : Int → Int} {stt : Int} {ap : Int → UInt32} {str : List Int} (v : Va n R lf rg wt lev stt ap str) (e : Int → Int) : FW9 n R lf rg e ↔ FR9 n R lf rg e := by
  have hn := v.1
  have hR := v.2.1
  constructor
  · intro h r a b
    have := h.1 r a b
    rw [sm9_comm] at this
    omega
  · intro h
    refine ⟨fun r a b => by rw [sm9_comm]; have := h r a b; omega, ?_⟩
    by_cases q : R = 0
    · exact Or.inl (by rw [if_pos q]; decide)
    · refine Or.inr (Classical.byContradiction (fun hx => ?_))
      have h0 := h 0 (by omega) (by omega)
      rw [sm9_congr (f' := bl9 lf rg 0) (g' := fun _ => 0) n.toNat (fun x a b => ⟨rfl, Classical.byContradiction (fun y => hx ⟨x, a, by omega, y⟩)⟩), sm9_comm] at h0
      rw [sm9_zero] at h0
      omega
theorem FCD9 {n R : Int} {lf rg : Int → List Int} (e : Int → Int) : FC9 n R lf rg e ↔ FD9 n R lf rg e := by
  have key : ∀ x, sm9 e (fun r => -bal9 (lf r) (rg r) x) R.toNat = - sm9 e (fun r => bl9 lf rg r x) R.toNat := fun x => sm9_neg R.toNat
  constructor
  · intro h
    refine ⟨fun x a b => ?_, ?_⟩
    · have h1 : 0 ≤ sm9 e (fun r => -bal9 (lf r) (rg r) x) R.toNat := h.1 x a b
      have h2 := key x
      omega
    · rcases h.2 with h2 | h2
      · exact absurd rfl h2
      · exact h2
  · intro h
    refine ⟨fun x a b => ?_, Or.inr h.2⟩
    have h1 := h.1 x a b
    have h2 := key x
    show 0 ≤ sm9 e (fun r => -bal9 (lf r) (rg r) x) R.toNat
    omega
theorem val9_congr2 {b : Int} {e f : Int → Int} {m : Nat} (h : ∀ k : Int, 0 ≤ k → k < m → e k = f k) : val9 b e m = val9 b f m := val9_congr m h
theorem tl9_congr9 {g h : Int → Int} {n : Int} (hn : 0 ≤ n) : (∀ x, 0 ≤ x → x < n → g x = h x) → tl9 g n n.toNat = tl9 h n n.toNat := by
  intro he
  have key : ∀ k : Nat, (k : Int) ≤ n → tl9 g n k = tl9 h n k := by
    intro k
    induction k with
    | zero => intro _; rfl
    | succ k ih => intro hk; unfold tl9; rw [ih (by omega), he (n - (k + 1)) (by omega) (by omega)]
  exact key n.toNat (by omega)
theorem pr_findCertificate {σ : S9} (J : J9 σ) : Cc 8 mX9_findCertificate [.ref 0] σ (QI (fun u1 σ1 => Cc 8 mX10_findCertificate [.ref 97] σ1 (QI (fun u2 σ2 => u2 = u1 ∧ J9 σ2)))) := by
  obtain ⟨⟨⟨n, R, lf, rg, wt, lev, stt, ap, str, v, cC, cM⟩, ⟨kc, kf, iv, iC, iM⟩, ⟨lc, l1, l2, lv, lC, lM⟩, hS, hP⟩, hz⟩ := id J
  have hn := v.1
  have hR := v.2.1
  have hiff : ∀ e, Dg9 4 e R.toNat → (FC9 n R lf rg e ↔ FD9 n R lf rg e) := fun e _ => FCD9 e
  refine c_X9_findCertificate v cC hz (fun z σ1 e1 => ?_) (fun g z σ1 e1 => ?_)
  · refine c_X10_findCertificate v (cM.eq (e1.mono (fun k hk => by omega))) (fun y τ e => ⟨rfl, J.ks (T := fun k => k < 36 ∨ k = 66 ∨ (80 < k ∧ k < 118)) ((e1.mono (fun k hk => by omega)).tr (e.mono (fun k hk => by omega))) (fun k hk => hk)⟩) (fun g2 y τ e => absurd ((hiff g2 y.1).mpr y.2.1) (z g2 y.1))
  · refine c_X10_findCertificate v (cM.eq (e1.mono (fun k hk => by omega))) (fun y τ e => absurd ((hiff g z.1).mp z.2.1) (y g z.1)) (fun g2 y τ e => ⟨val9_congr2 (fun k a b => (z.uniq (by decide) y hiff k a b).symm), J.ks (T := fun k => k < 36 ∨ k = 66 ∨ (80 < k ∧ k < 118)) ((e1.mono (fun k hk => by omega)).tr (e.mono (fun k hk => by omega))) (fun k hk => hk)⟩)
theorem pr_findWeights {σ : S9} (J : J9 σ) {l : Int} (hl : (-2147483648 ≤ l ∧ l < 2147483648)) : Cc 8 mX9_findWeights [.ref 0, .int (iI l)] σ (QI (fun u1 σ1 => Cc 8 mX10_findWeights [.ref 97, .int (iI l)] σ1 (QI (fun u2 σ2 => u2 = u1 ∧ J9 σ2)))) := by
  obtain ⟨⟨⟨n, R, lf, rg, wt, lev, stt, ap, str, v, cC, cM⟩, ⟨kc, kf, iv, iC, iM⟩, ⟨lc, l1, l2, lv, lC, lM⟩, hS, hP⟩, hz⟩ := id J
  have hn := v.1
  have hR := v.2.1
  have WL : ∀ (wt' lev' : Int → Int) (stt' : Int) (ap' : Int → UInt32) (τ : S9), (∀ x, 0 ≤ x → x < 8 → (0 ≤ wt' x ∧ wt' x ≤ 99) ∧ (0 ≤ lev' x ∧ lev' x ≤ 9) ∧ apOK (ap' x)) → (0 ≤ stt' ∧ stt' ≤ 1) → eq9 (fun k => (k < 36 ∨ k = 66 ∨ (80 < k ∧ k < 97) ∨ (97 < k ∧ k < 118)) ∧ k ≠ 1 ∧ k ≠ 13 ∧ k ≠ 14 ∧ k ≠ 15 ∧ k ≠ 100 ∧ k ≠ 101 ∧ k ≠ 102) σ τ → gI τ 1 = up9 (gI σ 1) 7 stt' → gL τ 1 = gL σ 1 → (∀ i, i ≠ 6 → gI τ 97 i = gI σ 97 i) → gI τ 97 6 = stt' → (∀ x, 0 ≤ x → x < 8 → gI τ 13 x = wt' x ∧ gI τ 14 x = lev' x ∧ gF τ 15 x = ap' x) → (∀ x, 0 ≤ x → x < 6 → gI τ 100 x = wt' x ∧ gI τ 101 x = lev' x ∧ gF τ 102 x = ap' x) → J9 τ := by
    intro wt' lev' stt' ap' τ hr hs E g1 g1L F f6 hc hm
    have hSy : Sys τ := by
      refine ⟨n, R, lf, rg, wt', lev', stt', ap', str, v.rep hr hs v.2.2.2.2.2, cC.rep hR.2 (E.mono (fun k hk => by omega)) ?_ ?_ ?_ ?_ hc, cM.rep (E.mono (fun k hk => by omega)) ?_ ?_ f6 ?_ hm (fun k a b => ?_)⟩
      · rw [g1, up9_ne (by decide)]; exact cC.1
      · rw [g1, up9_ne (by decide)]; exact cC.2.1
      · rw [g1, up9_eq]
      · rw [g1L]; exact cC.2.2.2.1
      · rw [F 0 (by decide)]; exact cM.1
      · rw [F 1 (by decide)]; exact cM.2.1
      · rw [F 11 (by decide)]; exact cM.2.2.2.1
      · rw [(E 104 (by decide)).1]; exact cM.tt k a b
    exact J.mk hSy (J.1.2.1.mv (E.mono (fun k hk => by omega)) (F 9 (by decide))) (J.1.2.2.1.mv (E.mono (fun k hk => by omega)) (F 12 (by decide))) (E.mono (fun k hk => by omega)) (fun i a b => F i (by omega))
  have u1 : gI σ 1 = up9 (gI σ 1) 7 stt := by
    funext i
    by_cases q : i = 7
    · rw [q, up9_eq]; exact cC.2.2.1
    · rw [up9_ne q]
  have hiff : ∀ e, Dg9 (l + 1) e n.toNat → (FW9 n R lf rg e ↔ FR9 n R lf rg e) := fun e _ => FWR9 v e
  refine c_X9_findWeights v cC hz hl (fun z => ?_) (fun z0 z σ1 e1 => ?_) (fun z0 g z σ1 e1 w1 => ?_)
  · exact c_X10_findWeights v cM hl (fun y => ⟨rfl, J⟩) (fun y => absurd y z) (fun y => absurd y z)
  · refine c_X10_findWeights v (cM.eq (e1.mono (fun k hk => by omega))) hl (fun y => absurd z0 y) (fun y0 y τ e => ⟨rfl, J.ks (T := fun k => k < 36 ∨ k = 66 ∨ (80 < k ∧ k < 118)) ((e1.mono (fun k hk => by omega)).tr (e.mono (fun k hk => by omega))) (fun k hk => hk)⟩) (fun y0 g2 y τ e w2 => absurd ((hiff g2 y.1).mpr y.2.1) (z g2 y.1))
  · refine c_X10_findWeights v (cM.eq (e1.mono (fun k hk => by omega))) hl (fun y => absurd z0 y) (fun y0 y τ e => absurd ((hiff g z.1).mp z.2.1) (y g z.1)) (fun y0 g2 y τ e w2 => ?_)
    have hu := z.uniq (by omega) y hiff
    have hu2 : ∀ x, 0 ≤ x → x < n → g x = g2 x := fun x a b => hu x a (by omega)
    refine ⟨sm9_congr n.toNat (fun x a b => ⟨(hu2 x a (by omega)).symm, rfl⟩), ?_⟩
    refine WL (fun x => if 0 ≤ x ∧ x < n then g x else wt x) lev stt ap τ (fun x a b => ⟨?_, (v.2.2.2.1 x a b).2⟩) v.2.2.2.2.1 ((e1.mono (fun k hk => by omega)).tr (e.mono (fun k hk => by omega))) ?_ ?_ (fun i _ => ?_) ?_ (fun x a b => ⟨?_, ?_, ?_⟩) (fun x a b => ⟨?_, ?_, ?_⟩)
    · show 0 ≤ (if 0 ≤ x ∧ x < n then g x else wt x) ∧ (if 0 ≤ x ∧ x < n then g x else wt x) ≤ 99
      by_cases q : 0 ≤ x ∧ x < n
      · rw [if_pos q]; have := z.1 x a (by omega); omega
      · rw [if_neg q]; exact (v.2.2.2.1 x a b).1
    · rw [(e 1 (by decide)).1, (e1 1 (by decide)).1]; exact u1
    · rw [(e 1 (by decide)).2.1, (e1 1 (by decide)).2.1]
    · rw [(e 97 (by decide)).1, (e1 97 (by decide)).1]
    · rw [(e 97 (by decide)).1, (e1 97 (by decide)).1]; exact cM.2.2.1
    · rw [(e 13 (by decide)).1, w1]
      by_cases q : 0 ≤ x ∧ x < n
      · rw [if_pos q]; exact (if_pos q).symm
      · rw [if_neg q, (cC.2.2.2.2.2 x a b).1]; exact (if_neg q).symm
    · rw [(e 14 (by decide)).1, (e1 14 (by decide)).1]; exact (cC.2.2.2.2.2 x a b).2.1
    · rw [(e 15 (by decide)).2.2.1, (e1 15 (by decide)).2.2.1]; exact (cC.2.2.2.2.2 x a b).2.2
    · rw [w2, (e1 100 (by decide)).1]
      by_cases q : 0 ≤ x ∧ x < n
      · rw [if_pos q, ← hu2 x q.1 q.2]; exact (if_pos q).symm
      · rw [if_neg q, cM.w9 ⟨a, b⟩]; exact (if_neg q).symm
    · rw [(e 101 (by decide)).1, (e1 101 (by decide)).1]; exact cM.v9 ⟨a, b⟩
    · rw [(e 102 (by decide)).2.2.1, (e1 102 (by decide)).2.2.1]; exact cM.a9 ⟨a, b⟩
theorem pr_findLevels {σ : S9} (J : J9 σ) : Cc 8 mX9_findLevels [.ref 0] σ (QI (fun u1 σ1 => Cc 8 mX10_findLevels [.ref 97] σ1 (QI (fun u2 σ2 => u2 = u1 ∧ J9 σ2)))) := by
  obtain ⟨⟨⟨n, R, lf, rg, wt, lev, stt, ap, str, v, cC, cM⟩, ⟨kc, kf, iv, iC, iM⟩, ⟨lc, l1, l2, lv, lC, lM⟩, hS, hP⟩, hz⟩ := id J
  have hn := v.1
  have hR := v.2.1
  have WL : ∀ (wt' lev' : Int → Int) (stt' : Int) (ap' : Int → UInt32) (τ : S9), (∀ x, 0 ≤ x → x < 8 → (0 ≤ wt' x ∧ wt' x ≤ 99) ∧ (0 ≤ lev' x ∧ lev' x ≤ 9) ∧ apOK (ap' x)) → (0 ≤ stt' ∧ stt' ≤ 1) → eq9 (fun k => (k < 36 ∨ k = 66 ∨ (80 < k ∧ k < 97) ∨ (97 < k ∧ k < 118)) ∧ k ≠ 1 ∧ k ≠ 13 ∧ k ≠ 14 ∧ k ≠ 15 ∧ k ≠ 100 ∧ k ≠ 101 ∧ k ≠ 102) σ τ → gI τ 1 = up9 (gI σ 1) 7 stt' → gL τ 1 = gL σ 1 → (∀ i, i ≠ 6 → gI τ 97 i = gI σ 97 i) → gI τ 97 6 = stt' → (∀ x, 0 ≤ x → x < 8 → gI τ 13 x = wt' x ∧ gI τ 14 x = lev' x ∧ gF τ 15 x = ap' x) → (∀ x, 0 ≤ x → x < 6 → gI τ 100 x = wt' x ∧ gI τ 101 x = lev' x ∧ gF τ 102 x = ap' x) → J9 τ := by
    intro wt' lev' stt' ap' τ hr hs E g1 g1L F f6 hc hm
    have hSy : Sys τ := by
      refine ⟨n, R, lf, rg, wt', lev', stt', ap', str, v.rep hr hs v.2.2.2.2.2, cC.rep hR.2 (E.mono (fun k hk => by omega)) ?_ ?_ ?_ ?_ hc, cM.rep (E.mono (fun k hk => by omega)) ?_ ?_ f6 ?_ hm (fun k a b => ?_)⟩
      · rw [g1, up9_ne (by decide)]; exact cC.1
      · rw [g1, up9_ne (by decide)]; exact cC.2.1
      · rw [g1, up9_eq]
      · rw [g1L]; exact cC.2.2.2.1
      · rw [F 0 (by decide)]; exact cM.1
      · rw [F 1 (by decide)]; exact cM.2.1
      · rw [F 11 (by decide)]; exact cM.2.2.2.1
      · rw [(E 104 (by decide)).1]; exact cM.tt k a b
    exact J.mk hSy (J.1.2.1.mv (E.mono (fun k hk => by omega)) (F 9 (by decide))) (J.1.2.2.1.mv (E.mono (fun k hk => by omega)) (F 12 (by decide))) (E.mono (fun k hk => by omega)) (fun i a b => F i (by omega))
  have u1 : gI σ 1 = up9 (gI σ 1) 7 stt := by
    funext i
    by_cases q : i = 7
    · rw [q, up9_eq]; exact cC.2.2.1
    · rw [up9_ne q]
  have hl9 : ∀ r, 0 ≤ r → r < R → (∀ x ∈ lf r, 0 ≤ x ∧ x < n) ∧ ∀ x ∈ rg r, 0 ≤ x ∧ x < n := fun r a b => ⟨(v.2.2.1 r a b).1.1, (v.2.2.1 r a b).2.2.1⟩
  have hFV : ∀ σ1, gI σ1 100 = gI σ 100 → FV9 (gI σ1 100) stt n R lf rg = FV9 wt stt n R lf rg := fun σ1 h => by
    rw [h]
    exact FV9_congr (fun x a b => cM.w9 ⟨a, by omega⟩) hl9
  refine c_X9_findLevels v cC (fun z σ1 e1 => ?_) (fun g z σ1 e1 w1 => ?_)
  · have c1 : SyMn σ1 n R lf rg wt lev stt ap str := cM.eq (e1.mono (fun k hk => by omega))
    have hF := hFV σ1 (e1 100 (by decide)).1
    refine c_X10_findLevels v c1 (fun y τ e w2 => ⟨rfl, ?_⟩) (fun g2 y τ e w2 => absurd (hF ▸ y.2.1) (z g2 y.1))
    refine WL wt lev stt ap τ v.2.2.2.1 v.2.2.2.2.1 ((e1.mono (fun k hk => by omega)).tr (e.mono (fun k hk => by omega))) ?_ ?_ (fun i _ => ?_) ?_ (fun x a b => ⟨?_, ?_, ?_⟩) (fun x a b => ⟨?_, ?_, ?_⟩)
    · rw [(e 1 (by decide)).1, (e1 1 (by decide)).1]; exact u1
    · rw [(e 1 (by decide)).2.1, (e1 1 (by decide)).2.1]
    · rw [(e 97 (by decide)).1, (e1 97 (by decide)).1]
    · rw [(e 97 (by decide)).1, (e1 97 (by decide)).1]; exact cM.2.2.1
    · rw [(e 13 (by decide)).1, (e1 13 (by decide)).1]; exact (cC.2.2.2.2.2 x a b).1
    · rw [(e 14 (by decide)).1, (e1 14 (by decide)).1]; exact (cC.2.2.2.2.2 x a b).2.1
    · rw [(e 15 (by decide)).2.2.1, (e1 15 (by decide)).2.2.1]; exact (cC.2.2.2.2.2 x a b).2.2
    · rw [(e 100 (by decide)).1, (e1 100 (by decide)).1]; exact cM.w9 ⟨a, b⟩
    · rw [w2 x a b, (e1 101 (by decide)).1]; exact cM.v9 ⟨a, b⟩
    · rw [(e 102 (by decide)).2.2.1, (e1 102 (by decide)).2.2.1]; exact cM.a9 ⟨a, b⟩
  · have c1 : SyMn σ1 n R lf rg wt lev stt ap str := cM.eq (e1.mono (fun k hk => by omega))
    have hF := hFV σ1 (e1 100 (by decide)).1
    refine c_X10_findLevels v c1 (fun y τ e w2 => absurd (hF.symm ▸ z.2.1) (y g z.1)) (fun g2 y τ e w2 => ?_)
    have hu := z.uniq (by omega) y (fun f _ => by rw [hF])
    have hu2 : ∀ x, 0 ≤ x → x < n → g x = g2 x := fun x a b => hu x a (by omega)
    refine ⟨tl9_congr9 (by omega) (fun x a b => (hu2 x a b).symm), ?_⟩
    refine WL wt (fun x => if 0 ≤ x ∧ x < n then g x else lev x) stt ap τ (fun x a b => ⟨(v.2.2.2.1 x a b).1, ?_, (v.2.2.2.1 x a b).2.2⟩) v.2.2.2.2.1 ((e1.mono (fun k hk => by omega)).tr (e.mono (fun k hk => by omega))) ?_ ?_ (fun i _ => ?_) ?_ (fun x a b => ⟨?_, ?_, ?_⟩) (fun x a b => ⟨?_, ?_, ?_⟩)
    · show 0 ≤ (if 0 ≤ x ∧ x < n then g x else lev x) ∧ (if 0 ≤ x ∧ x < n then g x else lev x) ≤ 9
      by_cases q : 0 ≤ x ∧ x < n
      · rw [if_pos q]; have := z.1 x a (by omega); omega
      · rw [if_neg q]; exact (v.2.2.2.1 x a b).2.1
    · rw [(e 1 (by decide)).1, (e1 1 (by decide)).1]; exact u1
    · rw [(e 1 (by decide)).2.1, (e1 1 (by decide)).2.1]
    · rw [(e 97 (by decide)).1, (e1 97 (by decide)).1]
    · rw [(e 97 (by decide)).1, (e1 97 (by decide)).1]; exact cM.2.2.1
    · rw [(e 13 (by decide)).1, (e1 13 (by decide)).1]; exact (cC.2.2.2.2.2 x a b).1
    · rw [(e 14 (by decide)).1, w1]
      by_cases q : 0 ≤ x ∧ x < n
      · rw [if_pos q]; exact (if_pos q).symm
      · rw [if_neg q, (cC.2.2.2.2.2 x a b).2.1]; exact (if_neg q).symm
    · rw [(e 15 (by decide)).2.2.1, (e1 15 (by decide)).2.2.1]; exact (cC.2.2.2.2.2 x a b).2.2
    · rw [(e 100 (by decide)).1, (e1 100 (by decide)).1]; exact cM.w9 ⟨a, b⟩
    · rw [w2 x a b, (e1 101 (by decide)).1]
      by_cases q : x < n
      · rw [if_pos q, ← hu2 x a q]; exact (if_pos ⟨a, q⟩).symm
      · rw [if_neg q, cM.v9 ⟨a, b⟩]; exact (if_neg (by omega)).symm
    · rw [(e 102 (by decide)).2.2.1, (e1 102 (by decide)).2.2.1]; exact cM.a9 ⟨a, b⟩
theorem pt9_bd {E : List E9} (h : WF9 E) : ∀ (L : List (Int × Int)) (k : Nat), k < E.length → pt9 E L k → ∀ x ∈ L, (0 ≤ x.1 ∧ x.1 ≤ 8) ∧ (0 ≤ x.2 ∧ x.2 ≤ 12)
  | [], _, _, _, x, hx => absurd hx List.not_mem_nil
  | y :: L, k, hk, ⟨h1, h2, h3⟩, x, hx => by
    have hw := h k hk (by omega)
    rcases List.mem_cons.mp hx with e | e
    · rw [e, h2]; exact hw.2
    · exact pt9_bd h L _ (by omega) h3 x e
theorem ll9_bd {E : List E9} {L : List (Int × Int)} {k : Nat} {r p : Int} (h : WF9 E) (hk : k < E.length) (hL : pt9 E L k) (hr : 0 ≤ r ∧ r ≤ 8) (hp : 0 ≤ p ∧ p ≤ 12) (i : Int) : (0 ≤ (ll9 r p L i).1 ∧ (ll9 r p L i).1 ≤ 8) ∧ (0 ≤ (ll9 r p L i).2 ∧ (ll9 r p L i).2 ≤ 12) := by
  unfold ll9
  rw [List.getD_eq_getElem?_getD]
  by_cases q : (L.length - i).toNat < ((r, p) :: L).length
  · rw [List.getElem?_eq_getElem q]
    rcases List.mem_cons.mp (List.getElem_mem q) with e | e
    · show (0 ≤ (((r, p) :: L)[(L.length - i).toNat]).1 ∧ (((r, p) :: L)[(L.length - i).toNat]).1 ≤ 8) ∧ (0 ≤ (((r, p) :: L)[(L.length - i).toNat]).2 ∧ (((r, p) :: L)[(L.length - i).toNat]).2 ≤ 12)
      rw [e]; exact ⟨hr, hp⟩
    · exact pt9_bd h L k hk hL _ e
  · rw [List.getElem?_eq_none (by omega)]
    show (0 ≤ (0 : Int) ∧ (0 : Int) ≤ 8) ∧ (0 ≤ (0 : Int) ∧ (0 : Int) ≤ 12)
    omega
theorem pr_findOrder {σ : S9} (J : J9 σ) : Cc 8 mX9_findOrder [.ref 0] σ (QI (fun u1 σ1 => Cc 8 mX10_findOrder [.ref 97] σ1 (QI (fun u2 σ2 => u2 = u1 ∧ J9 σ2)))) := by
  obtain ⟨⟨⟨n, R, lf, rg, wt, lev, stt, ap, str, v, cC, cM⟩, ⟨kc, kf, iv, iC, iM⟩, ⟨lc, l1, l2, lv, lC, lM⟩, hS, hP⟩, hz⟩ := id J
  have hn := v.1
  have hR := v.2.1
  have WL : ∀ (wt' lev' : Int → Int) (stt' : Int) (ap' : Int → UInt32) (τ : S9), (∀ x, 0 ≤ x → x < 8 → (0 ≤ wt' x ∧ wt' x ≤ 99) ∧ (0 ≤ lev' x ∧ lev' x ≤ 9) ∧ apOK (ap' x)) → (0 ≤ stt' ∧ stt' ≤ 1) → eq9 (fun k => (k < 36 ∨ k = 66 ∨ (80 < k ∧ k < 97) ∨ (97 < k ∧ k < 118)) ∧ k ≠ 1 ∧ k ≠ 13 ∧ k ≠ 14 ∧ k ≠ 15 ∧ k ≠ 100 ∧ k ≠ 101 ∧ k ≠ 102) σ τ → gI τ 1 = up9 (gI σ 1) 7 stt' → gL τ 1 = gL σ 1 → (∀ i, i ≠ 6 → gI τ 97 i = gI σ 97 i) → gI τ 97 6 = stt' → (∀ x, 0 ≤ x → x < 8 → gI τ 13 x = wt' x ∧ gI τ 14 x = lev' x ∧ gF τ 15 x = ap' x) → (∀ x, 0 ≤ x → x < 6 → gI τ 100 x = wt' x ∧ gI τ 101 x = lev' x ∧ gF τ 102 x = ap' x) → J9 τ := by
    intro wt' lev' stt' ap' τ hr hs E g1 g1L F f6 hc hm
    have hSy : Sys τ := by
      refine ⟨n, R, lf, rg, wt', lev', stt', ap', str, v.rep hr hs v.2.2.2.2.2, cC.rep hR.2 (E.mono (fun k hk => by omega)) ?_ ?_ ?_ ?_ hc, cM.rep (E.mono (fun k hk => by omega)) ?_ ?_ f6 ?_ hm (fun k a b => ?_)⟩
      · rw [g1, up9_ne (by decide)]; exact cC.1
      · rw [g1, up9_ne (by decide)]; exact cC.2.1
      · rw [g1, up9_eq]
      · rw [g1L]; exact cC.2.2.2.1
      · rw [F 0 (by decide)]; exact cM.1
      · rw [F 1 (by decide)]; exact cM.2.1
      · rw [F 11 (by decide)]; exact cM.2.2.2.1
      · rw [(E 104 (by decide)).1]; exact cM.tt k a b
    exact J.mk hSy (J.1.2.1.mv (E.mono (fun k hk => by omega)) (F 9 (by decide))) (J.1.2.2.1.mv (E.mono (fun k hk => by omega)) (F 12 (by decide))) (E.mono (fun k hk => by omega)) (fun i a b => F i (by omega))
  have u1 : gI σ 1 = up9 (gI σ 1) 7 stt := by
    funext i
    by_cases q : i = 7
    · rw [q, up9_eq]; exact cC.2.2.1
    · rw [up9_ne q]
  refine c_X9_findOrder v cC (fun z => ?_) (fun z0 z σ1 e1 => ?_) (fun z0 w s g w0 w1 s0 s1 zw zs z σ1 e1 g1 g1L gw gv => ?_)
  · exact c_X10_findOrder v cM (fun y => ⟨rfl, J⟩) (fun y => by omega) (fun y => by omega)
  · have c1 : SyMn σ1 n R lf rg wt lev stt ap str := cM.eq (e1.mono (fun k hk => by omega))
    refine c_X10_findOrder v c1 (fun y => by omega) (fun y0 y τ e f hw hv => ⟨rfl, ?_⟩) (fun y0 w s g w0 w1 s0 s1 yw ys y τ e f hw hv => absurd y.2.1 (z w s w0 w1 s0 s1 g y.1))
    refine WL wt lev stt ap τ v.2.2.2.1 v.2.2.2.2.1 ((e1.mono (fun k hk => by omega)).tr (e.mono (fun k hk => by omega))) ?_ ?_ (fun i _ => ?_) ?_ (fun x a b => ⟨?_, ?_, ?_⟩) (fun x a b => ⟨?_, ?_, ?_⟩)
    · rw [(e 1 (by decide)).1, (e1 1 (by decide)).1]; exact u1
    · rw [(e 1 (by decide)).2.1, (e1 1 (by decide)).2.1]
    · rw [f, (e1 97 (by decide)).1]
    · rw [f, (e1 97 (by decide)).1]; exact cM.2.2.1
    · rw [(e 13 (by decide)).1, (e1 13 (by decide)).1]; exact (cC.2.2.2.2.2 x a b).1
    · rw [(e 14 (by decide)).1, (e1 14 (by decide)).1]; exact (cC.2.2.2.2.2 x a b).2.1
    · rw [(e 15 (by decide)).2.2.1, (e1 15 (by decide)).2.2.1]; exact (cC.2.2.2.2.2 x a b).2.2
    · rw [hw x a b, (e1 100 (by decide)).1]; exact cM.w9 ⟨a, b⟩
    · rw [hv x a b, (e1 101 (by decide)).1]; exact cM.v9 ⟨a, b⟩
    · rw [(e 102 (by decide)).2.2.1, (e1 102 (by decide)).2.2.1]; exact cM.a9 ⟨a, b⟩
  · have c1 : SyMn σ1 n R lf rg wt lev stt ap str := cM.eq (e1.mono (fun k hk => by omega))
    refine c_X10_findOrder v c1 (fun y => by omega) (fun y0 y τ e f hw hv => absurd z.2.1 (y w s w0 w1 s0 s1 g z.1)) (fun y0 w' s' g' w0' w1' s0' s1' yw ys y τ e f hw hv => ⟨rfl, ?_⟩)
    have ew : w' = w := by
      rcases Int.lt_trichotomy w' w with q | q | q
      · exact absurd y.2.1 (zw w' s' w0' q s0' s1' g' y.1)
      · exact q
      · exact absurd z.2.1 (yw w s w0 q s0 s1 g z.1)
    subst ew
    have es : s' = s := by
      rcases Int.lt_trichotomy s' s with q | q | q
      · exact absurd y.2.1 (zs s' s0' q g' y.1)
      · exact q
      · exact absurd z.2.1 (ys s s0 q g z.1)
    subst es
    have hu := z.uniq (by omega) y (fun _ _ => Iff.rfl)
    have hu2 : ∀ x, 0 ≤ x → x < n → g x = g' x := fun x a b => hu x a (by omega)
    have htw : ∀ x, 0 ≤ x → x < n → 0 ≤ tw9 n w' x ∧ tw9 n w' x ≤ 2 := fun x a b => tw9_bd n w' x
    refine WL (fun x => if 0 ≤ x ∧ x < n then tw9 n w' x else wt x) (fun x => if 0 ≤ x ∧ x < n then g x else lev x) s' ap τ (fun x a b => ⟨?_, ?_, (v.2.2.2.1 x a b).2.2⟩) ⟨s0, s1⟩ ((e1.mono (fun k hk => by omega)).tr (e.mono (fun k hk => by omega))) ?_ ?_ (fun i hi => ?_) ?_ (fun x a b => ⟨?_, ?_, ?_⟩) (fun x a b => ⟨?_, ?_, ?_⟩)
    · show 0 ≤ (if 0 ≤ x ∧ x < n then tw9 n w' x else wt x) ∧ (if 0 ≤ x ∧ x < n then tw9 n w' x else wt x) ≤ 99
      by_cases q : 0 ≤ x ∧ x < n
      · rw [if_pos q]; have := htw x q.1 q.2; omega
      · rw [if_neg q]; exact (v.2.2.2.1 x a b).1
    · show 0 ≤ (if 0 ≤ x ∧ x < n then g x else lev x) ∧ (if 0 ≤ x ∧ x < n then g x else lev x) ≤ 9
      by_cases q : 0 ≤ x ∧ x < n
      · rw [if_pos q]; have := z.1 x a (by omega); omega
      · rw [if_neg q]; exact (v.2.2.2.1 x a b).2.1
    · rw [(e 1 (by decide)).1, g1]
    · rw [(e 1 (by decide)).2.1, g1L]
    · rw [f, up9_ne hi, (e1 97 (by decide)).1]
    · rw [f, up9_eq]
    · rw [(e 13 (by decide)).1, gw]
      by_cases q : 0 ≤ x ∧ x < n
      · rw [if_pos q]; exact (if_pos q).symm
      · rw [if_neg q, (cC.2.2.2.2.2 x a b).1]; exact (if_neg q).symm
    · rw [(e 14 (by decide)).1, gv]
      by_cases q : 0 ≤ x ∧ x < n
      · rw [if_pos q]; exact (if_pos q).symm
      · rw [if_neg q, (cC.2.2.2.2.2 x a b).2.1]; exact (if_neg q).symm
    · rw [(e 15 (by decide)).2.2.1, (e1 15 (by decide)).2.2.1]; exact (cC.2.2.2.2.2 x a b).2.2
    · rw [hw x a b, (e1 100 (by decide)).1]
      by_cases q : x < n
      · rw [if_pos q]; exact (if_pos ⟨a, q⟩).symm
      · rw [if_neg q, cM.w9 ⟨a, b⟩]; exact (if_neg (by omega)).symm
    · rw [hv x a b, (e1 101 (by decide)).1]
      by_cases q : x < n
      · rw [if_pos q, ← hu2 x a q]; exact (if_pos ⟨a, q⟩).symm
      · rw [if_neg q, cM.v9 ⟨a, b⟩]; exact (if_neg (by omega)).symm
    · rw [(e 102 (by decide)).2.2.1, (e1 102 (by decide)).2.2.1]; exact cM.a9 ⟨a, b⟩
theorem pr_longestDerivation {σ : S9} (J : J9 σ) : Cc 8 mX9_longestDerivation [.ref 0] σ (QI (fun u1 σ1 => Cc 8 mX10_longestDerivation [.ref 97] σ1 (QI (fun u2 σ2 => u2 = u1 ∧ J9 σ2)))) := by
  obtain ⟨⟨⟨n, R, lf, rg, wt, lev, stt, ap, str, v, cC, cM⟩, ⟨kc, kf, iv, iC, iM⟩, ⟨lc, l1, l2, lv, lC, lM⟩, hS, hP⟩, hz⟩ := id J
  have hn := v.1
  have hR := v.2.1
  have hK : ∀ σ1 τ, eq9 (fun k => k < 36 ∨ 44 < k) σ σ1 → eq9 (fun x => x ≠ 97 ∧ x ≠ 123 ∧ x ≠ 127 ∧ x ≠ 128 ∧ x ≠ 129) σ1 τ → (∃ m, gI τ 97 = up9 (gI σ1 97) 40 m) → J9 τ := fun σ1 τ e1 e ⟨m, f⟩ =>
    J.keep ((e1.mono (fun k hk => by omega)).tr (e.mono (fun k hk => by omega))) (fun i hi => by rw [f, up9_ne hi, (e1 97 (by decide)).1])
  refine c_X9_longestDerivation v cC (fun z σ1 e1 => ?_) (fun g a z za σ1 e1 => ?_)
  · exact c_X10_longestDerivation v (cM.eq (e1.mono (fun k hk => by omega))) (fun y τ e f => ⟨rfl, hK σ1 τ e1 e f⟩) (fun g a y ya τ e f => by rw [z] at y; cases y)
  · exact c_X10_longestDerivation v (cM.eq (e1.mono (fun k hk => by omega))) (fun y τ e f => by rw [z] at y; cases y) (fun g2 a2 y ya τ e f => ⟨ya.uniq za, hK σ1 τ e1 e f⟩)
theorem pr_findLoop {σ : S9} (J : J9 σ) {x : Int} (hx : (-2147483648 ≤ x ∧ x < 2147483648)) : Cc 8 mX9_findLoop [.ref 0, .int (iI x)] σ (QI (fun u1 σ1 => Cc 8 mX10_findLoop [.ref 97, .int (iI x)] σ1 (QI (fun u2 σ2 => u2 = u1 ∧ J9 σ2)))) := by
  obtain ⟨⟨⟨n, R, lf, rg, wt, lev, stt, ap, str, v, cC, cM⟩, ⟨kc, kf, iv, iC, iM⟩, ⟨lc, l1, l2, lv, lC, lM⟩, hS, hP⟩, hz⟩ := id J
  have hn := v.1
  have hR := v.2.1
  have hK : ∀ σ1 τ, eq9 (fun k => k < 36 ∨ 44 < k) σ σ1 → eq9 (fun x => x ≠ 97 ∧ x ≠ 123 ∧ x ≠ 124 ∧ x ≠ 125 ∧ x ≠ 126) σ1 τ → (∃ m, gI τ 97 = up9 (gI σ1 97) 40 m) → J9 τ := fun σ1 τ e1 e ⟨m, f⟩ =>
    J.keep ((e1.mono (fun k hk => by omega)).tr (e.mono (fun k hk => by omega))) (fun i hi => by rw [f, up9_ne hi, (e1 97 (by decide)).1])
  refine c_X9_findLoop v cC hx (fun z => ?_) (fun z0 z σ1 e1 => ?_) (fun z0 z σ1 e1 => ?_) (fun z0 σ1 k r p L z zr zp zwf zk zL zl g33 g34 e1 => ?_)
  · exact c_X10_findLoop v cM hx (fun y => ⟨rfl, J⟩) (fun y => absurd y z) (fun y => absurd y z) (fun y => absurd y z)
  · exact c_X10_findLoop v (cM.eq (e1.mono (fun k hk => by omega))) hx (fun y => absurd z0 y) (fun y0 y τ e f => ⟨rfl, hK σ1 τ e1 e f⟩) (fun y0 y τ e f => by rw [z] at y; cases y) (fun y0 τ k r p L m y => by rw [z] at y; cases y)
  · exact c_X10_findLoop v (cM.eq (e1.mono (fun k hk => by omega))) hx (fun y => absurd z0 y) (fun y0 y τ e f => by rw [z] at y; cases y) (fun y0 y τ e f => ⟨rfl, hK σ1 τ e1 e f⟩) (fun y0 τ k r p L m y => by rw [z] at y; cases y)
  · refine c_X10_findLoop v (cM.eq (e1.mono (fun k hk => by omega))) hx (fun y => absurd z0 y) (fun y0 y τ e f => by rw [z] at y; cases y) (fun y0 y τ e f => by rw [z] at y; cases y) (fun y0 τ k2 r2 p2 L2 m y yL f g105 e => ?_)
    rw [z] at y
    cases y
    have eL := pt9_uniq yL zL
    subst eL
    refine ⟨rfl, ?_⟩
    have E : eq9 (fun k => (k < 33 ∨ 44 < k) ∧ k ≠ 97 ∧ k ≠ 105 ∧ k ≠ 106 ∧ (k < 123 ∨ 126 < k)) σ τ := (e1.mono (fun k hk => hk.1)).tr (e.mono (fun k hk => by omega))
    have F : ∀ i, i ≠ 12 ∧ i ≠ 40 → gI τ 97 i = gI σ 97 i := fun i hi => by rw [f, up9_ne hi.1, up9_ne hi.2, (e1 97 (by decide)).1]
    have hlr : ∀ i : Int, 0 ≤ i → i < (L2.length : Int) + 1 → (0 ≤ (ll9 r p L2 i).1 ∧ (ll9 r p L2 i).1 ≤ 8) ∧ (0 ≤ (ll9 r p L2 i).2 ∧ (ll9 r p L2 i).2 ≤ 12) := fun i a b => ll9_bd zwf zk zL zr zp i
    have hLo : Lop τ := by
      refine ⟨L2.length + 1, fun i => (ll9 r p L2 i).1, fun i => (ll9 r p L2 i).2, ⟨by omega, hlr⟩, ⟨?_, fun j a b => ?_⟩, ⟨?_, fun j a b => g105 j a (by omega)⟩⟩
      · rw [(e 33 (by decide)).1]; exact g33
      · rw [(e 34 (by decide)).1, (e 35 (by decide)).1]; exact g34 j a (by omega)
      · rw [f, up9_eq]
    exact J.mk (J.1.1.mv (E.mono (fun k hk => by omega)) (fun i hi => F i (by omega))) (J.1.2.1.mv (E.mono (fun k hk => by omega)) (F 9 (by decide))) hLo (E.mono (fun k hk => by omega)) (fun i a b => F i (by omega))
