section
variable {p : Program} {l : Launch} {e : Env} {R : Room} {s : State} {m : MethodId} {args : Array Value} {below : List Frame} {meth : Method} {c : Code} {H : Heap} {locs : List Loc} {cells slots : Nat} {Q : State → Prop} {cc : ByteArray} {pc : Nat} {ls : Array Slot} {rest : List Value}
theorem va_ldcwF {T : State} (X : Stand p l e R s m args below meth c T locs cells slots) (hexec : p.tables.exec = Jvm.exec) {own : String} {index : Nat} {v : UInt32} (hown : s.vm.findClass own = some m.cls)
    (hconst : (Cond.constantFloat own index v).before args s = true) {g : JFrame} (hg : g.method = m) (hdg : decode c.code g.pc = .ok (.ldc_w index, 3)) :
    ∀ target, Steps p.tables e below (T.setTop { g with pc := g.pc + 3, stack := .float v :: g.stack }) target → Steps p.tables e below (T.setTop g) target := by
  obtain ⟨k, cf, hk, hcf, hcp⟩ := Cond.constantFloat_spec hown hconst
  obtain ⟨k', hk', he⟩ := X.warmed.alike.2.2 _ _ hk
  intro target hrest
  subst hg
  jvm_step X.here [hexec, hdg, ldc_w.wp_float (s := T) (f := g) X.here.top hk' (by rw [he]; exact hcf) hcp]
  exact hrest
theorem lv_ldcwF (hexec : p.tables.exec = Jvm.exec) (hb : c.code = cc) {own : String} {index : Nat} {v : UInt32} (hown : s.vm.findClass own = some m.cls) (hconst : (Jvm.Cond.constantFloat own index v).before args s = true) (hdg : decode cc pc = .ok (.ldc_w index, 3)) (k : W p l e R s m args below meth c H locs cells slots Q (F0 m (pc + 3) ls (.float v :: rest))) : W p l e R s m args below meth c H locs cells slots Q (F0 m pc ls rest) := by
  intro T hT X
  obtain ⟨t, a, b⟩ := k T hT X
  exact ⟨t, va_ldcwF X hexec hown hconst (g := F0 m pc ls rest) rfl (by rw [hb]; exact hdg) t a, b⟩
end
section
variable {d : Nat} {mi : MI} {pc : Nat} {lv lv' st : List Value} {σ : S9} {Q : List Value → S9 → Prop}
theorem v_ldcfw {idx : Nat} {v : UInt32} (hd : decode mi.2.1 pc = .ok (.ldc_w idx, 3)) (hw : Cond.constantFloat mi.1.cls idx v ∈ lw_w) (k : Vv d mi (pc + 3) lv (.float v :: st) σ Q) : Vv d mi pc lv (st) σ Q := by
  intro γ p l e s m args below meth c H locs d0 ls C hd0 hl hS hP
  obtain ⟨hx, hb, hr, hml, hown, hts, hlk, hK, hG⟩ := id C
  refine lv_ldcwF hx hb hown (dr_words hts _ _ hw) hd ?_
  exact k γ p l e s m args below meth c H locs d0 ls C hd0 hl hS hP
end
section
variable {d : Nat} {n R : Int} {lf rg : Int → List Int} {wt lev : Int → Int} {stt : Int} {ap : Int → UInt32} {str : List Int} {σ : S9}
theorem Va.abt (v : Va n R lf rg wt lev stt ap str) {g : Int → UInt32} (hg : ∀ x, 0 ≤ x → x < 6 → apOK (g x)) : Va n R lf rg wt lev stt (fun x => if 0 ≤ x ∧ x < 6 then g x else ap x) str := ⟨v.1, v.2.1, v.2.2.1, fun x a b => ⟨(v.2.2.2.1 x a b).1, (v.2.2.2.1 x a b).2.1, by show apOK (if 0 ≤ x ∧ x < 6 then g x else ap x); by_cases q : 0 ≤ x ∧ x < 6; (rw [if_pos q]; exact hg x q.1 q.2); (rw [if_neg q]; exact (v.2.2.2.1 x a b).2.2)⟩, v.2.2.2.2.1, v.2.2.2.2.2⟩
theorem SyM.abt (c : SyMn σ n R lf rg wt lev stt ap str) (g : Int → UInt32) : SyMn (aF σ 102 g) n R lf rg wt lev stt (fun x => if 0 ≤ x ∧ x < 6 then g x else ap x) str := by
  obtain ⟨c1, c2, c3, c4, c5, c6, c7⟩ := c
  exact ⟨c1, c2, c3, c4, c5, fun x a b => ⟨(c6 x a b).1, (c6 x a b).2.1, by rw [gF_aF_eq]; exact (if_pos ⟨a, b⟩).symm⟩, c7⟩
theorem im1_ok6 {bl : Int → Int → Int} {f : Int → UInt32} (hap : ∀ x, 0 ≤ x → x < 6 → apOK (f x)) : ∀ r : Nat, (∀ s x : Int, 0 ≤ s → s < r → -6 ≤ bl s x ∧ bl s x ≤ 6) → ∀ x, 0 ≤ x → x < 6 → apOK (im1 bl n f r x)
  | 0, _ => hap
  | r + 1, hb => fun x a b => by
    have ih := im1_ok6 hap r (fun s x c d => hb s x c (by omega))
    unfold im1
    split
    · unfold wdA
      split
      · exact wd9_ok (hb r x (by omega) (by omega)).1 (hb r x (by omega) (by omega)).2 (ih x a b)
      · exact ih x a b
    · exact ih x a b
theorem imN_ok6 {bl : Int → Int → Int} {f : Int → UInt32} (hap : ∀ x, 0 ≤ x → x < 6 → apOK (f x)) (hb : ∀ s x : Int, 0 ≤ s → s < R → -6 ≤ bl s x ∧ bl s x ≤ 6) : ∀ k : Nat, ∀ x, 0 ≤ x → x < 6 → apOK (imN bl n R f k x)
  | 0 => hap
  | k + 1 => im1_ok6 (imN_ok6 hap hb k) R.toNat (fun s x a b => hb s x a (by omega))
theorem c_X10_improve {k : Int} {P : Int → S9 → Prop} (v : Va n R lf rg wt lev stt ap str) (c : SyMn σ n R lf rg wt lev stt ap str) (hk : (-2147483648 ≤ k ∧ k < 2147483648)) (h1 : ¬ (1 ≤ k ∧ k ≤ 100) → P (-1) σ) (h2 : 1 ≤ k ∧ k ≤ 100 → P (wide9 (bl9 lf rg) n (imN (bl9 lf rg) n R (gF σ 102) k.toNat) R.toNat) (aF σ 102 (imN (bl9 lf rg) n R (gF σ 102) k.toNat))) : Cc (d + 3) mX10_improve [.ref 97, .int (iI k)] σ (QI P) := by
  have hn := v.1
  have hR := v.2.1
  refine Cc_of (by decide +kernel) (fun _ => Nat.le_of_ble_eq_true rfl) rfl (lv := [_, _, _, _, _, _]) ?_
  have hb : ∀ s x : Int, 0 ≤ s → s < R → -6 ≤ bl9 lf rg s x ∧ bl9 lf rg s x ≤ 6 := fun s x a b => v.bal ⟨a, b⟩ x
  have ok := imN_ok6 (n := n) (R := R) (bl := bl9 lf rg) (c.apk v) hb
  have K3 : ∀ g : Int → UInt32, (1 ≤ k ∧ k ≤ 100) → g = imN (bl9 lf rg) n R (gF σ 102) k.toNat → ∀ (m : Nat) (r : Int), 0 ≤ r → r + m = R → ∀ l4 l5, Vv (d + 3) mX10_improve 119 [.ref 97, .int (iI k), .int (iI (wide9 (bl9 lf rg) n g r.toNat)), .int (iI r), l4, l5] [] (aF σ 102 g) (QI P) := by
    intro g hk2 hg m
    have vg := v.abt (g := g) (by rw [hg]; exact ok k.toNat)
    have cg := c.abt g
    induction m with
    | zero =>
      intro r hr hm l4 l5
      refine v_iload_n dX10_improve_119 rfl ?_
      refine v_aload_n dX10_improve_120 rfl ?_
      refine v_getI (ji := 1) dX10_improve_121 s_97 fX10_119 rfl ?_
      rw [cg.2.1]
      refine v_icmp_ge (tgt := 153) dX10_improve_124 (by decide) (by omega) (fun q124 => ?_) (fun q124 => absurd q124 (by omega))
      refine v_iload_n dX10_improve_153 rfl ?_
      exact v_ireturn dX10_improve_154 rfl (by rw [show r.toNat = R.toNat by omega, hg]; exact h2 hk2)
    | succ m ih =>
      intro r hr hm l4 l5
      have ih := ih (r + 1) (by omega) (by omega)
      rw [show (r + 1).toNat = r.toNat + 1 by omega, wide9, show ((r.toNat : Nat) : Int) = r by omega] at ih
      refine v_iload_n dX10_improve_119 rfl ?_
      refine v_aload_n dX10_improve_120 rfl ?_
      refine v_getI (ji := 1) dX10_improve_121 s_97 fX10_119 rfl ?_
      rw [cg.2.1]
      refine v_icmp_ge (tgt := 153) dX10_improve_124 (by decide) (by omega) (fun q124 => absurd q124 (by omega)) (fun q124 => ?_)
      refine v_iload_n dX10_improve_127 rfl ?_
      refine v_aload_n dX10_improve_128 rfl ?_
      refine v_iload_n dX10_improve_129 rfl ?_
      refine v_callVf1 dX10_improve_130 kX10_253 s_97 (Nat.le_of_ble_eq_true rfl) (c_X10_marginOf vg cg ⟨hr, by omega⟩ (fun a ha => ?_))
      refine v_ldcfw dX10_improve_133 wX10_257 ?_
      have hc := al32_cmp ha 1056964608
      rw [gF_aF_eq] at hc
      refine v_fcmp_lt (tgt := 144) dX10_improve_136 dX10_improve_137 (by decide) (fun q136 => ?_) (fun q136 => ?_)
      · refine v_iconst dX10_improve_144 ?_
        refine v_iadd dX10_improve_145 ?_
        refine v_istore_n (lv' := [_, _, _, _, _, _]) dX10_improve_146 (Nat.le_of_ble_eq_true rfl) rfl rfl ?_
        refine v_iinc (lv' := [_, _, _, _, _, _]) dX10_improve_147 rfl (Nat.le_of_ble_eq_true rfl) rfl rfl ?_
        refine v_goto (tgt := 119) dX10_improve_150 (by decide) ?_
        rw [hc] at q136
        first
        | (rw [if_pos (Classical.byContradiction (fun z => q136 (cvl.mpr ⟨fun y => z (Or.inl y), fun y => z (Or.inr y)⟩)))] at ih; exact ih _ _)
        | (rw [if_neg (fun z => z.elim (cvl.mp q136).1 (cvl.mp q136).2)] at ih; exact ih _ _)
      · refine v_iconst dX10_improve_140 ?_
        refine v_goto (tgt := 145) dX10_improve_141 (by decide) ?_
        refine v_iadd dX10_improve_145 ?_
        refine v_istore_n (lv' := [_, _, _, _, _, _]) dX10_improve_146 (Nat.le_of_ble_eq_true rfl) rfl rfl ?_
        refine v_iinc (lv' := [_, _, _, _, _, _]) dX10_improve_147 rfl (Nat.le_of_ble_eq_true rfl) rfl rfl ?_
        refine v_goto (tgt := 119) dX10_improve_150 (by decide) ?_
        rw [hc] at q136
        first
        | (rw [if_pos (Classical.byContradiction (fun z => q136 (cvl.mpr ⟨fun y => z (Or.inl y), fun y => z (Or.inr y)⟩)))] at ih; exact ih _ _)
        | (rw [if_neg (fun z => z.elim (cvl.mp q136).1 (cvl.mp q136).2)] at ih; exact ih _ _)
  have K2 : ∀ (j : Nat) (m : Nat) (r : Int), 0 ≤ r → r + m = R → (∀ l3 l4 l5, Vv (d + 3) mX10_improve 109 [.ref 97, .int (iI k), .int (iI j), l3, l4, l5] [] (aF σ 102 (imN (bl9 lf rg) n R (gF σ 102) (j + 1))) (QI P)) → ∀ l4 l5, Vv (d + 3) mX10_improve 23 [.ref 97, .int (iI k), .int (iI j), .int (iI r), l4, l5] [] (aF σ 102 (im1 (bl9 lf rg) n (imN (bl9 lf rg) n R (gF σ 102) j) r.toNat)) (QI P) := by
    intro j m
    induction m with
    | zero =>
      intro r hr hm hend l4 l5
      have cg := c.abt (im1 (bl9 lf rg) n (imN (bl9 lf rg) n R (gF σ 102) j) r.toNat)
      refine v_iload_n dX10_improve_23 rfl ?_
      refine v_aload_n dX10_improve_24 rfl ?_
      refine v_getI (ji := 1) dX10_improve_25 s_97 fX10_119 rfl ?_
      rw [cg.2.1]
      refine v_icmp_ge (tgt := 109) dX10_improve_28 (by decide) (by omega) (fun q28 => ?_) (fun q28 => absurd q28 (by omega))
      have h := hend (.int (iI r)) l4 l5
      rw [imN, show R.toNat = r.toNat by omega] at h
      exact h
    | succ m ih =>
      intro r hr hm hend l4 l5
      have zr : 0 ≤ r ∧ r < R := by omega
      have ok1 := im1_ok6 (n := n) (bl := bl9 lf rg) (ok j) r.toNat (fun s x a b => hb s x a (by omega))
      have ih := ih (r + 1) (by omega) (by omega) hend
      rw [show (r + 1).toNat = r.toNat + 1 by omega, im1, show ((r.toNat : Nat) : Int) = r by omega] at ih
      generalize im1 (bl9 lf rg) n (imN (bl9 lf rg) n R (gF σ 102) j) r.toNat = g at ih ok1 ⊢
      have vg := v.abt ok1
      have cg := c.abt g
      have Kw : FP.fcmp (mg9 (bl9 lf rg r) g n.toNat) 1056964608 = some .lt → ∀ (q : Nat) (x : Int), 0 ≤ x → x + q = n → ∀ l5, Vv (d + 3) mX10_improve 46 [.ref 97, .int (iI k), .int (iI j), .int (iI r), .int (iI x), l5] [] (aF σ 102 (wdA (bl9 lf rg r) x g)) (QI P) := by
        intro hlt q
        rw [if_pos hlt] at ih
        induction q with
        | zero =>
          intro x hx hq l5
          have cw := c.abt (wdA (bl9 lf rg r) x g)
          refine v_iload dX10_improve_46 rfl ?_
          refine v_aload_n dX10_improve_48 rfl ?_
          refine v_getI (ji := 0) dX10_improve_49 s_97 fX10_9 rfl ?_
          rw [cw.1]
          refine v_icmp_ge (tgt := 103) dX10_improve_52 (by decide) (by omega) (fun q52 => ?_) (fun q52 => absurd q52 (by omega))
          refine v_iinc (lv' := [_, _, _, _, _, _]) dX10_improve_103 rfl (Nat.le_of_ble_eq_true rfl) rfl rfl ?_
          refine v_goto (tgt := 23) dX10_improve_106 (by decide) ?_
          rw [show x = n by omega]
          exact ih _ _
        | succ q ihq =>
          intro x hx hq l5
          have okw : ∀ y, 0 ≤ y → y < 6 → apOK (wdA (bl9 lf rg r) x g y) := fun y a b => by
            unfold wdA
            split
            · exact wd9_ok (hb r y hr (by omega)).1 (hb r y hr (by omega)).2 (ok1 y a b)
            · exact ok1 y a b
          have vw := v.abt okw
          have cw := c.abt (wdA (bl9 lf rg r) x g)
          have e0 : gF (aF σ 102 (wdA (bl9 lf rg r) x g)) 102 x = g x := by rw [gF_aF_eq]; exact if_neg (by omega)
          have nn := wd_nn (hb r x hr (by omega)).1 (hb r x hr (by omega)).2 (ok1 x hx (by omega))
          have es : ∀ a, a = wd9 (bl9 lf rg r x) (g x) → sF (aF σ 102 (wdA (bl9 lf rg r) x g)) 102 x a = aF σ 102 (wdA (bl9 lf rg r) (x + 1) g) := by
            intro a ha
            refine S9ext (fun _ => rfl) (fun _ => rfl) (fun k => ?_) (fun _ => rfl)
            by_cases e : k = 102
            · subst e
              rw [gF_aF_eq, gF_aF_eq, gF_aF_eq]
              funext y
              by_cases e2 : y = x
              · subst e2
                rw [up9_eq, ha]
                exact (if_pos (by omega)).symm
              · rw [up9_ne e2]
                unfold wdA
                by_cases e3 : 0 ≤ y ∧ y < x
                · rw [if_pos e3, if_pos (by omega)]
                · rw [if_neg e3, if_neg (by omega)]
            · rw [gF_aF_ne e, gF_aF_ne e, gF_aF_ne e]
          refine v_iload dX10_improve_46 rfl ?_
          refine v_aload_n dX10_improve_48 rfl ?_
          refine v_getI (ji := 0) dX10_improve_49 s_97 fX10_9 rfl ?_
          rw [cw.1]
          refine v_icmp_ge (tgt := 103) dX10_improve_52 (by decide) (by omega) (fun q52 => absurd q52 (by omega)) (fun q52 => ?_)
          refine v_aload_n dX10_improve_55 rfl ?_
          refine v_getR (k1 := 102) dX10_improve_56 s_97 fX10_28 rfl ?_
          refine v_iload dX10_improve_59 rfl ?_
          refine v_faload dX10_improve_61 s_102 (by omega) ?_
          rw [e0]
          refine v_aload_n dX10_improve_62 rfl ?_
          refine v_iload_n dX10_improve_63 rfl ?_
          refine v_iload dX10_improve_64 rfl ?_
          refine v_callVi2 dX10_improve_66 kX10_159 s_97 (Nat.le_of_ble_eq_true rfl) (c_X10_balanceOf vw cw zr (by omega) ?_)
          refine v_i2f dX10_improve_69 ?_
          refine v_ldcfw dX10_improve_70 wX10_258 ?_
          refine v_fmul dX10_improve_73 (fun r73 hr73 => ?_)
          have e73 := al32 hr73 nn.1
          subst e73
          refine v_fadd dX10_improve_74 (fun r74 hr74 => ?_)
          have e74 := al32 hr74 nn.2
          subst e74
          refine v_fstore (lv' := [_, _, _, _, _, _]) dX10_improve_75 (Nat.le_of_ble_eq_true rfl) rfl rfl ?_
          refine v_aload_n dX10_improve_77 rfl ?_
          refine v_getR (k1 := 102) dX10_improve_78 s_97 fX10_28 rfl ?_
          refine v_iload dX10_improve_81 rfl ?_
          refine v_fload dX10_improve_83 rfl ?_
          refine v_fconst0 dX10_improve_85 ?_
          refine v_fcmp_ge (tgt := 94) dX10_improve_86 dX10_improve_87 (by decide) (fun q86 => ?_) (fun q86 => ?_)
          · refine v_fload dX10_improve_94 rfl ?_
            refine v_fastore dX10_improve_96 s_102 (by omega) ?_
            refine v_iinc (lv' := [_, _, _, _, _, _]) dX10_improve_97 rfl (Nat.le_of_ble_eq_true rfl) rfl rfl ?_
            refine v_goto (tgt := 46) dX10_improve_100 (by decide) ?_
            rw [es _ (by first | exact (if_neg (cvg.mp q86)).symm | exact (if_pos (Classical.byContradiction (fun z => q86 (cvg.mpr z)))).symm)]
            exact ihq (x + 1) (by omega) (by omega) _
          · refine v_fconst0 dX10_improve_90 ?_
            refine v_goto (tgt := 96) dX10_improve_91 (by decide) ?_
            refine v_fastore dX10_improve_96 s_102 (by omega) ?_
            refine v_iinc (lv' := [_, _, _, _, _, _]) dX10_improve_97 rfl (Nat.le_of_ble_eq_true rfl) rfl rfl ?_
            refine v_goto (tgt := 46) dX10_improve_100 (by decide) ?_
            rw [es _ (by first | exact (if_neg (cvg.mp q86)).symm | exact (if_pos (Classical.byContradiction (fun z => q86 (cvg.mpr z)))).symm)]
            exact ihq (x + 1) (by omega) (by omega) _
      have w0 : wdA (bl9 lf rg r) 0 g = g := by funext y; exact if_neg (by omega)
      refine v_iload_n dX10_improve_23 rfl ?_
      refine v_aload_n dX10_improve_24 rfl ?_
      refine v_getI (ji := 1) dX10_improve_25 s_97 fX10_119 rfl ?_
      rw [cg.2.1]
      refine v_icmp_ge (tgt := 109) dX10_improve_28 (by decide) (by omega) (fun q28 => absurd q28 (by omega)) (fun q28 => ?_)
      refine v_aload_n dX10_improve_31 rfl ?_
      refine v_iload_n dX10_improve_32 rfl ?_
      refine v_callVf1 dX10_improve_33 kX10_253 s_97 (Nat.le_of_ble_eq_true rfl) (c_X10_marginOf vg cg zr (fun a ha => ?_))
      refine v_ldcfw dX10_improve_36 wX10_257 ?_
      have hc := al32_cmp ha 1056964608
      rw [gF_aF_eq] at hc
      refine v_fcmp_ge (tgt := 103) dX10_improve_39 dX10_improve_40 (by decide) (fun q39 => ?_) (fun q39 => ?_)
      · refine v_iinc (lv' := [_, _, _, _, _, _]) dX10_improve_103 rfl (Nat.le_of_ble_eq_true rfl) rfl rfl ?_
        refine v_goto (tgt := 23) dX10_improve_106 (by decide) ?_
        rw [hc] at q39
        rw [if_neg (cvg.mp q39)] at ih
        exact ih _ _
      · refine v_iconst dX10_improve_43 ?_
        refine v_istore (lv' := [_, _, _, _, _, _]) dX10_improve_44 (Nat.le_of_ble_eq_true rfl) rfl rfl ?_
        rw [hc] at q39
        have h8 := Kw (Classical.byContradiction (fun z => q39 (cvg.mpr z))) n.toNat 0 (by omega) (by omega)
        rw [w0] at h8
        exact h8 _
  have K1 : (1 ≤ k ∧ k ≤ 100) → ∀ (m : Nat) (j : Nat), (j : Int) + m = k → ∀ l3 l4 l5, Vv (d + 3) mX10_improve 16 [.ref 97, .int (iI k), .int (iI j), l3, l4, l5] [] (aF σ 102 (imN (bl9 lf rg) n R (gF σ 102) j)) (QI P) := by
    intro hk2 m
    induction m with
    | zero =>
      intro j hj l3 l4 l5
      refine v_iload_n dX10_improve_16 rfl ?_
      refine v_iload_n dX10_improve_17 rfl ?_
      refine v_icmp_ge (tgt := 115) dX10_improve_18 (by decide) (by omega) (fun q18 => ?_) (fun q18 => absurd q18 (by omega))
      refine v_iconst dX10_improve_115 ?_
      refine v_istore_n (lv' := [_, _, _, _, _, _]) dX10_improve_116 (Nat.le_of_ble_eq_true rfl) rfl rfl ?_
      refine v_iconst dX10_improve_117 ?_
      refine v_istore_n (lv' := [_, _, _, _, _, _]) dX10_improve_118 (Nat.le_of_ble_eq_true rfl) rfl rfl ?_
      have h := K3 _ hk2 rfl R.toNat 0 (by omega) (by omega) l4 l5
      rw [show k.toNat = j by omega] at h
      exact h
    | succ m ih =>
      intro j hj l3 l4 l5
      refine v_iload_n dX10_improve_16 rfl ?_
      refine v_iload_n dX10_improve_17 rfl ?_
      refine v_icmp_ge (tgt := 115) dX10_improve_18 (by decide) (by omega) (fun q18 => absurd q18 (by omega)) (fun q18 => ?_)
      refine v_iconst dX10_improve_21 ?_
      refine v_istore_n (lv' := [_, _, _, _, _, _]) dX10_improve_22 (Nat.le_of_ble_eq_true rfl) rfl rfl ?_
      refine K2 j R.toNat 0 (by omega) (by omega) (fun l3 l4 l5 => ?_) _ _
      refine v_iinc (lv' := [_, _, _, _, _, _]) dX10_improve_109 rfl (Nat.le_of_ble_eq_true rfl) rfl rfl ?_
      refine v_goto (tgt := 16) dX10_improve_112 (by decide) ?_
      exact ih (j + 1) (by omega) l3 l4 l5
  refine v_iload_n dX10_improve_0 rfl ?_
  refine v_i2l dX10_improve_1 (by omega) ?_
  refine v_lconst1 dX10_improve_2 ?_
  refine v_ldc2 dX10_improve_3 wX10_251 ?_
  refine v_callSi3 dX10_improve_6 kX10_115 (Nat.le_of_ble_eq_true rfl) (c_X10_in (by omega) (by omega) (by omega) (fun z => ?_) (fun z => ?_))
  · refine v_if_ne (tgt := 14) dX10_improve_9 (by decide) (by decide) (fun q9 => ?_) (fun q9 => absurd q9 (by decide))
    refine v_iconst dX10_improve_14 ?_
    refine v_istore_n (lv' := [_, _, _, _, _, _]) dX10_improve_15 (Nat.le_of_ble_eq_true rfl) rfl rfl ?_
    have h := K1 (by omega) k.toNat 0 (by omega) .null .null .null
    rw [imN, aF_id] at h
    exact h
  · refine v_if_ne (tgt := 14) dX10_improve_9 (by decide) (by decide) (fun q9 => absurd q9 (by decide)) (fun q9 => ?_)
    refine v_iconst dX10_improve_12 ?_
    exact v_ireturn dX10_improve_13 rfl (h1 (by omega))
end
