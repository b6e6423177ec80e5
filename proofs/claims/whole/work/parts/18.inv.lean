/-! ===== what a state of the class, and of the reference, is ===== -/
def cnt9 (x : Int) (l : List Int) : Int := (l.count x : Nat)
def bal9 (l r : List Int) (x : Int) : Int := cnt9 x l - cnt9 x r
/-- a string over n letters, of at most m -/
def OkL (n : Int) (m : Nat) (xs : List Int) : Prop := (∀ x ∈ xs, 0 ≤ x ∧ x < n) ∧ xs.length ≤ m
/-- an approximate weight: no NaN, not below 0 -/
def apOK (f : UInt32) : Prop := isNaN32 f = false ∧ FP.fcmp f 0 ≠ some .lt
/-- a system's numbers are within their limits -/
def Va (n R : Int) (lf rg : Int → List Int) (wt lev : Int → Int) (stt : Int) (ap : Int → UInt32) (str : List Int) : Prop :=
  (1 ≤ n ∧ n ≤ 6) ∧ (0 ≤ R ∧ R ≤ 8) ∧ (∀ r, 0 ≤ r → r < R → OkL n 6 (lf r) ∧ 1 ≤ (lf r).length ∧ OkL n 6 (rg r)) ∧ (∀ x, 0 ≤ x → x < 8 → (0 ≤ wt x ∧ wt x ≤ 99) ∧ (0 ≤ lev x ∧ lev x ≤ 9) ∧ apOK (ap x)) ∧ (0 ≤ stt ∧ stt ≤ 1) ∧ OkL n 12 str
/-- the class's system at cell o: 1 now, 16 saved -/
def SyC (σ : S9) (o : Nat) (n R : Int) (lf rg : Int → List Int) (wt lev : Int → Int) (stt : Int) (ap : Int → UInt32) (str : List Int) : Prop :=
  gI σ o 0 = n ∧ gI σ o 1 = R ∧ gI σ o 7 = stt ∧ gL σ o 9 = encW str ∧
  (∀ r, 0 ≤ r → r < R → gL σ (o + 1) r = encW (lf r) ∧ gL σ (o + 2) r = encW (rg r) ∧ ∀ x, 0 ≤ x → x < 8 → gI σ (o + 4 + r.toNat) x = bal9 (lf r) (rg r) x) ∧
  (∀ x, 0 ≤ x → x < 8 → gI σ (o + 12) x = wt x ∧ gI σ (o + 13) x = lev x ∧ gF σ (o + 14) x = ap x)
/-- the reference's system: the places of its fields and rows -/
def SyM (σ : S9) (fn fR fs fz : Int) (aS aD aW aV aA aT : Nat) (n R : Int) (lf rg : Int → List Int) (wt lev : Int → Int) (stt : Int) (ap : Int → UInt32) (str : List Int) : Prop :=
  gI σ 97 fn = n ∧ gI σ 97 fR = R ∧ gI σ 97 fs = stt ∧ gI σ 97 fz = str.length ∧
  (∀ r, 0 ≤ r → r < R → gI σ aS (2 * r) = (lf r).length ∧ gI σ aS (2 * r + 1) = (rg r).length ∧ (∀ k, 0 ≤ k → k < (lf r).length → gI σ aD (12 * r + k) = at9 (lf r) k) ∧ ∀ k, 0 ≤ k → k < (rg r).length → gI σ aD (12 * r + 6 + k) = at9 (rg r) k) ∧
  (∀ x, 0 ≤ x → x < 6 → gI σ aW x = wt x ∧ gI σ aV x = lev x ∧ gF σ aA x = ap x) ∧
  (∀ k, 0 ≤ k → k < str.length → gI σ aT k = at9 str k)
abbrev SyMn (σ : S9) := SyM σ 0 1 6 11 98 99 100 101 102 104
abbrev SyMs (σ : S9) := SyM σ 21 22 27 30 112 113 114 115 116 117
/-- the input: c bytes f, in the class and in the reference -/
def InC (σ : S9) (c : Int) (f : Int → Int) : Prop := gI σ 31 0 = c ∧ ∀ j, 0 ≤ j → j < c → gI σ 32 j = f j
def InM (σ : S9) (c : Int) (f : Int → Int) : Prop := gI σ 97 9 = c ∧ ∀ j, 0 ≤ j → j < c → gI σ 103 j = f j
def InV (c : Int) (f : Int → Int) : Prop := (0 ≤ c ∧ c ≤ 40) ∧ ∀ j, 0 ≤ j → j < c → 0 ≤ f j ∧ f j ≤ 127
/-- the stored loop -/
def LoC (σ : S9) (c : Int) (f g : Int → Int) : Prop := gI σ 33 0 = c ∧ ∀ j, 0 ≤ j → j < c → gI σ 34 j = f j ∧ gI σ 35 j = g j
def LoM (σ : S9) (c : Int) (f g : Int → Int) : Prop := gI σ 97 12 = c ∧ ∀ j, 0 ≤ j → j < c → gI σ 105 j = f j ∧ gI σ 106 j = g j
def LoV (c : Int) (f g : Int → Int) : Prop := (0 ≤ c ∧ c ≤ 200) ∧ ∀ j, 0 ≤ j → j < c → (0 ≤ f j ∧ f j ≤ 8) ∧ (0 ≤ g j ∧ g j ≤ 12)
/-- a float (double) of the class, and the reference's: the same number, or zeros (and the reference's perhaps a NaN) -/
def z32 (x : UInt32) : Prop := x &&& 0x7fffffff = 0
def z64 (x : UInt64) : Prop := x &&& 0x7fffffffffffffff = 0
def fs32 (x y : UInt32) : Prop := (x = y ∧ isNaN32 x = false) ∨ (z32 x ∧ (z32 y ∨ isNaN32 y = true))
def fs64 (x y : UInt64) : Prop := (x = y ∧ isNaN64 x = false) ∨ (z64 x ∧ (z64 y ∨ isNaN64 y = true))
/-- slot i: the class's and the reference's -/
def Slt (σ : S9) (i : Nat) : Prop :=
  gI σ (81 + 4 * i) 0 = gI σ 107 i ∧ (-1 ≤ gI σ 107 i ∧ gI σ 107 i ≤ 3) ∧ (gI σ 107 i = -1 → gI σ (81 + 4 * i) 1 = 0) ∧ (gI σ 107 i ≠ -1 → gI σ (81 + 4 * i) 1 = gI σ 108 i) ∧ (0 ≤ gI σ (81 + 4 * i) 1 ∧ gI σ (81 + 4 * i) 1 ≤ 40) ∧
  ((gI σ 107 i = 0 ∨ gI σ 107 i = 1) → ∀ j, 0 ≤ j → j < 40 → gL σ (82 + 4 * i) j = gL σ 109 (40 * i + j) ∧ (-9223372036854775808 ≤ gL σ (82 + 4 * i) j ∧ gL σ (82 + 4 * i) j < 9223372036854775808)) ∧
  (gI σ 107 i = 0 → ∀ j, 0 ≤ j → j < 40 → -2147483648 ≤ gL σ (82 + 4 * i) j ∧ gL σ (82 + 4 * i) j < 2147483648) ∧
  (gI σ 107 i = 2 → ∀ j, 0 ≤ j → j < 40 → fs32 (gF σ (83 + 4 * i) j) (gF σ 110 (40 * i + j))) ∧
  (gI σ 107 i = 3 → ∀ j, 0 ≤ j → j < 40 → fs64 (gD σ (84 + 4 * i) j) (gD σ 111 (40 * i + j)))
/-- the snapshot -/
def Snp (σ : S9) : Prop := gI σ 0 2 = gI σ 97 20 ∧ (gI σ 0 2 = 0 ∨ gI σ 0 2 = 1) ∧ (gI σ 0 2 = 1 → ∃ n R lf rg wt lev stt ap str, Va n R lf rg wt lev stt ap str ∧ SyC σ 16 n R lf rg wt lev stt ap str ∧ SyMs σ n R lf rg wt lev stt ap str)
def Sys (σ : S9) : Prop := ∃ n R lf rg wt lev stt ap str, Va n R lf rg wt lev stt ap str ∧ SyC σ 1 n R lf rg wt lev stt ap str ∧ SyMn σ n R lf rg wt lev stt ap str
def Inp (σ : S9) : Prop := ∃ c f, InV c f ∧ InC σ c f ∧ InM σ c f
def Lop (σ : S9) : Prop := ∃ c f g, LoV c f g ∧ LoC σ c f g ∧ LoM σ c f g
def Inv (σ : S9) : Prop := Sys σ ∧ Inp σ ∧ Lop σ ∧ (∀ i : Nat, i < 4 → Slt σ i) ∧ Snp σ
/-! ===== what depends on what ===== -/
def eq9 (S : Nat → Prop) (σ σ' : S9) : Prop := ∀ k, S k → gI σ' k = gI σ k ∧ gL σ' k = gL σ k ∧ gF σ' k = gF σ k ∧ gD σ' k = gD σ k
theorem eq9.rf {S : Nat → Prop} {σ : S9} : eq9 S σ σ := fun _ _ => ⟨rfl, rfl, rfl, rfl⟩
theorem eq9.tr {S : Nat → Prop} {a b c : S9} (h1 : eq9 S a b) (h2 : eq9 S b c) : eq9 S a c := fun k hk => ⟨(h2 k hk).1.trans (h1 k hk).1, (h2 k hk).2.1.trans (h1 k hk).2.1, (h2 k hk).2.2.1.trans (h1 k hk).2.2.1, (h2 k hk).2.2.2.trans (h1 k hk).2.2.2⟩
theorem eq9.mono {S T : Nat → Prop} {a b : S9} (h : eq9 S a b) (hT : ∀ k, T k → S k) : eq9 T a b := fun k hk => h k (hT k hk)
theorem eq9.aI {S : Nat → Prop} {σ : S9} {k : Nat} {f : Int → Int} (h : ¬ S k) : eq9 S σ (aI σ k f) := fun j hj => ⟨gI_aI_ne (fun e => h (e ▸ hj)), rfl, rfl, rfl⟩
theorem eq9.aL {S : Nat → Prop} {σ : S9} {k : Nat} {f : Int → Int} (h : ¬ S k) : eq9 S σ (aL σ k f) := fun j hj => ⟨rfl, gL_aL_ne (fun e => h (e ▸ hj)), rfl, rfl⟩
theorem eq9.aF {S : Nat → Prop} {σ : S9} {k : Nat} {f : Int → UInt32} (h : ¬ S k) : eq9 S σ (aF σ k f) := fun j hj => ⟨rfl, rfl, gF_aF_ne (fun e => h (e ▸ hj)), rfl⟩
theorem eq9.aD {S : Nat → Prop} {σ : S9} {k : Nat} {f : Int → UInt64} (h : ¬ S k) : eq9 S σ (aD σ k f) := fun j hj => ⟨rfl, rfl, rfl, gD_aD_ne (fun e => h (e ▸ hj))⟩
theorem SyC.eq {σ σ' : S9} {o : Nat} {n R : Int} {lf rg : Int → List Int} {wt lev : Int → Int} {stt : Int} {ap : Int → UInt32} {str : List Int} (h : SyC σ o n R lf rg wt lev stt ap str) (hR : R ≤ 8) (he : eq9 (fun k => o ≤ k ∧ k ≤ o + 14) σ σ') : SyC σ' o n R lf rg wt lev stt ap str := by
  obtain ⟨h1, h2, h3, h4, h5, h6⟩ := h
  have e : ∀ k, o ≤ k → k ≤ o + 14 → gI σ' k = gI σ k ∧ gL σ' k = gL σ k ∧ gF σ' k = gF σ k ∧ gD σ' k = gD σ k := fun k a b => he k ⟨a, b⟩
  refine ⟨?_, ?_, ?_, ?_, fun r r0 r1 => ?_, fun x x0 x1 => ?_⟩
  · rw [(e o (by omega) (by omega)).1]; exact h1
  · rw [(e o (by omega) (by omega)).1]; exact h2
  · rw [(e o (by omega) (by omega)).1]; exact h3
  · rw [(e o (by omega) (by omega)).2.1]; exact h4
  · rw [(e (o + 1) (by omega) (by omega)).2.1, (e (o + 2) (by omega) (by omega)).2.1, (e (o + 4 + r.toNat) (by omega) (by omega)).1]
    exact h5 r r0 r1
  · rw [(e (o + 12) (by omega) (by omega)).1, (e (o + 13) (by omega) (by omega)).1, (e (o + 14) (by omega) (by omega)).2.2.1]
    exact h6 x x0 x1
theorem SyM.eq {σ σ' : S9} {fn fR fs fz : Int} {aS aD aW aV aA aT : Nat} {n R : Int} {lf rg : Int → List Int} {wt lev : Int → Int} {stt : Int} {ap : Int → UInt32} {str : List Int} (h : SyM σ fn fR fs fz aS aD aW aV aA aT n R lf rg wt lev stt ap str) (he : eq9 (fun k => k = 97 ∨ k = aS ∨ k = aD ∨ k = aW ∨ k = aV ∨ k = aA ∨ k = aT) σ σ') : SyM σ' fn fR fs fz aS aD aW aV aA aT n R lf rg wt lev stt ap str := by
  have e0 := he 97 (by simp)
  have e1 := he aS (by simp)
  have e2 := he aD (by simp)
  have e3 := he aW (by simp)
  have e4 := he aV (by simp)
  have e5 := he aA (by simp)
  have e6 := he aT (by simp)
  unfold SyM
  rw [e0.1, e1.1, e2.1, e3.1, e4.1, e5.2.2.1, e6.1]
  exact h
theorem InC.eq {σ σ' : S9} {c : Int} {f : Int → Int} (h : InC σ c f) (he : eq9 (fun k => k = 31 ∨ k = 32) σ σ') : InC σ' c f := by
  unfold InC
  rw [(he 31 (by simp)).1, (he 32 (by simp)).1]
  exact h
theorem InM.eq {σ σ' : S9} {c : Int} {f : Int → Int} (h : InM σ c f) (he : eq9 (fun k => k = 97 ∨ k = 103) σ σ') : InM σ' c f := by
  unfold InM
  rw [(he 97 (by simp)).1, (he 103 (by simp)).1]
  exact h
theorem LoC.eq {σ σ' : S9} {c : Int} {f g : Int → Int} (h : LoC σ c f g) (he : eq9 (fun k => k = 33 ∨ k = 34 ∨ k = 35) σ σ') : LoC σ' c f g := by
  unfold LoC
  rw [(he 33 (by simp)).1, (he 34 (by simp)).1, (he 35 (by simp)).1]
  exact h
theorem LoM.eq {σ σ' : S9} {c : Int} {f g : Int → Int} (h : LoM σ c f g) (he : eq9 (fun k => k = 97 ∨ k = 105 ∨ k = 106) σ σ') : LoM σ' c f g := by
  unfold LoM
  rw [(he 97 (by simp)).1, (he 105 (by simp)).1, (he 106 (by simp)).1]
  exact h
theorem Slt.eq {σ σ' : S9} {i : Nat} (hi : i < 4) (h : Slt σ i) (he : eq9 (fun k => (81 ≤ k ∧ k ≤ 96) ∨ (107 ≤ k ∧ k ≤ 111)) σ σ') : Slt σ' i := by
  unfold Slt
  rw [(he (81 + 4 * i) (by omega)).1, (he 107 (by omega)).1, (he 108 (by omega)).1, (he (82 + 4 * i) (by omega)).2.1, (he 109 (by omega)).2.1, (he (83 + 4 * i) (by omega)).2.2.1, (he 110 (by omega)).2.2.1, (he (84 + 4 * i) (by omega)).2.2.2, (he 111 (by omega)).2.2.2]
  exact h
theorem Snp.eq {σ σ' : S9} (h : Snp σ) (h0 : gI σ' 0 2 = gI σ 0 2) (h97 : gI σ' 97 = gI σ 97) (he : eq9 (fun k => (16 ≤ k ∧ k ≤ 30) ∨ (112 ≤ k ∧ k ≤ 117)) σ σ') : Snp σ' := by
  obtain ⟨h1, h2, h3⟩ := h
  refine ⟨by rw [h0, h97]; exact h1, by rw [h0]; exact h2, fun q => ?_⟩
  rw [h0] at q
  obtain ⟨n, R, lf, rg, wt, lev, stt, ap, str, v, c, m⟩ := h3 q
  refine ⟨n, R, lf, rg, wt, lev, stt, ap, str, v, c.eq v.2.1.2 (he.mono (fun k hk => by omega)), ?_⟩
  unfold SyMs SyM at m ⊢
  rw [h97, (he 112 (by omega)).1, (he 113 (by omega)).1, (he 114 (by omega)).1, (he 115 (by omega)).1, (he 116 (by omega)).2.2.1, (he 117 (by omega)).1]
  exact m
theorem OkL.st {n : Int} {m : Nat} {xs : List Int} (h : OkL n m xs) (hn : n ≤ 8) (hm : m ≤ 12) : St xs := ⟨fun x hx => ⟨(h.1 x hx).1, by have := (h.1 x hx).2; omega⟩, by have := h.2; omega⟩
section
variable {n R : Int} {lf rg : Int → List Int} {wt lev : Int → Int} {stt : Int} {ap : Int → UInt32} {str : List Int} {σ : S9}
theorem Va.st (v : Va n R lf rg wt lev stt ap str) : St str := v.2.2.2.2.2.st (by have := v.1; omega) (by decide)
theorem Va.sl (v : Va n R lf rg wt lev stt ap str) {r : Int} (h : 0 ≤ r ∧ r < R) : St (lf r) := (v.2.2.1 r h.1 h.2).1.st (by have := v.1; omega) (by decide)
theorem Va.sr (v : Va n R lf rg wt lev stt ap str) {r : Int} (h : 0 ≤ r ∧ r < R) : St (rg r) := (v.2.2.1 r h.1 h.2).2.2.st (by have := v.1; omega) (by decide)
theorem SyC.w (c : SyC σ 1 n R lf rg wt lev stt ap str) (v : Va n R lf rg wt lev stt ap str) : ∀ x, 0 ≤ x → x < 8 → 0 ≤ gI σ 13 x ∧ gI σ 13 x ≤ 99 := fun x a b => by
  have h1 := (c.2.2.2.2.2 x a b).1
  have h2 := (v.2.2.2.1 x a b).1
  rw [show gI σ 13 x = wt x from h1]
  exact h2
theorem SyC.v (c : SyC σ 1 n R lf rg wt lev stt ap str) (v : Va n R lf rg wt lev stt ap str) : ∀ x, 0 ≤ x → x < 8 → 0 ≤ gI σ 14 x ∧ gI σ 14 x ≤ 9 := fun x a b => by
  have h1 := (c.2.2.2.2.2 x a b).2.1
  have h2 := (v.2.2.2.1 x a b).2.1
  rw [show gI σ 14 x = lev x from h1]
  exact h2
theorem SyC.s (c : SyC σ 1 n R lf rg wt lev stt ap str) (v : Va n R lf rg wt lev stt ap str) : 0 ≤ gI σ 1 7 ∧ gI σ 1 7 ≤ 1 := by rw [c.2.2.1]; exact v.2.2.2.2.1
theorem SyC.l (c : SyC σ 1 n R lf rg wt lev stt ap str) {r : Int} (h : 0 ≤ r ∧ r < R) : gL σ 2 r = encW (lf r) := (c.2.2.2.2.1 r h.1 h.2).1
theorem SyC.r (c : SyC σ 1 n R lf rg wt lev stt ap str) {r : Int} (h : 0 ≤ r ∧ r < R) : gL σ 3 r = encW (rg r) := (c.2.2.2.2.1 r h.1 h.2).2.1
end
theorem wt9_congr {f g : Int → Int} {xs : List Int} (h : ∀ x ∈ xs, f x = g x) : wt9 f xs = wt9 g xs := by unfold wt9; rw [List.map_congr_left h]
theorem fr9_in {n : Int} {xs : List Int} (h : ∀ x ∈ xs, 0 ≤ x ∧ x < n) (stt : Int) {k : Int} (hk : 0 ≤ k ∧ k < xs.length) : 0 ≤ fr9 stt xs k ∧ fr9 stt xs k < n := by
  unfold fr9
  split
  · exact h _ (at9_mem hk)
  · exact h _ (at9_mem (by omega))
theorem dif9_congr {f g : Int → Int} {n : Int} (hfg : ∀ x, 0 ≤ x → x < n → f x = g x) {a b : List Int} (ha : ∀ x ∈ a, 0 ≤ x ∧ x < n) (hb : ∀ x ∈ b, 0 ≤ x ∧ x < n) (stt : Int) : ∀ (m : Nat) (k : Int), 0 ≤ k → k + m ≤ a.length → k + m ≤ b.length → dif9 f stt a b m k = dif9 g stt a b m k
  | 0, _, _, _, _ => rfl
  | m + 1, k, h0, h1, h2 => by
    unfold dif9
    have e1 := fr9_in ha stt (k := k) (by omega)
    have e2 := fr9_in hb stt (k := k) (by omega)
    rw [hfg _ e1.1 e1.2, hfg _ e2.1 e2.2, dif9_congr hfg ha hb stt m (k + 1) (by omega) (by omega) (by omega)]
theorem cmp9_congr {w w' v v' : Int → Int} {n : Int} (hw : ∀ x, 0 ≤ x → x < n → w x = w' x) (hv : ∀ x, 0 ≤ x → x < n → v x = v' x) {a b : List Int} (ha : ∀ x ∈ a, 0 ≤ x ∧ x < n) (hb : ∀ x ∈ b, 0 ≤ x ∧ x < n) (stt : Int) : cmp9 w v stt a b = cmp9 w' v' stt a b := by
  unfold cmp9
  rw [wt9_congr (fun x hx => hw x (ha x hx).1 (ha x hx).2), wt9_congr (fun x hx => hw x (hb x hx).1 (hb x hx).2), dif9_congr hv ha hb stt _ 0 (by omega) (by omega) (by omega)]
theorem zc9_congr {f g : Int → Int} : ∀ k : Nat, (∀ x : Int, 0 ≤ x → x < k → f x = g x) → zc9 f k = zc9 g k
  | 0, _ => rfl
  | k + 1, h => by
    unfold zc9
    rw [zc9_congr k (fun x a b => h x a (by omega)), h k (by omega) (by omega)]
theorem adm9_congr {w w' v v' : Int → Int} {n : Int} (hw : ∀ x, 0 ≤ x → x < n → w x = w' x) (hv : ∀ x, 0 ≤ x → x < n → v x = v' x) : adm9 w v n ↔ adm9 w' v' n := by
  have key : ∀ {w w' v v' : Int → Int}, (∀ x, 0 ≤ x → x < n → w x = w' x) → (∀ x, 0 ≤ x → x < n → v x = v' x) → adm9 w v n → adm9 w' v' n := by
    intro w w' v v' hw hv h
    unfold adm9 at *
    have e := zc9_congr (f := w) (g := w') n.toNat (fun x a b => hw x a (by omega))
    rw [← e]
    rcases h with h | ⟨h1, h2⟩
    · exact Or.inl h
    · refine Or.inr ⟨h1, fun x a b c y d e f => ?_⟩
      rw [← hv x a b, ← hv y d e]
      exact h2 x a b (by rw [hw x a b]; exact c) y d e f
  exact ⟨key hw hv, key (fun x a b => (hw x a b).symm) (fun x a b => (hv x a b).symm)⟩
