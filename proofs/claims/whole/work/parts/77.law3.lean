theorem and63 (x : Int32) : ∃ w : Int, x &&& iI 63 = iI w ∧ 0 ≤ w ∧ w ≤ 63 := by
  refine ⟨(x &&& iI 63).toInt, (iI_of _).symm, ?_⟩
  have e : (x &&& iI 63).toInt = (x.toBitVec &&& 63#32).toInt := rfl
  have h1 : (x.toBitVec &&& 63#32).toNat ≤ 63 := by
    rw [BitVec.toNat_and]
    exact Nat.and_le_right
  rw [e, BitVec.toInt_eq_toNat_of_lt (by omega)]
  omega
section
variable {γ : G9} {p : Program} {l : Launch} {e : Env} {s : State} {m : MethodId} {below : List Frame} {meth : Method} {c : Code} {bs L : Nat} {xs : Nat → Int32} {ce sl pc : Nat} {lv lv' st stk As : List Value} {σ : S9}
theorem l_qi0 {mj : MI} {idx ci k0 : Nat} {P : Int → S9 → Prop} (C : LC γ p s m meth c bs L xs ce sl) (hd : decode cL_law pc = .ok (.invokevirtual idx, 3)) (hk : lkV R_law idx ci mj 0) (hs9 : sh9 k0 0 ci) (hW : (st.map Value.category).sum ≤ 8) (h : Cc 8 mj [.ref k0] σ (QI P)) (kk : ∀ z σ', P z σ' → Lv γ p l e s m below meth c bs ce sl (pc + 3) lv (.int (iI z) :: st) σ') : Lv γ p l e s m below meth c bs ce sl pc lv (.ref k0 :: st) σ := callL9 C hd hk hs9 (As := []) rfl rfl hW h (fun r σ' hq => by obtain ⟨z, hr, hp⟩ := hq; subst hr; exact kk z σ' hp)
theorem l_qi1 {mj : MI} {idx ci k0 : Nat} {P : Int → S9 → Prop} {a0 : Value} (C : LC γ p s m meth c bs L xs ce sl) (hd : decode cL_law pc = .ok (.invokevirtual idx, 3)) (hk : lkV R_law idx ci mj 1) (hs9 : sh9 k0 0 ci) (hW : (st.map Value.category).sum ≤ 8) (h : Cc 8 mj [.ref k0, a0] σ (QI P)) (kk : ∀ z σ', P z σ' → Lv γ p l e s m below meth c bs ce sl (pc + 3) lv (.int (iI z) :: st) σ') : Lv γ p l e s m below meth c bs ce sl pc lv (a0 :: .ref k0 :: st) σ := callL9 C hd hk hs9 (As := [a0]) rfl rfl hW h (fun r σ' hq => by obtain ⟨z, hr, hp⟩ := hq; subst hr; exact kk z σ' hp)
theorem l_qi2 {mj : MI} {idx ci k0 : Nat} {P : Int → S9 → Prop} {a0 a1 : Value} (C : LC γ p s m meth c bs L xs ce sl) (hd : decode cL_law pc = .ok (.invokevirtual idx, 3)) (hk : lkV R_law idx ci mj 2) (hs9 : sh9 k0 0 ci) (hW : (st.map Value.category).sum ≤ 8) (h : Cc 8 mj [.ref k0, a0, a1] σ (QI P)) (kk : ∀ z σ', P z σ' → Lv γ p l e s m below meth c bs ce sl (pc + 3) lv (.int (iI z) :: st) σ') : Lv γ p l e s m below meth c bs ce sl pc lv (a1 :: a0 :: .ref k0 :: st) σ := callL9 C hd hk hs9 (As := [a0, a1]) rfl rfl hW h (fun r σ' hq => by obtain ⟨z, hr, hp⟩ := hq; subst hr; exact kk z σ' hp)
theorem l_qi3 {mj : MI} {idx ci k0 : Nat} {P : Int → S9 → Prop} {a0 a1 a2 : Value} (C : LC γ p s m meth c bs L xs ce sl) (hd : decode cL_law pc = .ok (.invokevirtual idx, 3)) (hk : lkV R_law idx ci mj 3) (hs9 : sh9 k0 0 ci) (hW : (st.map Value.category).sum ≤ 8) (h : Cc 8 mj [.ref k0, a0, a1, a2] σ (QI P)) (kk : ∀ z σ', P z σ' → Lv γ p l e s m below meth c bs ce sl (pc + 3) lv (.int (iI z) :: st) σ') : Lv γ p l e s m below meth c bs ce sl pc lv (a2 :: a1 :: a0 :: .ref k0 :: st) σ := callL9 C hd hk hs9 (As := [a0, a1, a2]) rfl rfl hW h (fun r σ' hq => by obtain ⟨z, hr, hp⟩ := hq; subst hr; exact kk z σ' hp)
theorem l_qi4 {mj : MI} {idx ci k0 : Nat} {P : Int → S9 → Prop} {a0 a1 a2 a3 : Value} (C : LC γ p s m meth c bs L xs ce sl) (hd : decode cL_law pc = .ok (.invokevirtual idx, 3)) (hk : lkV R_law idx ci mj 4) (hs9 : sh9 k0 0 ci) (hW : (st.map Value.category).sum ≤ 8) (h : Cc 8 mj [.ref k0, a0, a1, a2, a3] σ (QI P)) (kk : ∀ z σ', P z σ' → Lv γ p l e s m below meth c bs ce sl (pc + 3) lv (.int (iI z) :: st) σ') : Lv γ p l e s m below meth c bs ce sl pc lv (a3 :: a2 :: a1 :: a0 :: .ref k0 :: st) σ := callL9 C hd hk hs9 (As := [a0, a1, a2, a3]) rfl rfl hW h (fun r σ' hq => by obtain ⟨z, hr, hp⟩ := hq; subst hr; exact kk z σ' hp)
theorem l_qi5 {mj : MI} {idx ci k0 : Nat} {P : Int → S9 → Prop} {a0 a1 a2 a3 a4 : Value} (C : LC γ p s m meth c bs L xs ce sl) (hd : decode cL_law pc = .ok (.invokevirtual idx, 3)) (hk : lkV R_law idx ci mj 5) (hs9 : sh9 k0 0 ci) (hW : (st.map Value.category).sum ≤ 8) (h : Cc 8 mj [.ref k0, a0, a1, a2, a3, a4] σ (QI P)) (kk : ∀ z σ', P z σ' → Lv γ p l e s m below meth c bs ce sl (pc + 3) lv (.int (iI z) :: st) σ') : Lv γ p l e s m below meth c bs ce sl pc lv (a4 :: a3 :: a2 :: a1 :: a0 :: .ref k0 :: st) σ := callL9 C hd hk hs9 (As := [a0, a1, a2, a3, a4]) rfl rfl hW h (fun r σ' hq => by obtain ⟨z, hr, hp⟩ := hq; subst hr; exact kk z σ' hp)
theorem l_ql0 {mj : MI} {idx ci k0 : Nat} {P : Int → S9 → Prop} (C : LC γ p s m meth c bs L xs ce sl) (hd : decode cL_law pc = .ok (.invokevirtual idx, 3)) (hk : lkV R_law idx ci mj 0) (hs9 : sh9 k0 0 ci) (hW : (st.map Value.category).sum ≤ 8) (h : Cc 8 mj [.ref k0] σ (QL P)) (kk : ∀ z σ', P z σ' → Lv γ p l e s m below meth c bs ce sl (pc + 3) lv (.long (lI z) :: st) σ') : Lv γ p l e s m below meth c bs ce sl pc lv (.ref k0 :: st) σ := callL9 C hd hk hs9 (As := []) rfl rfl hW h (fun r σ' hq => by obtain ⟨z, hr, hp⟩ := hq; subst hr; exact kk z σ' hp)
theorem l_ql1 {mj : MI} {idx ci k0 : Nat} {P : Int → S9 → Prop} {a0 : Value} (C : LC γ p s m meth c bs L xs ce sl) (hd : decode cL_law pc = .ok (.invokevirtual idx, 3)) (hk : lkV R_law idx ci mj 1) (hs9 : sh9 k0 0 ci) (hW : (st.map Value.category).sum ≤ 8) (h : Cc 8 mj [.ref k0, a0] σ (QL P)) (kk : ∀ z σ', P z σ' → Lv γ p l e s m below meth c bs ce sl (pc + 3) lv (.long (lI z) :: st) σ') : Lv γ p l e s m below meth c bs ce sl pc lv (a0 :: .ref k0 :: st) σ := callL9 C hd hk hs9 (As := [a0]) rfl rfl hW h (fun r σ' hq => by obtain ⟨z, hr, hp⟩ := hq; subst hr; exact kk z σ' hp)
theorem l_ql2 {mj : MI} {idx ci k0 : Nat} {P : Int → S9 → Prop} {a0 a1 : Value} (C : LC γ p s m meth c bs L xs ce sl) (hd : decode cL_law pc = .ok (.invokevirtual idx, 3)) (hk : lkV R_law idx ci mj 2) (hs9 : sh9 k0 0 ci) (hW : (st.map Value.category).sum ≤ 8) (h : Cc 8 mj [.ref k0, a0, a1] σ (QL P)) (kk : ∀ z σ', P z σ' → Lv γ p l e s m below meth c bs ce sl (pc + 3) lv (.long (lI z) :: st) σ') : Lv γ p l e s m below meth c bs ce sl pc lv (a1 :: a0 :: .ref k0 :: st) σ := callL9 C hd hk hs9 (As := [a0, a1]) rfl rfl hW h (fun r σ' hq => by obtain ⟨z, hr, hp⟩ := hq; subst hr; exact kk z σ' hp)
theorem law_next {i : Int} (C : LC γ p s m meth c bs L xs ce sl) (J : J9 σ) (K : ∀ σ', J9 σ' → Lv γ p l e s m below meth c bs ce sl 18 [.ref 130, .ref 0, .ref 97, .int (iI (i + 6))] [] σ') : Lv γ p l e s m below meth c bs ce sl 1373 [.ref 130, .ref 0, .ref 97, .int (iI i)] [] σ := by
  refine l_iinc (lv' := [_, _, _, _]) C dL_law_1373 rfl (Nat.le_of_ble_eq_true rfl) rfl rfl ?_
  exact l_goto (tgt := 18) C dL_law_1376 (by decide) (K σ J)
theorem r64 (x : Int64) : -9223372036854775808 ≤ x.toInt ∧ x.toInt < 9223372036854775808 := by
  have h1 := Int64.le_toInt x
  have h2 := Int64.toInt_lt x
  omega
theorem law_case0 {i : Int} (C : LC γ p s m meth c bs L xs ce sl) (J : J9 σ) (hi : 0 ≤ i ∧ i + 6 ≤ L) (K : ∀ σ', J9 σ' → Lv γ p l e s m below meth c bs ce sl 18 [.ref 130, .ref 0, .ref 97, .int (iI (i + 6))] [] σ') : Lv γ p l e s m below meth c bs ce sl 232 [.ref 130, .ref 0, .ref 97, .int (iI i)] [] σ := by
  refine l_aload_n C dL_law_232 rfl ?_
  refine l_aload_n C dL_law_233 rfl ?_
  refine l_iload_n C dL_law_234 rfl ?_
  refine l_iconst C dL_law_235 ?_
  refine l_iadd C dL_law_236 ?_
  refine l_sld C dL_law_237 (by omega) ?_
  refine l_qi1 C dL_law_238 kL_13 s_0 (Nat.le_of_ble_eq_true rfl) (pr_reset J (scr9_bd _ _)) (fun u1 σ1 h1 => ?_)
  refine l_aload_n C dL_law_241 rfl ?_
  refine l_aload_n C dL_law_242 rfl ?_
  refine l_iload_n C dL_law_243 rfl ?_
  refine l_iconst C dL_law_244 ?_
  refine l_iadd C dL_law_245 ?_
  refine l_sld C dL_law_246 (by omega) ?_
  refine l_qi1 C dL_law_247 kL_17 s_97 (Nat.le_of_ble_eq_true rfl) h1 (fun u2 σ2 h2 => ?_)
  obtain ⟨rfl, J2⟩ := h2
  refine l_same (tgt := 1373) C dL_law_250 (by decide) ?_
  exact law_next C J2 K
theorem law_case1 {i : Int} (C : LC γ p s m meth c bs L xs ce sl) (J : J9 σ) (hi : 0 ≤ i ∧ i + 6 ≤ L) (K : ∀ σ', J9 σ' → Lv γ p l e s m below meth c bs ce sl 18 [.ref 130, .ref 0, .ref 97, .int (iI (i + 6))] [] σ') : Lv γ p l e s m below meth c bs ce sl 255 [.ref 130, .ref 0, .ref 97, .int (iI i)] [] σ := by
  refine l_aload_n C dL_law_255 rfl ?_
  refine l_qi0 C dL_law_256 kL_18 s_0 (Nat.le_of_ble_eq_true rfl) (pr_letters J) (fun u1 σ1 h1 => ?_)
  refine l_aload_n C dL_law_259 rfl ?_
  refine l_qi0 C dL_law_260 kL_22 s_97 (Nat.le_of_ble_eq_true rfl) h1 (fun u2 σ2 h2 => ?_)
  obtain ⟨rfl, J2⟩ := h2
  refine l_same (tgt := 1373) C dL_law_263 (by decide) ?_
  exact law_next C J2 K
theorem law_case2 {i : Int} (C : LC γ p s m meth c bs L xs ce sl) (J : J9 σ) (hi : 0 ≤ i ∧ i + 6 ≤ L) (K : ∀ σ', J9 σ' → Lv γ p l e s m below meth c bs ce sl 18 [.ref 130, .ref 0, .ref 97, .int (iI (i + 6))] [] σ') : Lv γ p l e s m below meth c bs ce sl 268 [.ref 130, .ref 0, .ref 97, .int (iI i)] [] σ := by
  refine l_aload_n C dL_law_268 rfl ?_
  refine l_aload_n C dL_law_269 rfl ?_
  refine l_iload_n C dL_law_270 rfl ?_
  refine l_iconst C dL_law_271 ?_
  refine l_iadd C dL_law_272 ?_
  refine l_sld C dL_law_273 (by omega) ?_
  refine l_aload_n C dL_law_274 rfl ?_
  refine l_iload_n C dL_law_275 rfl ?_
  refine l_iconst C dL_law_276 ?_
  refine l_iadd C dL_law_277 ?_
  refine l_sld C dL_law_278 (by omega) ?_
  refine l_qi2 C dL_law_279 kL_23 s_0 (Nat.le_of_ble_eq_true rfl) (pr_append J (scr9_bd _ _) (scr9_bd _ _)) (fun u1 σ1 h1 => ?_)
  refine l_aload_n C dL_law_282 rfl ?_
  refine l_aload_n C dL_law_283 rfl ?_
  refine l_iload_n C dL_law_284 rfl ?_
  refine l_iconst C dL_law_285 ?_
  refine l_iadd C dL_law_286 ?_
  refine l_sld C dL_law_287 (by omega) ?_
  refine l_aload_n C dL_law_288 rfl ?_
  refine l_iload_n C dL_law_289 rfl ?_
  refine l_iconst C dL_law_290 ?_
  refine l_iadd C dL_law_291 ?_
  refine l_sld C dL_law_292 (by omega) ?_
  refine l_qi2 C dL_law_293 kL_27 s_97 (Nat.le_of_ble_eq_true rfl) h1 (fun u2 σ2 h2 => ?_)
  obtain ⟨rfl, J2⟩ := h2
  refine l_same (tgt := 1373) C dL_law_296 (by decide) ?_
  exact law_next C J2 K
theorem law_case3 {i : Int} (C : LC γ p s m meth c bs L xs ce sl) (J : J9 σ) (hi : 0 ≤ i ∧ i + 6 ≤ L) (K : ∀ σ', J9 σ' → Lv γ p l e s m below meth c bs ce sl 18 [.ref 130, .ref 0, .ref 97, .int (iI (i + 6))] [] σ') : Lv γ p l e s m below meth c bs ce sl 301 [.ref 130, .ref 0, .ref 97, .int (iI i)] [] σ := by
  refine l_aload_n C dL_law_301 rfl ?_
  refine l_qi0 C dL_law_302 kL_28 s_0 (Nat.le_of_ble_eq_true rfl) (pr_clearInput J) (fun u1 σ1 h1 => ?_)
  refine l_aload_n C dL_law_305 rfl ?_
  refine l_qi0 C dL_law_306 kL_31 s_97 (Nat.le_of_ble_eq_true rfl) h1 (fun u2 σ2 h2 => ?_)
  obtain ⟨rfl, J2⟩ := h2
  refine l_same (tgt := 1373) C dL_law_309 (by decide) ?_
  exact law_next C J2 K
theorem law_case4 {i : Int} (C : LC γ p s m meth c bs L xs ce sl) (J : J9 σ) (hi : 0 ≤ i ∧ i + 6 ≤ L) (K : ∀ σ', J9 σ' → Lv γ p l e s m below meth c bs ce sl 18 [.ref 130, .ref 0, .ref 97, .int (iI (i + 6))] [] σ') : Lv γ p l e s m below meth c bs ce sl 314 [.ref 130, .ref 0, .ref 97, .int (iI i)] [] σ := by
  refine l_aload_n C dL_law_314 rfl ?_
  refine l_qi0 C dL_law_315 kL_32 s_0 (Nat.le_of_ble_eq_true rfl) (pr_addRule J) (fun u1 σ1 h1 => ?_)
  refine l_aload_n C dL_law_318 rfl ?_
  refine l_qi0 C dL_law_319 kL_35 s_97 (Nat.le_of_ble_eq_true rfl) h1 (fun u2 σ2 h2 => ?_)
  obtain ⟨rfl, J2⟩ := h2
  refine l_same (tgt := 1373) C dL_law_322 (by decide) ?_
  exact law_next C J2 K
theorem law_case5 {i : Int} (C : LC γ p s m meth c bs L xs ce sl) (J : J9 σ) (hi : 0 ≤ i ∧ i + 6 ≤ L) (K : ∀ σ', J9 σ' → Lv γ p l e s m below meth c bs ce sl 18 [.ref 130, .ref 0, .ref 97, .int (iI (i + 6))] [] σ') : Lv γ p l e s m below meth c bs ce sl 327 [.ref 130, .ref 0, .ref 97, .int (iI i)] [] σ := by
  refine l_aload_n C dL_law_327 rfl ?_
  refine l_aload_n C dL_law_328 rfl ?_
  refine l_iload_n C dL_law_329 rfl ?_
  refine l_iconst C dL_law_330 ?_
  refine l_iadd C dL_law_331 ?_
  refine l_sld C dL_law_332 (by omega) ?_
  refine l_qi1 C dL_law_333 kL_36 s_0 (Nat.le_of_ble_eq_true rfl) (pr_removeRule J (scr9_bd _ _)) (fun u1 σ1 h1 => ?_)
  refine l_aload_n C dL_law_336 rfl ?_
  refine l_aload_n C dL_law_337 rfl ?_
  refine l_iload_n C dL_law_338 rfl ?_
  refine l_iconst C dL_law_339 ?_
  refine l_iadd C dL_law_340 ?_
  refine l_sld C dL_law_341 (by omega) ?_
  refine l_qi1 C dL_law_342 kL_39 s_97 (Nat.le_of_ble_eq_true rfl) h1 (fun u2 σ2 h2 => ?_)
  obtain ⟨rfl, J2⟩ := h2
  refine l_same (tgt := 1373) C dL_law_345 (by decide) ?_
  exact law_next C J2 K
theorem law_case6 {i : Int} (C : LC γ p s m meth c bs L xs ce sl) (J : J9 σ) (hi : 0 ≤ i ∧ i + 6 ≤ L) (K : ∀ σ', J9 σ' → Lv γ p l e s m below meth c bs ce sl 18 [.ref 130, .ref 0, .ref 97, .int (iI (i + 6))] [] σ') : Lv γ p l e s m below meth c bs ce sl 350 [.ref 130, .ref 0, .ref 97, .int (iI i)] [] σ := by
  refine l_aload_n C dL_law_350 rfl ?_
  refine l_qi0 C dL_law_351 kL_40 s_0 (Nat.le_of_ble_eq_true rfl) (pr_ruleCount J) (fun u1 σ1 h1 => ?_)
  refine l_aload_n C dL_law_354 rfl ?_
  refine l_qi0 C dL_law_355 kL_43 s_97 (Nat.le_of_ble_eq_true rfl) h1 (fun u2 σ2 h2 => ?_)
  obtain ⟨rfl, J2⟩ := h2
  refine l_same (tgt := 1373) C dL_law_358 (by decide) ?_
  exact law_next C J2 K
theorem law_case7 {i : Int} (C : LC γ p s m meth c bs L xs ce sl) (J : J9 σ) (hi : 0 ≤ i ∧ i + 6 ≤ L) (K : ∀ σ', J9 σ' → Lv γ p l e s m below meth c bs ce sl 18 [.ref 130, .ref 0, .ref 97, .int (iI (i + 6))] [] σ') : Lv γ p l e s m below meth c bs ce sl 363 [.ref 130, .ref 0, .ref 97, .int (iI i)] [] σ := by
  refine l_aload_n C dL_law_363 rfl ?_
  refine l_aload_n C dL_law_364 rfl ?_
  refine l_iload_n C dL_law_365 rfl ?_
  refine l_iconst C dL_law_366 ?_
  refine l_iadd C dL_law_367 ?_
  refine l_sld C dL_law_368 (by omega) ?_
  refine l_aload_n C dL_law_369 rfl ?_
  refine l_iload_n C dL_law_370 rfl ?_
  refine l_iconst C dL_law_371 ?_
  refine l_iadd C dL_law_372 ?_
  refine l_sld C dL_law_373 (by omega) ?_
  refine l_aload_n C dL_law_374 rfl ?_
  refine l_iload_n C dL_law_375 rfl ?_
  refine l_iconst C dL_law_376 ?_
  refine l_iadd C dL_law_377 ?_
  refine l_sld C dL_law_378 (by omega) ?_
  refine l_qi3 C dL_law_379 kL_44 s_0 (Nat.le_of_ble_eq_true rfl) (pr_ruleLetter J (scr9_bd _ _) (scr9_bd _ _) (scr9_bd _ _)) (fun u1 σ1 h1 => ?_)
  refine l_aload_n C dL_law_382 rfl ?_
  refine l_aload_n C dL_law_383 rfl ?_
  refine l_iload_n C dL_law_384 rfl ?_
  refine l_iconst C dL_law_385 ?_
  refine l_iadd C dL_law_386 ?_
  refine l_sld C dL_law_387 (by omega) ?_
  refine l_aload_n C dL_law_388 rfl ?_
  refine l_iload_n C dL_law_389 rfl ?_
  refine l_iconst C dL_law_390 ?_
  refine l_iadd C dL_law_391 ?_
  refine l_sld C dL_law_392 (by omega) ?_
  refine l_aload_n C dL_law_393 rfl ?_
  refine l_iload_n C dL_law_394 rfl ?_
  refine l_iconst C dL_law_395 ?_
  refine l_iadd C dL_law_396 ?_
  refine l_sld C dL_law_397 (by omega) ?_
  refine l_qi3 C dL_law_398 kL_48 s_97 (Nat.le_of_ble_eq_true rfl) h1 (fun u2 σ2 h2 => ?_)
  obtain ⟨rfl, J2⟩ := h2
  refine l_same (tgt := 1373) C dL_law_401 (by decide) ?_
  exact law_next C J2 K
theorem law_case8 {i : Int} (C : LC γ p s m meth c bs L xs ce sl) (J : J9 σ) (hi : 0 ≤ i ∧ i + 6 ≤ L) (K : ∀ σ', J9 σ' → Lv γ p l e s m below meth c bs ce sl 18 [.ref 130, .ref 0, .ref 97, .int (iI (i + 6))] [] σ') : Lv γ p l e s m below meth c bs ce sl 406 [.ref 130, .ref 0, .ref 97, .int (iI i)] [] σ := by
  refine l_aload_n C dL_law_406 rfl ?_
  refine l_aload_n C dL_law_407 rfl ?_
  refine l_iload_n C dL_law_408 rfl ?_
  refine l_iconst C dL_law_409 ?_
  refine l_iadd C dL_law_410 ?_
  refine l_sld C dL_law_411 (by omega) ?_
  refine l_aload_n C dL_law_412 rfl ?_
  refine l_iload_n C dL_law_413 rfl ?_
  refine l_iconst C dL_law_414 ?_
  refine l_iadd C dL_law_415 ?_
  refine l_sld C dL_law_416 (by omega) ?_
  refine l_qi2 C dL_law_417 kL_49 s_0 (Nat.le_of_ble_eq_true rfl) (pr_balance J (scr9_bd _ _) (scr9_bd _ _)) (fun u1 σ1 h1 => ?_)
  refine l_aload_n C dL_law_420 rfl ?_
  refine l_aload_n C dL_law_421 rfl ?_
  refine l_iload_n C dL_law_422 rfl ?_
  refine l_iconst C dL_law_423 ?_
  refine l_iadd C dL_law_424 ?_
  refine l_sld C dL_law_425 (by omega) ?_
  refine l_aload_n C dL_law_426 rfl ?_
  refine l_iload_n C dL_law_427 rfl ?_
  refine l_iconst C dL_law_428 ?_
  refine l_iadd C dL_law_429 ?_
  refine l_sld C dL_law_430 (by omega) ?_
  refine l_qi2 C dL_law_431 kL_52 s_97 (Nat.le_of_ble_eq_true rfl) h1 (fun u2 σ2 h2 => ?_)
  obtain ⟨rfl, J2⟩ := h2
  refine l_same (tgt := 1373) C dL_law_434 (by decide) ?_
  exact law_next C J2 K
theorem law_case9 {i : Int} (C : LC γ p s m meth c bs L xs ce sl) (J : J9 σ) (hi : 0 ≤ i ∧ i + 6 ≤ L) (K : ∀ σ', J9 σ' → Lv γ p l e s m below meth c bs ce sl 18 [.ref 130, .ref 0, .ref 97, .int (iI (i + 6))] [] σ') : Lv γ p l e s m below meth c bs ce sl 439 [.ref 130, .ref 0, .ref 97, .int (iI i)] [] σ := by
  refine l_aload_n C dL_law_439 rfl ?_
  refine l_aload_n C dL_law_440 rfl ?_
  refine l_iload_n C dL_law_441 rfl ?_
  refine l_iconst C dL_law_442 ?_
  refine l_iadd C dL_law_443 ?_
  refine l_sld C dL_law_444 (by omega) ?_
  refine l_aload_n C dL_law_445 rfl ?_
  refine l_iload_n C dL_law_446 rfl ?_
  refine l_iconst C dL_law_447 ?_
  refine l_iadd C dL_law_448 ?_
  refine l_sld C dL_law_449 (by omega) ?_
  refine l_qi2 C dL_law_450 kL_53 s_0 (Nat.le_of_ble_eq_true rfl) (pr_setWeight J (scr9_bd _ _) (scr9_bd _ _)) (fun u1 σ1 h1 => ?_)
  refine l_aload_n C dL_law_453 rfl ?_
  refine l_aload_n C dL_law_454 rfl ?_
  refine l_iload_n C dL_law_455 rfl ?_
  refine l_iconst C dL_law_456 ?_
  refine l_iadd C dL_law_457 ?_
  refine l_sld C dL_law_458 (by omega) ?_
  refine l_aload_n C dL_law_459 rfl ?_
  refine l_iload_n C dL_law_460 rfl ?_
  refine l_iconst C dL_law_461 ?_
  refine l_iadd C dL_law_462 ?_
  refine l_sld C dL_law_463 (by omega) ?_
  refine l_qi2 C dL_law_464 kL_56 s_97 (Nat.le_of_ble_eq_true rfl) h1 (fun u2 σ2 h2 => ?_)
  obtain ⟨rfl, J2⟩ := h2
  refine l_same (tgt := 1373) C dL_law_467 (by decide) ?_
  exact law_next C J2 K
theorem law_case10 {i : Int} (C : LC γ p s m meth c bs L xs ce sl) (J : J9 σ) (hi : 0 ≤ i ∧ i + 6 ≤ L) (K : ∀ σ', J9 σ' → Lv γ p l e s m below meth c bs ce sl 18 [.ref 130, .ref 0, .ref 97, .int (iI (i + 6))] [] σ') : Lv γ p l e s m below meth c bs ce sl 472 [.ref 130, .ref 0, .ref 97, .int (iI i)] [] σ := by
  refine l_aload_n C dL_law_472 rfl ?_
  refine l_aload_n C dL_law_473 rfl ?_
  refine l_iload_n C dL_law_474 rfl ?_
  refine l_iconst C dL_law_475 ?_
  refine l_iadd C dL_law_476 ?_
  refine l_sld C dL_law_477 (by omega) ?_
  refine l_qi1 C dL_law_478 kL_57 s_0 (Nat.le_of_ble_eq_true rfl) (pr_weight J (scr9_bd _ _)) (fun u1 σ1 h1 => ?_)
  refine l_aload_n C dL_law_481 rfl ?_
  refine l_aload_n C dL_law_482 rfl ?_
  refine l_iload_n C dL_law_483 rfl ?_
  refine l_iconst C dL_law_484 ?_
  refine l_iadd C dL_law_485 ?_
  refine l_sld C dL_law_486 (by omega) ?_
  refine l_qi1 C dL_law_487 kL_60 s_97 (Nat.le_of_ble_eq_true rfl) h1 (fun u2 σ2 h2 => ?_)
  obtain ⟨rfl, J2⟩ := h2
  refine l_same (tgt := 1373) C dL_law_490 (by decide) ?_
  exact law_next C J2 K
theorem law_case11 {i : Int} (C : LC γ p s m meth c bs L xs ce sl) (J : J9 σ) (hi : 0 ≤ i ∧ i + 6 ≤ L) (K : ∀ σ', J9 σ' → Lv γ p l e s m below meth c bs ce sl 18 [.ref 130, .ref 0, .ref 97, .int (iI (i + 6))] [] σ') : Lv γ p l e s m below meth c bs ce sl 495 [.ref 130, .ref 0, .ref 97, .int (iI i)] [] σ := by
  refine l_aload_n C dL_law_495 rfl ?_
  refine l_aload_n C dL_law_496 rfl ?_
  refine l_iload_n C dL_law_497 rfl ?_
  refine l_iconst C dL_law_498 ?_
  refine l_iadd C dL_law_499 ?_
  refine l_sld C dL_law_500 (by omega) ?_
  refine l_aload_n C dL_law_501 rfl ?_
  refine l_iload_n C dL_law_502 rfl ?_
  refine l_iconst C dL_law_503 ?_
  refine l_iadd C dL_law_504 ?_
  refine l_sld C dL_law_505 (by omega) ?_
  refine l_qi2 C dL_law_506 kL_61 s_0 (Nat.le_of_ble_eq_true rfl) (pr_setLevel J (scr9_bd _ _) (scr9_bd _ _)) (fun u1 σ1 h1 => ?_)
  refine l_aload_n C dL_law_509 rfl ?_
  refine l_aload_n C dL_law_510 rfl ?_
  refine l_iload_n C dL_law_511 rfl ?_
  refine l_iconst C dL_law_512 ?_
  refine l_iadd C dL_law_513 ?_
  refine l_sld C dL_law_514 (by omega) ?_
  refine l_aload_n C dL_law_515 rfl ?_
  refine l_iload_n C dL_law_516 rfl ?_
  refine l_iconst C dL_law_517 ?_
  refine l_iadd C dL_law_518 ?_
  refine l_sld C dL_law_519 (by omega) ?_
  refine l_qi2 C dL_law_520 kL_64 s_97 (Nat.le_of_ble_eq_true rfl) h1 (fun u2 σ2 h2 => ?_)
  obtain ⟨rfl, J2⟩ := h2
  refine l_same (tgt := 1373) C dL_law_523 (by decide) ?_
  exact law_next C J2 K
theorem law_case12 {i : Int} (C : LC γ p s m meth c bs L xs ce sl) (J : J9 σ) (hi : 0 ≤ i ∧ i + 6 ≤ L) (K : ∀ σ', J9 σ' → Lv γ p l e s m below meth c bs ce sl 18 [.ref 130, .ref 0, .ref 97, .int (iI (i + 6))] [] σ') : Lv γ p l e s m below meth c bs ce sl 528 [.ref 130, .ref 0, .ref 97, .int (iI i)] [] σ := by
  refine l_aload_n C dL_law_528 rfl ?_
  refine l_aload_n C dL_law_529 rfl ?_
  refine l_iload_n C dL_law_530 rfl ?_
  refine l_iconst C dL_law_531 ?_
  refine l_iadd C dL_law_532 ?_
  refine l_sld C dL_law_533 (by omega) ?_
  refine l_qi1 C dL_law_534 kL_65 s_0 (Nat.le_of_ble_eq_true rfl) (pr_level J (scr9_bd _ _)) (fun u1 σ1 h1 => ?_)
  refine l_aload_n C dL_law_537 rfl ?_
  refine l_aload_n C dL_law_538 rfl ?_
  refine l_iload_n C dL_law_539 rfl ?_
  refine l_iconst C dL_law_540 ?_
  refine l_iadd C dL_law_541 ?_
  refine l_sld C dL_law_542 (by omega) ?_
  refine l_qi1 C dL_law_543 kL_68 s_97 (Nat.le_of_ble_eq_true rfl) h1 (fun u2 σ2 h2 => ?_)
  obtain ⟨rfl, J2⟩ := h2
  refine l_same (tgt := 1373) C dL_law_546 (by decide) ?_
  exact law_next C J2 K
theorem law_case13 {i : Int} (C : LC γ p s m meth c bs L xs ce sl) (J : J9 σ) (hi : 0 ≤ i ∧ i + 6 ≤ L) (K : ∀ σ', J9 σ' → Lv γ p l e s m below meth c bs ce sl 18 [.ref 130, .ref 0, .ref 97, .int (iI (i + 6))] [] σ') : Lv γ p l e s m below meth c bs ce sl 551 [.ref 130, .ref 0, .ref 97, .int (iI i)] [] σ := by
  refine l_aload_n C dL_law_551 rfl ?_
  refine l_aload_n C dL_law_552 rfl ?_
  refine l_iload_n C dL_law_553 rfl ?_
  refine l_iconst C dL_law_554 ?_
  refine l_iadd C dL_law_555 ?_
  refine l_sld C dL_law_556 (by omega) ?_
  refine l_qi1 C dL_law_557 kL_69 s_0 (Nat.le_of_ble_eq_true rfl) (pr_setStatus J (scr9_bd _ _)) (fun u1 σ1 h1 => ?_)
  refine l_aload_n C dL_law_560 rfl ?_
  refine l_aload_n C dL_law_561 rfl ?_
  refine l_iload_n C dL_law_562 rfl ?_
  refine l_iconst C dL_law_563 ?_
  refine l_iadd C dL_law_564 ?_
  refine l_sld C dL_law_565 (by omega) ?_
  refine l_qi1 C dL_law_566 kL_72 s_97 (Nat.le_of_ble_eq_true rfl) h1 (fun u2 σ2 h2 => ?_)
  obtain ⟨rfl, J2⟩ := h2
  refine l_same (tgt := 1373) C dL_law_569 (by decide) ?_
  exact law_next C J2 K
theorem law_case14 {i : Int} (C : LC γ p s m meth c bs L xs ce sl) (J : J9 σ) (hi : 0 ≤ i ∧ i + 6 ≤ L) (K : ∀ σ', J9 σ' → Lv γ p l e s m below meth c bs ce sl 18 [.ref 130, .ref 0, .ref 97, .int (iI (i + 6))] [] σ') : Lv γ p l e s m below meth c bs ce sl 574 [.ref 130, .ref 0, .ref 97, .int (iI i)] [] σ := by
  refine l_aload_n C dL_law_574 rfl ?_
  refine l_qi0 C dL_law_575 kL_73 s_0 (Nat.le_of_ble_eq_true rfl) (pr_isAdmissible J) (fun u1 σ1 h1 => ?_)
  refine l_aload_n C dL_law_578 rfl ?_
  refine l_qi0 C dL_law_579 kL_76 s_97 (Nat.le_of_ble_eq_true rfl) h1 (fun u2 σ2 h2 => ?_)
  obtain ⟨rfl, J2⟩ := h2
  refine l_same (tgt := 1373) C dL_law_582 (by decide) ?_
  exact law_next C J2 K
theorem law_case15 {i : Int} (C : LC γ p s m meth c bs L xs ce sl) (J : J9 σ) (hi : 0 ≤ i ∧ i + 6 ≤ L) (K : ∀ σ', J9 σ' → Lv γ p l e s m below meth c bs ce sl 18 [.ref 130, .ref 0, .ref 97, .int (iI (i + 6))] [] σ') : Lv γ p l e s m below meth c bs ce sl 587 [.ref 130, .ref 0, .ref 97, .int (iI i)] [] σ := by
  refine l_aload_n C dL_law_587 rfl ?_
  refine l_aload_n C dL_law_588 rfl ?_
  refine l_iload_n C dL_law_589 rfl ?_
  refine l_iconst C dL_law_590 ?_
  refine l_iadd C dL_law_591 ?_
  refine l_sld C dL_law_592 (by omega) ?_
  refine l_qi1 C dL_law_593 kL_77 s_0 (Nat.le_of_ble_eq_true rfl) (pr_compareSides J (scr9_bd _ _)) (fun u1 σ1 h1 => ?_)
  refine l_aload_n C dL_law_596 rfl ?_
  refine l_aload_n C dL_law_597 rfl ?_
  refine l_iload_n C dL_law_598 rfl ?_
  refine l_iconst C dL_law_599 ?_
  refine l_iadd C dL_law_600 ?_
  refine l_sld C dL_law_601 (by omega) ?_
  refine l_qi1 C dL_law_602 kL_80 s_97 (Nat.le_of_ble_eq_true rfl) h1 (fun u2 σ2 h2 => ?_)
  obtain ⟨rfl, J2⟩ := h2
  refine l_same (tgt := 1373) C dL_law_605 (by decide) ?_
  exact law_next C J2 K
theorem law_case16 {i : Int} (C : LC γ p s m meth c bs L xs ce sl) (J : J9 σ) (hi : 0 ≤ i ∧ i + 6 ≤ L) (K : ∀ σ', J9 σ' → Lv γ p l e s m below meth c bs ce sl 18 [.ref 130, .ref 0, .ref 97, .int (iI (i + 6))] [] σ') : Lv γ p l e s m below meth c bs ce sl 610 [.ref 130, .ref 0, .ref 97, .int (iI i)] [] σ := by
  refine l_aload_n C dL_law_610 rfl ?_
  refine l_qi0 C dL_law_611 kL_81 s_0 (Nat.le_of_ble_eq_true rfl) (pr_compareWithInput J) (fun u1 σ1 h1 => ?_)
  refine l_aload_n C dL_law_614 rfl ?_
  refine l_qi0 C dL_law_615 kL_84 s_97 (Nat.le_of_ble_eq_true rfl) h1 (fun u2 σ2 h2 => ?_)
  obtain ⟨rfl, J2⟩ := h2
  refine l_same (tgt := 1373) C dL_law_618 (by decide) ?_
  exact law_next C J2 K
theorem law_case17 {i : Int} (C : LC γ p s m meth c bs L xs ce sl) (J : J9 σ) (hi : 0 ≤ i ∧ i + 6 ≤ L) (K : ∀ σ', J9 σ' → Lv γ p l e s m below meth c bs ce sl 18 [.ref 130, .ref 0, .ref 97, .int (iI (i + 6))] [] σ') : Lv γ p l e s m below meth c bs ce sl 623 [.ref 130, .ref 0, .ref 97, .int (iI i)] [] σ := by
  refine l_aload_n C dL_law_623 rfl ?_
  refine l_qi0 C dL_law_624 kL_85 s_0 (Nat.le_of_ble_eq_true rfl) (pr_firstUnoriented J) (fun u1 σ1 h1 => ?_)
  refine l_aload_n C dL_law_627 rfl ?_
  refine l_qi0 C dL_law_628 kL_88 s_97 (Nat.le_of_ble_eq_true rfl) h1 (fun u2 σ2 h2 => ?_)
  obtain ⟨rfl, J2⟩ := h2
  refine l_same (tgt := 1373) C dL_law_631 (by decide) ?_
  exact law_next C J2 K
theorem law_case18 {i : Int} (C : LC γ p s m meth c bs L xs ce sl) (J : J9 σ) (hi : 0 ≤ i ∧ i + 6 ≤ L) (K : ∀ σ', J9 σ' → Lv γ p l e s m below meth c bs ce sl 18 [.ref 130, .ref 0, .ref 97, .int (iI (i + 6))] [] σ') : Lv γ p l e s m below meth c bs ce sl 636 [.ref 130, .ref 0, .ref 97, .int (iI i)] [] σ := by
  refine l_aload_n C dL_law_636 rfl ?_
  refine l_aload_n C dL_law_637 rfl ?_
  refine l_iload_n C dL_law_638 rfl ?_
  refine l_iconst C dL_law_639 ?_
  refine l_iadd C dL_law_640 ?_
  refine l_sld C dL_law_641 (by omega) ?_
  refine l_qi1 C dL_law_642 kL_89 s_0 (Nat.le_of_ble_eq_true rfl) (pr_findWeights J (scr9_bd _ _)) (fun u1 σ1 h1 => ?_)
  refine l_aload_n C dL_law_645 rfl ?_
  refine l_aload_n C dL_law_646 rfl ?_
  refine l_iload_n C dL_law_647 rfl ?_
  refine l_iconst C dL_law_648 ?_
  refine l_iadd C dL_law_649 ?_
  refine l_sld C dL_law_650 (by omega) ?_
  refine l_qi1 C dL_law_651 kL_92 s_97 (Nat.le_of_ble_eq_true rfl) h1 (fun u2 σ2 h2 => ?_)
  obtain ⟨rfl, J2⟩ := h2
  refine l_same (tgt := 1373) C dL_law_654 (by decide) ?_
  exact law_next C J2 K
theorem law_case19 {i : Int} (C : LC γ p s m meth c bs L xs ce sl) (J : J9 σ) (hi : 0 ≤ i ∧ i + 6 ≤ L) (K : ∀ σ', J9 σ' → Lv γ p l e s m below meth c bs ce sl 18 [.ref 130, .ref 0, .ref 97, .int (iI (i + 6))] [] σ') : Lv γ p l e s m below meth c bs ce sl 659 [.ref 130, .ref 0, .ref 97, .int (iI i)] [] σ := by
  refine l_aload_n C dL_law_659 rfl ?_
  refine l_qi0 C dL_law_660 kL_93 s_0 (Nat.le_of_ble_eq_true rfl) (pr_findCertificate J) (fun u1 σ1 h1 => ?_)
  refine l_aload_n C dL_law_663 rfl ?_
  refine l_qi0 C dL_law_664 kL_96 s_97 (Nat.le_of_ble_eq_true rfl) h1 (fun u2 σ2 h2 => ?_)
  obtain ⟨rfl, J2⟩ := h2
  refine l_same (tgt := 1373) C dL_law_667 (by decide) ?_
  exact law_next C J2 K
theorem law_case20 {i : Int} (C : LC γ p s m meth c bs L xs ce sl) (J : J9 σ) (hi : 0 ≤ i ∧ i + 6 ≤ L) (K : ∀ σ', J9 σ' → Lv γ p l e s m below meth c bs ce sl 18 [.ref 130, .ref 0, .ref 97, .int (iI (i + 6))] [] σ') : Lv γ p l e s m below meth c bs ce sl 672 [.ref 130, .ref 0, .ref 97, .int (iI i)] [] σ := by
  refine l_aload_n C dL_law_672 rfl ?_
  refine l_qi0 C dL_law_673 kL_97 s_0 (Nat.le_of_ble_eq_true rfl) (pr_findLevels J) (fun u1 σ1 h1 => ?_)
  refine l_aload_n C dL_law_676 rfl ?_
  refine l_qi0 C dL_law_677 kL_100 s_97 (Nat.le_of_ble_eq_true rfl) h1 (fun u2 σ2 h2 => ?_)
  obtain ⟨rfl, J2⟩ := h2
  refine l_same (tgt := 1373) C dL_law_680 (by decide) ?_
  exact law_next C J2 K
theorem law_case21 {i : Int} (C : LC γ p s m meth c bs L xs ce sl) (J : J9 σ) (hi : 0 ≤ i ∧ i + 6 ≤ L) (K : ∀ σ', J9 σ' → Lv γ p l e s m below meth c bs ce sl 18 [.ref 130, .ref 0, .ref 97, .int (iI (i + 6))] [] σ') : Lv γ p l e s m below meth c bs ce sl 685 [.ref 130, .ref 0, .ref 97, .int (iI i)] [] σ := by
  refine l_aload_n C dL_law_685 rfl ?_
  refine l_qi0 C dL_law_686 kL_101 s_0 (Nat.le_of_ble_eq_true rfl) (pr_findOrder J) (fun u1 σ1 h1 => ?_)
  refine l_aload_n C dL_law_689 rfl ?_
  refine l_qi0 C dL_law_690 kL_104 s_97 (Nat.le_of_ble_eq_true rfl) h1 (fun u2 σ2 h2 => ?_)
  obtain ⟨rfl, J2⟩ := h2
  refine l_same (tgt := 1373) C dL_law_693 (by decide) ?_
  exact law_next C J2 K
theorem law_case22 {i : Int} (C : LC γ p s m meth c bs L xs ce sl) (J : J9 σ) (hi : 0 ≤ i ∧ i + 6 ≤ L) (K : ∀ σ', J9 σ' → Lv γ p l e s m below meth c bs ce sl 18 [.ref 130, .ref 0, .ref 97, .int (iI (i + 6))] [] σ') : Lv γ p l e s m below meth c bs ce sl 698 [.ref 130, .ref 0, .ref 97, .int (iI i)] [] σ := by
  refine l_aload_n C dL_law_698 rfl ?_
  refine l_aload_n C dL_law_699 rfl ?_
  refine l_iload_n C dL_law_700 rfl ?_
  refine l_iconst C dL_law_701 ?_
  refine l_iadd C dL_law_702 ?_
  refine l_sld C dL_law_703 (by omega) ?_
  refine l_qi1 C dL_law_704 kL_105 s_0 (Nat.le_of_ble_eq_true rfl) (pr_reachableLetters J (scr9_bd _ _)) (fun u1 σ1 h1 => ?_)
  refine l_aload_n C dL_law_707 rfl ?_
  refine l_aload_n C dL_law_708 rfl ?_
  refine l_iload_n C dL_law_709 rfl ?_
  refine l_iconst C dL_law_710 ?_
  refine l_iadd C dL_law_711 ?_
  refine l_sld C dL_law_712 (by omega) ?_
  refine l_qi1 C dL_law_713 kL_108 s_97 (Nat.le_of_ble_eq_true rfl) h1 (fun u2 σ2 h2 => ?_)
  obtain ⟨rfl, J2⟩ := h2
  refine l_same (tgt := 1373) C dL_law_716 (by decide) ?_
  exact law_next C J2 K
theorem law_case23 {i : Int} (C : LC γ p s m meth c bs L xs ce sl) (J : J9 σ) (hi : 0 ≤ i ∧ i + 6 ≤ L) (K : ∀ σ', J9 σ' → Lv γ p l e s m below meth c bs ce sl 18 [.ref 130, .ref 0, .ref 97, .int (iI (i + 6))] [] σ') : Lv γ p l e s m below meth c bs ce sl 721 [.ref 130, .ref 0, .ref 97, .int (iI i)] [] σ := by
  refine l_aload_n C dL_law_721 rfl ?_
  refine l_qi0 C dL_law_722 kL_109 s_0 (Nat.le_of_ble_eq_true rfl) (pr_setString J) (fun u1 σ1 h1 => ?_)
  refine l_aload_n C dL_law_725 rfl ?_
  refine l_qi0 C dL_law_726 kL_112 s_97 (Nat.le_of_ble_eq_true rfl) h1 (fun u2 σ2 h2 => ?_)
  obtain ⟨rfl, J2⟩ := h2
  refine l_same (tgt := 1373) C dL_law_729 (by decide) ?_
  exact law_next C J2 K
theorem law_case24 {i : Int} (C : LC γ p s m meth c bs L xs ce sl) (J : J9 σ) (hi : 0 ≤ i ∧ i + 6 ≤ L) (K : ∀ σ', J9 σ' → Lv γ p l e s m below meth c bs ce sl 18 [.ref 130, .ref 0, .ref 97, .int (iI (i + 6))] [] σ') : Lv γ p l e s m below meth c bs ce sl 734 [.ref 130, .ref 0, .ref 97, .int (iI i)] [] σ := by
  refine l_aload_n C dL_law_734 rfl ?_
  refine l_qi0 C dL_law_735 kL_113 s_0 (Nat.le_of_ble_eq_true rfl) (pr_stringLength J) (fun u1 σ1 h1 => ?_)
  refine l_aload_n C dL_law_738 rfl ?_
  refine l_qi0 C dL_law_739 kL_116 s_97 (Nat.le_of_ble_eq_true rfl) h1 (fun u2 σ2 h2 => ?_)
  obtain ⟨rfl, J2⟩ := h2
  refine l_same (tgt := 1373) C dL_law_742 (by decide) ?_
  exact law_next C J2 K
theorem law_case25 {i : Int} (C : LC γ p s m meth c bs L xs ce sl) (J : J9 σ) (hi : 0 ≤ i ∧ i + 6 ≤ L) (K : ∀ σ', J9 σ' → Lv γ p l e s m below meth c bs ce sl 18 [.ref 130, .ref 0, .ref 97, .int (iI (i + 6))] [] σ') : Lv γ p l e s m below meth c bs ce sl 747 [.ref 130, .ref 0, .ref 97, .int (iI i)] [] σ := by
  refine l_aload_n C dL_law_747 rfl ?_
  refine l_aload_n C dL_law_748 rfl ?_
  refine l_iload_n C dL_law_749 rfl ?_
  refine l_iconst C dL_law_750 ?_
  refine l_iadd C dL_law_751 ?_
  refine l_sld C dL_law_752 (by omega) ?_
  refine l_qi1 C dL_law_753 kL_117 s_0 (Nat.le_of_ble_eq_true rfl) (pr_stringLetter J (scr9_bd _ _)) (fun u1 σ1 h1 => ?_)
  refine l_aload_n C dL_law_756 rfl ?_
  refine l_aload_n C dL_law_757 rfl ?_
  refine l_iload_n C dL_law_758 rfl ?_
  refine l_iconst C dL_law_759 ?_
  refine l_iadd C dL_law_760 ?_
  refine l_sld C dL_law_761 (by omega) ?_
  refine l_qi1 C dL_law_762 kL_120 s_97 (Nat.le_of_ble_eq_true rfl) h1 (fun u2 σ2 h2 => ?_)
  obtain ⟨rfl, J2⟩ := h2
  refine l_same (tgt := 1373) C dL_law_765 (by decide) ?_
  exact law_next C J2 K
theorem law_case26 {i : Int} (C : LC γ p s m meth c bs L xs ce sl) (J : J9 σ) (hi : 0 ≤ i ∧ i + 6 ≤ L) (K : ∀ σ', J9 σ' → Lv γ p l e s m below meth c bs ce sl 18 [.ref 130, .ref 0, .ref 97, .int (iI (i + 6))] [] σ') : Lv γ p l e s m below meth c bs ce sl 770 [.ref 130, .ref 0, .ref 97, .int (iI i)] [] σ := by
  refine l_aload_n C dL_law_770 rfl ?_
  refine l_qi0 C dL_law_771 kL_121 s_0 (Nat.le_of_ble_eq_true rfl) (pr_stringWeight J) (fun u1 σ1 h1 => ?_)
  refine l_aload_n C dL_law_774 rfl ?_
  refine l_qi0 C dL_law_775 kL_124 s_97 (Nat.le_of_ble_eq_true rfl) h1 (fun u2 σ2 h2 => ?_)
  obtain ⟨rfl, J2⟩ := h2
  refine l_same (tgt := 1373) C dL_law_778 (by decide) ?_
  exact law_next C J2 K
theorem law_case27 {i : Int} (C : LC γ p s m meth c bs L xs ce sl) (J : J9 σ) (hi : 0 ≤ i ∧ i + 6 ≤ L) (K : ∀ σ', J9 σ' → Lv γ p l e s m below meth c bs ce sl 18 [.ref 130, .ref 0, .ref 97, .int (iI (i + 6))] [] σ') : Lv γ p l e s m below meth c bs ce sl 783 [.ref 130, .ref 0, .ref 97, .int (iI i)] [] σ := by
  refine l_aload_n C dL_law_783 rfl ?_
  refine l_aload_n C dL_law_784 rfl ?_
  refine l_iload_n C dL_law_785 rfl ?_
  refine l_iconst C dL_law_786 ?_
  refine l_iadd C dL_law_787 ?_
  refine l_sld C dL_law_788 (by omega) ?_
  refine l_aload_n C dL_law_789 rfl ?_
  refine l_iload_n C dL_law_790 rfl ?_
  refine l_iconst C dL_law_791 ?_
  refine l_iadd C dL_law_792 ?_
  refine l_sld C dL_law_793 (by omega) ?_
  refine l_qi2 C dL_law_794 kL_125 s_0 (Nat.le_of_ble_eq_true rfl) (pr_rewrite J (scr9_bd _ _) (scr9_bd _ _)) (fun u1 σ1 h1 => ?_)
  refine l_aload_n C dL_law_797 rfl ?_
  refine l_aload_n C dL_law_798 rfl ?_
  refine l_iload_n C dL_law_799 rfl ?_
  refine l_iconst C dL_law_800 ?_
  refine l_iadd C dL_law_801 ?_
  refine l_sld C dL_law_802 (by omega) ?_
  refine l_aload_n C dL_law_803 rfl ?_
  refine l_iload_n C dL_law_804 rfl ?_
  refine l_iconst C dL_law_805 ?_
  refine l_iadd C dL_law_806 ?_
  refine l_sld C dL_law_807 (by omega) ?_
  refine l_qi2 C dL_law_808 kL_128 s_97 (Nat.le_of_ble_eq_true rfl) h1 (fun u2 σ2 h2 => ?_)
  obtain ⟨rfl, J2⟩ := h2
  refine l_same (tgt := 1373) C dL_law_811 (by decide) ?_
  exact law_next C J2 K
theorem law_case28 {i : Int} (C : LC γ p s m meth c bs L xs ce sl) (J : J9 σ) (hi : 0 ≤ i ∧ i + 6 ≤ L) (K : ∀ σ', J9 σ' → Lv γ p l e s m below meth c bs ce sl 18 [.ref 130, .ref 0, .ref 97, .int (iI (i + 6))] [] σ') : Lv γ p l e s m below meth c bs ce sl 816 [.ref 130, .ref 0, .ref 97, .int (iI i)] [] σ := by
  refine l_aload_n C dL_law_816 rfl ?_
  refine l_aload_n C dL_law_817 rfl ?_
  refine l_iload_n C dL_law_818 rfl ?_
  refine l_iconst C dL_law_819 ?_
  refine l_iadd C dL_law_820 ?_
  refine l_sld C dL_law_821 (by omega) ?_
  refine l_qi1 C dL_law_822 kL_129 s_0 (Nat.le_of_ble_eq_true rfl) (pr_normalize J (scr9_bd _ _)) (fun u1 σ1 h1 => ?_)
  refine l_aload_n C dL_law_825 rfl ?_
  refine l_aload_n C dL_law_826 rfl ?_
  refine l_iload_n C dL_law_827 rfl ?_
  refine l_iconst C dL_law_828 ?_
  refine l_iadd C dL_law_829 ?_
  refine l_sld C dL_law_830 (by omega) ?_
  refine l_qi1 C dL_law_831 kL_132 s_97 (Nat.le_of_ble_eq_true rfl) h1 (fun u2 σ2 h2 => ?_)
  obtain ⟨rfl, J2⟩ := h2
  refine l_same (tgt := 1373) C dL_law_834 (by decide) ?_
  exact law_next C J2 K
theorem law_case29 {i : Int} (C : LC γ p s m meth c bs L xs ce sl) (J : J9 σ) (hi : 0 ≤ i ∧ i + 6 ≤ L) (K : ∀ σ', J9 σ' → Lv γ p l e s m below meth c bs ce sl 18 [.ref 130, .ref 0, .ref 97, .int (iI (i + 6))] [] σ') : Lv γ p l e s m below meth c bs ce sl 839 [.ref 130, .ref 0, .ref 97, .int (iI i)] [] σ := by
  refine l_aload_n C dL_law_839 rfl ?_
  refine l_qi0 C dL_law_840 kL_133 s_0 (Nat.le_of_ble_eq_true rfl) (pr_longestDerivation J) (fun u1 σ1 h1 => ?_)
  refine l_aload_n C dL_law_843 rfl ?_
  refine l_qi0 C dL_law_844 kL_136 s_97 (Nat.le_of_ble_eq_true rfl) h1 (fun u2 σ2 h2 => ?_)
  obtain ⟨rfl, J2⟩ := h2
  refine l_same (tgt := 1373) C dL_law_847 (by decide) ?_
  exact law_next C J2 K
theorem law_case30 {i : Int} (C : LC γ p s m meth c bs L xs ce sl) (J : J9 σ) (hi : 0 ≤ i ∧ i + 6 ≤ L) (K : ∀ σ', J9 σ' → Lv γ p l e s m below meth c bs ce sl 18 [.ref 130, .ref 0, .ref 97, .int (iI (i + 6))] [] σ') : Lv γ p l e s m below meth c bs ce sl 852 [.ref 130, .ref 0, .ref 97, .int (iI i)] [] σ := by
  refine l_aload_n C dL_law_852 rfl ?_
  refine l_aload_n C dL_law_853 rfl ?_
  refine l_iload_n C dL_law_854 rfl ?_
  refine l_iconst C dL_law_855 ?_
  refine l_iadd C dL_law_856 ?_
  refine l_sld C dL_law_857 (by omega) ?_
  refine l_qi1 C dL_law_858 kL_137 s_0 (Nat.le_of_ble_eq_true rfl) (pr_findLoop J (scr9_bd _ _)) (fun u1 σ1 h1 => ?_)
  refine l_aload_n C dL_law_861 rfl ?_
  refine l_aload_n C dL_law_862 rfl ?_
  refine l_iload_n C dL_law_863 rfl ?_
  refine l_iconst C dL_law_864 ?_
  refine l_iadd C dL_law_865 ?_
  refine l_sld C dL_law_866 (by omega) ?_
  refine l_qi1 C dL_law_867 kL_140 s_97 (Nat.le_of_ble_eq_true rfl) h1 (fun u2 σ2 h2 => ?_)
  obtain ⟨rfl, J2⟩ := h2
  refine l_same (tgt := 1373) C dL_law_870 (by decide) ?_
  exact law_next C J2 K
theorem law_case31 {i : Int} (C : LC γ p s m meth c bs L xs ce sl) (J : J9 σ) (hi : 0 ≤ i ∧ i + 6 ≤ L) (K : ∀ σ', J9 σ' → Lv γ p l e s m below meth c bs ce sl 18 [.ref 130, .ref 0, .ref 97, .int (iI (i + 6))] [] σ') : Lv γ p l e s m below meth c bs ce sl 875 [.ref 130, .ref 0, .ref 97, .int (iI i)] [] σ := by
  refine l_aload_n C dL_law_875 rfl ?_
  refine l_aload_n C dL_law_876 rfl ?_
  refine l_iload_n C dL_law_877 rfl ?_
  refine l_iconst C dL_law_878 ?_
  refine l_iadd C dL_law_879 ?_
  refine l_sld C dL_law_880 (by omega) ?_
  refine l_aload_n C dL_law_881 rfl ?_
  refine l_iload_n C dL_law_882 rfl ?_
  refine l_iconst C dL_law_883 ?_
  refine l_iadd C dL_law_884 ?_
  refine l_sld C dL_law_885 (by omega) ?_
  refine l_qi2 C dL_law_886 kL_141 s_0 (Nat.le_of_ble_eq_true rfl) (pr_loopStep J (scr9_bd _ _) (scr9_bd _ _)) (fun u1 σ1 h1 => ?_)
  refine l_aload_n C dL_law_889 rfl ?_
  refine l_aload_n C dL_law_890 rfl ?_
  refine l_iload_n C dL_law_891 rfl ?_
  refine l_iconst C dL_law_892 ?_
  refine l_iadd C dL_law_893 ?_
  refine l_sld C dL_law_894 (by omega) ?_
  refine l_aload_n C dL_law_895 rfl ?_
  refine l_iload_n C dL_law_896 rfl ?_
  refine l_iconst C dL_law_897 ?_
  refine l_iadd C dL_law_898 ?_
  refine l_sld C dL_law_899 (by omega) ?_
  refine l_qi2 C dL_law_900 kL_144 s_97 (Nat.le_of_ble_eq_true rfl) h1 (fun u2 σ2 h2 => ?_)
  obtain ⟨rfl, J2⟩ := h2
  refine l_same (tgt := 1373) C dL_law_903 (by decide) ?_
  exact law_next C J2 K
theorem law_case32 {i : Int} (C : LC γ p s m meth c bs L xs ce sl) (J : J9 σ) (hi : 0 ≤ i ∧ i + 6 ≤ L) (K : ∀ σ', J9 σ' → Lv γ p l e s m below meth c bs ce sl 18 [.ref 130, .ref 0, .ref 97, .int (iI (i + 6))] [] σ') : Lv γ p l e s m below meth c bs ce sl 908 [.ref 130, .ref 0, .ref 97, .int (iI i)] [] σ := by
  refine l_aload_n C dL_law_908 rfl ?_
  refine l_aload_n C dL_law_909 rfl ?_
  refine l_iload_n C dL_law_910 rfl ?_
  refine l_iconst C dL_law_911 ?_
  refine l_iadd C dL_law_912 ?_
  refine l_sld C dL_law_913 (by omega) ?_
  refine l_qi1 C dL_law_914 kL_145 s_0 (Nat.le_of_ble_eq_true rfl) (pr_improve J (scr9_bd _ _)) (fun u1 σ1 h1 => ?_)
  refine l_aload_n C dL_law_917 rfl ?_
  refine l_aload_n C dL_law_918 rfl ?_
  refine l_iload_n C dL_law_919 rfl ?_
  refine l_iconst C dL_law_920 ?_
  refine l_iadd C dL_law_921 ?_
  refine l_sld C dL_law_922 (by omega) ?_
  refine l_qi1 C dL_law_923 kL_148 s_97 (Nat.le_of_ble_eq_true rfl) h1 (fun u2 σ2 h2 => ?_)
  obtain ⟨rfl, J2⟩ := h2
  refine l_same (tgt := 1373) C dL_law_926 (by decide) ?_
  exact law_next C J2 K
theorem law_case33 {i : Int} (C : LC γ p s m meth c bs L xs ce sl) (J : J9 σ) (hi : 0 ≤ i ∧ i + 6 ≤ L) (K : ∀ σ', J9 σ' → Lv γ p l e s m below meth c bs ce sl 18 [.ref 130, .ref 0, .ref 97, .int (iI (i + 6))] [] σ') : Lv γ p l e s m below meth c bs ce sl 931 [.ref 130, .ref 0, .ref 97, .int (iI i)] [] σ := by
  refine l_aload_n C dL_law_931 rfl ?_
  refine l_aload_n C dL_law_932 rfl ?_
  refine l_iload_n C dL_law_933 rfl ?_
  refine l_iconst C dL_law_934 ?_
  refine l_iadd C dL_law_935 ?_
  refine l_sld C dL_law_936 (by omega) ?_
  refine l_aload_n C dL_law_937 rfl ?_
  refine l_iload_n C dL_law_938 rfl ?_
  refine l_iconst C dL_law_939 ?_
  refine l_iadd C dL_law_940 ?_
  refine l_sld C dL_law_941 (by omega) ?_
  refine l_aload_n C dL_law_942 rfl ?_
  refine l_iload_n C dL_law_943 rfl ?_
  refine l_iconst C dL_law_944 ?_
  refine l_iadd C dL_law_945 ?_
  refine l_sld C dL_law_946 (by omega) ?_
  refine l_qi3 C dL_law_947 kL_149 s_0 (Nat.le_of_ble_eq_true rfl) (pr_setApproximateWeight J (scr9_bd _ _) (scr9_bd _ _) (scr9_bd _ _)) (fun u1 σ1 h1 => ?_)
  refine l_aload_n C dL_law_950 rfl ?_
  refine l_aload_n C dL_law_951 rfl ?_
  refine l_iload_n C dL_law_952 rfl ?_
  refine l_iconst C dL_law_953 ?_
  refine l_iadd C dL_law_954 ?_
  refine l_sld C dL_law_955 (by omega) ?_
  refine l_aload_n C dL_law_956 rfl ?_
  refine l_iload_n C dL_law_957 rfl ?_
  refine l_iconst C dL_law_958 ?_
  refine l_iadd C dL_law_959 ?_
  refine l_sld C dL_law_960 (by omega) ?_
  refine l_aload_n C dL_law_961 rfl ?_
  refine l_iload_n C dL_law_962 rfl ?_
  refine l_iconst C dL_law_963 ?_
  refine l_iadd C dL_law_964 ?_
  refine l_sld C dL_law_965 (by omega) ?_
  refine l_qi3 C dL_law_966 kL_152 s_97 (Nat.le_of_ble_eq_true rfl) h1 (fun u2 σ2 h2 => ?_)
  obtain ⟨rfl, J2⟩ := h2
  refine l_same (tgt := 1373) C dL_law_969 (by decide) ?_
  exact law_next C J2 K
theorem law_case34 {i : Int} (C : LC γ p s m meth c bs L xs ce sl) (J : J9 σ) (hi : 0 ≤ i ∧ i + 6 ≤ L) (K : ∀ σ', J9 σ' → Lv γ p l e s m below meth c bs ce sl 18 [.ref 130, .ref 0, .ref 97, .int (iI (i + 6))] [] σ') : Lv γ p l e s m below meth c bs ce sl 974 [.ref 130, .ref 0, .ref 97, .int (iI i)] [] σ := by
  refine l_aload_n C dL_law_974 rfl ?_
  refine l_aload_n C dL_law_975 rfl ?_
  refine l_iload_n C dL_law_976 rfl ?_
  refine l_iconst C dL_law_977 ?_
  refine l_iadd C dL_law_978 ?_
  refine l_sld C dL_law_979 (by omega) ?_
  refine l_ql1 C dL_law_980 kL_153 s_0 (Nat.le_of_ble_eq_true rfl) (pr_approximateWeight J (scr9_bd _ _)) (fun u1 σ1 h1 => ?_)
  refine l_aload_n C dL_law_983 rfl ?_
  refine l_aload_n C dL_law_984 rfl ?_
  refine l_iload_n C dL_law_985 rfl ?_
  refine l_iconst C dL_law_986 ?_
  refine l_iadd C dL_law_987 ?_
  refine l_sld C dL_law_988 (by omega) ?_
  refine l_ql1 C dL_law_989 kL_157 s_97 (Nat.le_of_ble_eq_true rfl) h1 (fun u2 σ2 h2 => ?_)
  obtain ⟨rfl, J2⟩ := h2
  refine l_lsame (tgt := 1373) C dL_law_992 dL_law_993 (by decide) ?_
  exact law_next C J2 K
theorem law_case35 {i : Int} (C : LC γ p s m meth c bs L xs ce sl) (J : J9 σ) (hi : 0 ≤ i ∧ i + 6 ≤ L) (K : ∀ σ', J9 σ' → Lv γ p l e s m below meth c bs ce sl 18 [.ref 130, .ref 0, .ref 97, .int (iI (i + 6))] [] σ') : Lv γ p l e s m below meth c bs ce sl 998 [.ref 130, .ref 0, .ref 97, .int (iI i)] [] σ := by
  refine l_aload_n C dL_law_998 rfl ?_
  refine l_aload_n C dL_law_999 rfl ?_
  refine l_iload_n C dL_law_1000 rfl ?_
  refine l_iconst C dL_law_1001 ?_
  refine l_iadd C dL_law_1002 ?_
  refine l_sld C dL_law_1003 (by omega) ?_
  refine l_ql1 C dL_law_1004 kL_158 s_0 (Nat.le_of_ble_eq_true rfl) (pr_margin J (scr9_bd _ _)) (fun u1 σ1 h1 => ?_)
  refine l_aload_n C dL_law_1007 rfl ?_
  refine l_aload_n C dL_law_1008 rfl ?_
  refine l_iload_n C dL_law_1009 rfl ?_
  refine l_iconst C dL_law_1010 ?_
  refine l_iadd C dL_law_1011 ?_
  refine l_sld C dL_law_1012 (by omega) ?_
  refine l_ql1 C dL_law_1013 kL_161 s_97 (Nat.le_of_ble_eq_true rfl) h1 (fun u2 σ2 h2 => ?_)
  obtain ⟨rfl, J2⟩ := h2
  refine l_lsame (tgt := 1373) C dL_law_1016 dL_law_1017 (by decide) ?_
  exact law_next C J2 K
theorem law_case36 {i : Int} (C : LC γ p s m meth c bs L xs ce sl) (J : J9 σ) (hi : 0 ≤ i ∧ i + 6 ≤ L) (K : ∀ σ', J9 σ' → Lv γ p l e s m below meth c bs ce sl 18 [.ref 130, .ref 0, .ref 97, .int (iI (i + 6))] [] σ') : Lv γ p l e s m below meth c bs ce sl 1022 [.ref 130, .ref 0, .ref 97, .int (iI i)] [] σ := by
  refine l_aload_n C dL_law_1022 rfl ?_
  refine l_aload_n C dL_law_1023 rfl ?_
  refine l_iload_n C dL_law_1024 rfl ?_
  refine l_iconst C dL_law_1025 ?_
  refine l_iadd C dL_law_1026 ?_
  refine l_sld C dL_law_1027 (by omega) ?_
  refine l_qi1 C dL_law_1028 kL_162 s_0 (Nat.le_of_ble_eq_true rfl) (pr_roundWeights J (scr9_bd _ _)) (fun u1 σ1 h1 => ?_)
  refine l_aload_n C dL_law_1031 rfl ?_
  refine l_aload_n C dL_law_1032 rfl ?_
  refine l_iload_n C dL_law_1033 rfl ?_
  refine l_iconst C dL_law_1034 ?_
  refine l_iadd C dL_law_1035 ?_
  refine l_sld C dL_law_1036 (by omega) ?_
  refine l_qi1 C dL_law_1037 kL_165 s_97 (Nat.le_of_ble_eq_true rfl) h1 (fun u2 σ2 h2 => ?_)
  obtain ⟨rfl, J2⟩ := h2
  refine l_same (tgt := 1373) C dL_law_1040 (by decide) ?_
  exact law_next C J2 K
theorem law_case37 {i : Int} (C : LC γ p s m meth c bs L xs ce sl) (J : J9 σ) (hi : 0 ≤ i ∧ i + 6 ≤ L) (K : ∀ σ', J9 σ' → Lv γ p l e s m below meth c bs ce sl 18 [.ref 130, .ref 0, .ref 97, .int (iI (i + 6))] [] σ') : Lv γ p l e s m below meth c bs ce sl 1045 [.ref 130, .ref 0, .ref 97, .int (iI i)] [] σ := by
  refine l_aload_n C dL_law_1045 rfl ?_
  refine l_aload_n C dL_law_1046 rfl ?_
  refine l_iload_n C dL_law_1047 rfl ?_
  refine l_iconst C dL_law_1048 ?_
  refine l_iadd C dL_law_1049 ?_
  refine l_sld C dL_law_1050 (by omega) ?_
  refine l_aload_n C dL_law_1051 rfl ?_
  refine l_iload_n C dL_law_1052 rfl ?_
  refine l_iconst C dL_law_1053 ?_
  refine l_iadd C dL_law_1054 ?_
  refine l_sld C dL_law_1055 (by omega) ?_
  refine l_aload_n C dL_law_1056 rfl ?_
  refine l_iload_n C dL_law_1057 rfl ?_
  refine l_iconst C dL_law_1058 ?_
  refine l_iadd C dL_law_1059 ?_
  refine l_sld C dL_law_1060 (by omega) ?_
  refine l_qi3 C dL_law_1061 kL_166 s_0 (Nat.le_of_ble_eq_true rfl) (pr_allocate J (scr9_bd _ _) (scr9_bd _ _) (scr9_bd _ _)) (fun u1 σ1 h1 => ?_)
  refine l_aload_n C dL_law_1064 rfl ?_
  refine l_aload_n C dL_law_1065 rfl ?_
  refine l_iload_n C dL_law_1066 rfl ?_
  refine l_iconst C dL_law_1067 ?_
  refine l_iadd C dL_law_1068 ?_
  refine l_sld C dL_law_1069 (by omega) ?_
  refine l_aload_n C dL_law_1070 rfl ?_
  refine l_iload_n C dL_law_1071 rfl ?_
  refine l_iconst C dL_law_1072 ?_
  refine l_iadd C dL_law_1073 ?_
  refine l_sld C dL_law_1074 (by omega) ?_
  refine l_aload_n C dL_law_1075 rfl ?_
  refine l_iload_n C dL_law_1076 rfl ?_
  refine l_iconst C dL_law_1077 ?_
  refine l_iadd C dL_law_1078 ?_
  refine l_sld C dL_law_1079 (by omega) ?_
  refine l_qi3 C dL_law_1080 kL_169 s_97 (Nat.le_of_ble_eq_true rfl) h1 (fun u2 σ2 h2 => ?_)
  obtain ⟨rfl, J2⟩ := h2
  refine l_same (tgt := 1373) C dL_law_1083 (by decide) ?_
  exact law_next C J2 K
theorem law_case38 {i : Int} (C : LC γ p s m meth c bs L xs ce sl) (J : J9 σ) (hi : 0 ≤ i ∧ i + 6 ≤ L) (K : ∀ σ', J9 σ' → Lv γ p l e s m below meth c bs ce sl 18 [.ref 130, .ref 0, .ref 97, .int (iI (i + 6))] [] σ') : Lv γ p l e s m below meth c bs ce sl 1088 [.ref 130, .ref 0, .ref 97, .int (iI i)] [] σ := by
  refine l_aload_n C dL_law_1088 rfl ?_
  refine l_aload_n C dL_law_1089 rfl ?_
  refine l_iload_n C dL_law_1090 rfl ?_
  refine l_iconst C dL_law_1091 ?_
  refine l_iadd C dL_law_1092 ?_
  refine l_sld C dL_law_1093 (by omega) ?_
  refine l_qi1 C dL_law_1094 kL_170 s_0 (Nat.le_of_ble_eq_true rfl) (pr_release J (scr9_bd _ _)) (fun u1 σ1 h1 => ?_)
  refine l_aload_n C dL_law_1097 rfl ?_
  refine l_aload_n C dL_law_1098 rfl ?_
  refine l_iload_n C dL_law_1099 rfl ?_
  refine l_iconst C dL_law_1100 ?_
  refine l_iadd C dL_law_1101 ?_
  refine l_sld C dL_law_1102 (by omega) ?_
  refine l_qi1 C dL_law_1103 kL_173 s_97 (Nat.le_of_ble_eq_true rfl) h1 (fun u2 σ2 h2 => ?_)
  obtain ⟨rfl, J2⟩ := h2
  refine l_same (tgt := 1373) C dL_law_1106 (by decide) ?_
  exact law_next C J2 K
theorem law_case39 {i : Int} (C : LC γ p s m meth c bs L xs ce sl) (J : J9 σ) (hi : 0 ≤ i ∧ i + 6 ≤ L) (K : ∀ σ', J9 σ' → Lv γ p l e s m below meth c bs ce sl 18 [.ref 130, .ref 0, .ref 97, .int (iI (i + 6))] [] σ') : Lv γ p l e s m below meth c bs ce sl 1111 [.ref 130, .ref 0, .ref 97, .int (iI i)] [] σ := by
  refine l_aload_n C dL_law_1111 rfl ?_
  refine l_aload_n C dL_law_1112 rfl ?_
  refine l_iload_n C dL_law_1113 rfl ?_
  refine l_iconst C dL_law_1114 ?_
  refine l_iadd C dL_law_1115 ?_
  refine l_sld C dL_law_1116 (by omega) ?_
  refine l_aload_n C dL_law_1117 rfl ?_
  refine l_iload_n C dL_law_1118 rfl ?_
  refine l_iconst C dL_law_1119 ?_
  refine l_iadd C dL_law_1120 ?_
  refine l_sld C dL_law_1121 (by omega) ?_
  refine l_aload_n C dL_law_1122 rfl ?_
  refine l_iload_n C dL_law_1123 rfl ?_
  refine l_iconst C dL_law_1124 ?_
  refine l_iadd C dL_law_1125 ?_
  refine l_sld C dL_law_1126 (by omega) ?_
  refine l_i2l C dL_law_1127 (scr9_bd _ _) ?_
  refine l_bipush C dL_law_1128 (by decide) ?_
  refine l_lshl C dL_law_1130 (lI_of _).symm ?_
  refine l_aload_n C dL_law_1131 rfl ?_
  refine l_iload_n C dL_law_1132 rfl ?_
  refine l_iconst C dL_law_1133 ?_
  refine l_iadd C dL_law_1134 ?_
  refine l_sld C dL_law_1135 (by omega) ?_
  refine l_i2l C dL_law_1136 (scr9_bd _ _) ?_
  refine l_ldc2 C dL_law_1137 wL_174 ?_
  refine l_land C dL_law_1140 (lI_of _).symm ?_
  refine l_lor C dL_law_1141 (lI_of _).symm ?_
  refine l_qi3 C dL_law_1142 kL_176 s_0 (Nat.le_of_ble_eq_true rfl) (pr_putElement J (r64 _) (scr9_bd _ _) (scr9_bd _ _)) (fun u1 σ1 h1 => ?_)
  refine l_aload_n C dL_law_1145 rfl ?_
  refine l_aload_n C dL_law_1146 rfl ?_
  refine l_iload_n C dL_law_1147 rfl ?_
  refine l_iconst C dL_law_1148 ?_
  refine l_iadd C dL_law_1149 ?_
  refine l_sld C dL_law_1150 (by omega) ?_
  refine l_aload_n C dL_law_1151 rfl ?_
  refine l_iload_n C dL_law_1152 rfl ?_
  refine l_iconst C dL_law_1153 ?_
  refine l_iadd C dL_law_1154 ?_
  refine l_sld C dL_law_1155 (by omega) ?_
  refine l_aload_n C dL_law_1156 rfl ?_
  refine l_iload_n C dL_law_1157 rfl ?_
  refine l_iconst C dL_law_1158 ?_
  refine l_iadd C dL_law_1159 ?_
  refine l_sld C dL_law_1160 (by omega) ?_
  refine l_i2l C dL_law_1161 (scr9_bd _ _) ?_
  refine l_bipush C dL_law_1162 (by decide) ?_
  refine l_lshl C dL_law_1164 (lI_of _).symm ?_
  refine l_aload_n C dL_law_1165 rfl ?_
  refine l_iload_n C dL_law_1166 rfl ?_
  refine l_iconst C dL_law_1167 ?_
  refine l_iadd C dL_law_1168 ?_
  refine l_sld C dL_law_1169 (by omega) ?_
  refine l_i2l C dL_law_1170 (scr9_bd _ _) ?_
  refine l_ldc2 C dL_law_1171 wL_174 ?_
  refine l_land C dL_law_1174 (lI_of _).symm ?_
  refine l_lor C dL_law_1175 (lI_of _).symm ?_
  refine l_qi3 C dL_law_1176 kL_180 s_97 (Nat.le_of_ble_eq_true rfl) h1 (fun u2 σ2 h2 => ?_)
  obtain ⟨rfl, J2⟩ := h2
  refine l_same (tgt := 1373) C dL_law_1179 (by decide) ?_
  exact law_next C J2 K
theorem law_case40 {i : Int} (C : LC γ p s m meth c bs L xs ce sl) (J : J9 σ) (hi : 0 ≤ i ∧ i + 6 ≤ L) (K : ∀ σ', J9 σ' → Lv γ p l e s m below meth c bs ce sl 18 [.ref 130, .ref 0, .ref 97, .int (iI (i + 6))] [] σ') : Lv γ p l e s m below meth c bs ce sl 1184 [.ref 130, .ref 0, .ref 97, .int (iI i)] [] σ := by
  refine l_aload_n C dL_law_1184 rfl ?_
  refine l_aload_n C dL_law_1185 rfl ?_
  refine l_iload_n C dL_law_1186 rfl ?_
  refine l_iconst C dL_law_1187 ?_
  refine l_iadd C dL_law_1188 ?_
  refine l_sld C dL_law_1189 (by omega) ?_
  refine l_aload_n C dL_law_1190 rfl ?_
  refine l_iload_n C dL_law_1191 rfl ?_
  refine l_iconst C dL_law_1192 ?_
  refine l_iadd C dL_law_1193 ?_
  refine l_sld C dL_law_1194 (by omega) ?_
  refine l_aload_n C dL_law_1195 rfl ?_
  refine l_iload_n C dL_law_1196 rfl ?_
  refine l_iconst C dL_law_1197 ?_
  refine l_iadd C dL_law_1198 ?_
  refine l_sld C dL_law_1199 (by omega) ?_
  refine l_qi3 C dL_law_1200 kL_181 s_0 (Nat.le_of_ble_eq_true rfl) (pr_divideElement J (scr9_bd _ _) (scr9_bd _ _) (scr9_bd _ _)) (fun u1 σ1 h1 => ?_)
  refine l_aload_n C dL_law_1203 rfl ?_
  refine l_aload_n C dL_law_1204 rfl ?_
  refine l_iload_n C dL_law_1205 rfl ?_
  refine l_iconst C dL_law_1206 ?_
  refine l_iadd C dL_law_1207 ?_
  refine l_sld C dL_law_1208 (by omega) ?_
  refine l_aload_n C dL_law_1209 rfl ?_
  refine l_iload_n C dL_law_1210 rfl ?_
  refine l_iconst C dL_law_1211 ?_
  refine l_iadd C dL_law_1212 ?_
  refine l_sld C dL_law_1213 (by omega) ?_
  refine l_aload_n C dL_law_1214 rfl ?_
  refine l_iload_n C dL_law_1215 rfl ?_
  refine l_iconst C dL_law_1216 ?_
  refine l_iadd C dL_law_1217 ?_
  refine l_sld C dL_law_1218 (by omega) ?_
  refine l_qi3 C dL_law_1219 kL_184 s_97 (Nat.le_of_ble_eq_true rfl) h1 (fun u2 σ2 h2 => ?_)
  obtain ⟨rfl, J2⟩ := h2
  refine l_same (tgt := 1373) C dL_law_1222 (by decide) ?_
  exact law_next C J2 K
theorem law_case41 {i : Int} (C : LC γ p s m meth c bs L xs ce sl) (J : J9 σ) (hi : 0 ≤ i ∧ i + 6 ≤ L) (K : ∀ σ', J9 σ' → Lv γ p l e s m below meth c bs ce sl 18 [.ref 130, .ref 0, .ref 97, .int (iI (i + 6))] [] σ') : Lv γ p l e s m below meth c bs ce sl 1227 [.ref 130, .ref 0, .ref 97, .int (iI i)] [] σ := by
  refine l_aload_n C dL_law_1227 rfl ?_
  refine l_aload_n C dL_law_1228 rfl ?_
  refine l_iload_n C dL_law_1229 rfl ?_
  refine l_iconst C dL_law_1230 ?_
  refine l_iadd C dL_law_1231 ?_
  refine l_sld C dL_law_1232 (by omega) ?_
  refine l_aload_n C dL_law_1233 rfl ?_
  refine l_iload_n C dL_law_1234 rfl ?_
  refine l_iconst C dL_law_1235 ?_
  refine l_iadd C dL_law_1236 ?_
  refine l_sld C dL_law_1237 (by omega) ?_
  refine l_ql2 C dL_law_1238 kL_185 s_0 (Nat.le_of_ble_eq_true rfl) (pr_element J (scr9_bd _ _) (scr9_bd _ _)) (fun u1 σ1 h1 => ?_)
  refine l_aload_n C dL_law_1241 rfl ?_
  refine l_aload_n C dL_law_1242 rfl ?_
  refine l_iload_n C dL_law_1243 rfl ?_
  refine l_iconst C dL_law_1244 ?_
  refine l_iadd C dL_law_1245 ?_
  refine l_sld C dL_law_1246 (by omega) ?_
  refine l_aload_n C dL_law_1247 rfl ?_
  refine l_iload_n C dL_law_1248 rfl ?_
  refine l_iconst C dL_law_1249 ?_
  refine l_iadd C dL_law_1250 ?_
  refine l_sld C dL_law_1251 (by omega) ?_
  refine l_ql2 C dL_law_1252 kL_189 s_97 (Nat.le_of_ble_eq_true rfl) h1 (fun u2 σ2 h2 => ?_)
  obtain ⟨rfl, J2⟩ := h2
  refine l_lsame (tgt := 1373) C dL_law_1255 dL_law_1256 (by decide) ?_
  exact law_next C J2 K
theorem law_case42 {i : Int} (C : LC γ p s m meth c bs L xs ce sl) (J : J9 σ) (hi : 0 ≤ i ∧ i + 6 ≤ L) (K : ∀ σ', J9 σ' → Lv γ p l e s m below meth c bs ce sl 18 [.ref 130, .ref 0, .ref 97, .int (iI (i + 6))] [] σ') : Lv γ p l e s m below meth c bs ce sl 1261 [.ref 130, .ref 0, .ref 97, .int (iI i)] [] σ := by
  refine l_aload_n C dL_law_1261 rfl ?_
  refine l_aload_n C dL_law_1262 rfl ?_
  refine l_iload_n C dL_law_1263 rfl ?_
  refine l_iconst C dL_law_1264 ?_
  refine l_iadd C dL_law_1265 ?_
  refine l_sld C dL_law_1266 (by omega) ?_
  refine l_aload_n C dL_law_1267 rfl ?_
  refine l_iload_n C dL_law_1268 rfl ?_
  refine l_iconst C dL_law_1269 ?_
  refine l_iadd C dL_law_1270 ?_
  refine l_sld C dL_law_1271 (by omega) ?_
  refine l_aload_n C dL_law_1272 rfl ?_
  refine l_iload_n C dL_law_1273 rfl ?_
  refine l_iconst C dL_law_1274 ?_
  refine l_iadd C dL_law_1275 ?_
  refine l_sld C dL_law_1276 (by omega) ?_
  refine l_aload_n C dL_law_1277 rfl ?_
  refine l_iload_n C dL_law_1278 rfl ?_
  refine l_iconst C dL_law_1279 ?_
  refine l_iadd C dL_law_1280 ?_
  refine l_sld C dL_law_1281 (by omega) ?_
  refine l_aload_n C dL_law_1282 rfl ?_
  refine l_iload_n C dL_law_1283 rfl ?_
  refine l_iconst C dL_law_1284 ?_
  refine l_iadd C dL_law_1285 ?_
  refine l_sld C dL_law_1286 (by omega) ?_
  refine l_qi5 C dL_law_1287 kL_190 s_0 (Nat.le_of_ble_eq_true rfl) (pr_copyElements J (scr9_bd _ _) (scr9_bd _ _) (scr9_bd _ _) (scr9_bd _ _) (scr9_bd _ _)) (fun u1 σ1 h1 => ?_)
  refine l_aload_n C dL_law_1290 rfl ?_
  refine l_aload_n C dL_law_1291 rfl ?_
  refine l_iload_n C dL_law_1292 rfl ?_
  refine l_iconst C dL_law_1293 ?_
  refine l_iadd C dL_law_1294 ?_
  refine l_sld C dL_law_1295 (by omega) ?_
  refine l_aload_n C dL_law_1296 rfl ?_
  refine l_iload_n C dL_law_1297 rfl ?_
  refine l_iconst C dL_law_1298 ?_
  refine l_iadd C dL_law_1299 ?_
  refine l_sld C dL_law_1300 (by omega) ?_
  refine l_aload_n C dL_law_1301 rfl ?_
  refine l_iload_n C dL_law_1302 rfl ?_
  refine l_iconst C dL_law_1303 ?_
  refine l_iadd C dL_law_1304 ?_
  refine l_sld C dL_law_1305 (by omega) ?_
  refine l_aload_n C dL_law_1306 rfl ?_
  refine l_iload_n C dL_law_1307 rfl ?_
  refine l_iconst C dL_law_1308 ?_
  refine l_iadd C dL_law_1309 ?_
  refine l_sld C dL_law_1310 (by omega) ?_
  refine l_aload_n C dL_law_1311 rfl ?_
  refine l_iload_n C dL_law_1312 rfl ?_
  refine l_iconst C dL_law_1313 ?_
  refine l_iadd C dL_law_1314 ?_
  refine l_sld C dL_law_1315 (by omega) ?_
  refine l_qi5 C dL_law_1316 kL_194 s_97 (Nat.le_of_ble_eq_true rfl) h1 (fun u2 σ2 h2 => ?_)
  obtain ⟨rfl, J2⟩ := h2
  refine l_same (tgt := 1373) C dL_law_1319 (by decide) ?_
  exact law_next C J2 K
theorem law_case43 {i : Int} (C : LC γ p s m meth c bs L xs ce sl) (J : J9 σ) (hi : 0 ≤ i ∧ i + 6 ≤ L) (K : ∀ σ', J9 σ' → Lv γ p l e s m below meth c bs ce sl 18 [.ref 130, .ref 0, .ref 97, .int (iI (i + 6))] [] σ') : Lv γ p l e s m below meth c bs ce sl 1324 [.ref 130, .ref 0, .ref 97, .int (iI i)] [] σ := by
  refine l_aload_n C dL_law_1324 rfl ?_
  refine l_aload_n C dL_law_1325 rfl ?_
  refine l_iload_n C dL_law_1326 rfl ?_
  refine l_iconst C dL_law_1327 ?_
  refine l_iadd C dL_law_1328 ?_
  refine l_sld C dL_law_1329 (by omega) ?_
  refine l_qi1 C dL_law_1330 kL_195 s_0 (Nat.le_of_ble_eq_true rfl) (pr_checkCertificate J (scr9_bd _ _)) (fun u1 σ1 h1 => ?_)
  refine l_aload_n C dL_law_1333 rfl ?_
  refine l_aload_n C dL_law_1334 rfl ?_
  refine l_iload_n C dL_law_1335 rfl ?_
  refine l_iconst C dL_law_1336 ?_
  refine l_iadd C dL_law_1337 ?_
  refine l_sld C dL_law_1338 (by omega) ?_
  refine l_qi1 C dL_law_1339 kL_198 s_97 (Nat.le_of_ble_eq_true rfl) h1 (fun u2 σ2 h2 => ?_)
  obtain ⟨rfl, J2⟩ := h2
  refine l_same (tgt := 1373) C dL_law_1342 (by decide) ?_
  exact law_next C J2 K
theorem law_case44 {i : Int} (C : LC γ p s m meth c bs L xs ce sl) (J : J9 σ) (hi : 0 ≤ i ∧ i + 6 ≤ L) (K : ∀ σ', J9 σ' → Lv γ p l e s m below meth c bs ce sl 18 [.ref 130, .ref 0, .ref 97, .int (iI (i + 6))] [] σ') : Lv γ p l e s m below meth c bs ce sl 1347 [.ref 130, .ref 0, .ref 97, .int (iI i)] [] σ := by
  refine l_aload_n C dL_law_1347 rfl ?_
  refine l_qi0 C dL_law_1348 kL_199 s_0 (Nat.le_of_ble_eq_true rfl) (pr_snapshot J) (fun u1 σ1 h1 => ?_)
  refine l_aload_n C dL_law_1351 rfl ?_
  refine l_qi0 C dL_law_1352 kL_202 s_97 (Nat.le_of_ble_eq_true rfl) h1 (fun u2 σ2 h2 => ?_)
  obtain ⟨rfl, J2⟩ := h2
  refine l_same (tgt := 1373) C dL_law_1355 (by decide) ?_
  exact law_next C J2 K
theorem law_case45 {i : Int} (C : LC γ p s m meth c bs L xs ce sl) (J : J9 σ) (hi : 0 ≤ i ∧ i + 6 ≤ L) (K : ∀ σ', J9 σ' → Lv γ p l e s m below meth c bs ce sl 18 [.ref 130, .ref 0, .ref 97, .int (iI (i + 6))] [] σ') : Lv γ p l e s m below meth c bs ce sl 1360 [.ref 130, .ref 0, .ref 97, .int (iI i)] [] σ := by
  refine l_aload_n C dL_law_1360 rfl ?_
  refine l_qi0 C dL_law_1361 kL_203 s_0 (Nat.le_of_ble_eq_true rfl) (pr_restore J) (fun u1 σ1 h1 => ?_)
  refine l_aload_n C dL_law_1364 rfl ?_
  refine l_qi0 C dL_law_1365 kL_206 s_97 (Nat.le_of_ble_eq_true rfl) h1 (fun u2 σ2 h2 => ?_)
  obtain ⟨rfl, J2⟩ := h2
  refine l_same (tgt := 1373) C dL_law_1368 (by decide) ?_
  exact law_next C J2 K
theorem law_loop (C : LC γ p s m meth c bs L xs ce sl) : ∀ (n : Nat) (i : Int) (σ : S9), J9 σ → 0 ≤ i → i ≤ L → (L : Int) - i < 6 * n → Lv γ p l e s m below meth c bs ce sl 18 [.ref 130, .ref 0, .ref 97, .int (iI i)] [] σ := by
  have hL : L ≤ 3072 := C.2.2.2.2.2.2.2.2.2.2.2.2.2.1
  have KE : ∀ (i : Int) (σ : S9), 0 ≤ i → i ≤ L → (L : Int) - i < 6 → Lv γ p l e s m below meth c bs ce sl 18 [.ref 130, .ref 0, .ref 97, .int (iI i)] [] σ := by
    intro i σ h0 h1 h2
    refine l_iload_n C dL_law_18 rfl ?_
    refine l_aload_n C dL_law_19 rfl ?_
    refine l_slen C dL_law_20 ?_
    refine l_bipush C dL_law_21 (by decide) ?_
    refine l_isub C dL_law_23 ?_
    refine l_icmp_gt (tgt := 1379) C dL_law_24 (by decide) (by omega) (fun _ => ?_) (fun q => absurd q (by omega))
    refine l_iconst C dL_law_1379 ?_
    exact l_end C dL_law_1380
  intro n
  induction n with
  | zero => intro i σ J h0 h1 h2; exact KE i σ h0 h1 (by omega)
  | succ n ih =>
    intro i σ J h0 h1 h2
    by_cases hq : (L : Int) - i < 6
    · exact KE i σ h0 h1 hq
    have K : ∀ σ', J9 σ' → Lv γ p l e s m below meth c bs ce sl 18 [.ref 130, .ref 0, .ref 97, .int (iI (i + 6))] [] σ' := fun σ' J' => ih (i + 6) σ' J' (by omega) (by omega) (by omega)
    have hi : 0 ≤ i ∧ i + 6 ≤ L := by omega
    refine l_iload_n C dL_law_18 rfl ?_
    refine l_aload_n C dL_law_19 rfl ?_
    refine l_slen C dL_law_20 ?_
    refine l_bipush C dL_law_21 (by decide) ?_
    refine l_isub C dL_law_23 ?_
    refine l_icmp_gt (tgt := 1379) C dL_law_24 (by decide) (by omega) (fun q => absurd q (by omega)) (fun _ => ?_)
    refine l_aload_n C dL_law_27 rfl ?_
    refine l_iload_n C dL_law_28 rfl ?_
    refine l_sld C dL_law_29 (by omega) ?_
    refine l_bipush C dL_law_30 (by decide) ?_
    obtain ⟨w, hw, w0, w1⟩ := and63 (iI (scr9 xs i))
    refine l_iand C dL_law_32 hw ?_
    clear hw
    rcases (show (w = 0 ∨ w = 1 ∨ w = 2 ∨ w = 3 ∨ w = 4 ∨ w = 5 ∨ w = 6 ∨ w = 7 ∨ w = 8 ∨ w = 9 ∨ w = 10 ∨ w = 11 ∨ w = 12 ∨ w = 13 ∨ w = 14 ∨ w = 15 ∨ w = 16 ∨ w = 17 ∨ w = 18 ∨ w = 19 ∨ w = 20 ∨ w = 21 ∨ w = 22 ∨ w = 23 ∨ w = 24 ∨ w = 25 ∨ w = 26 ∨ w = 27 ∨ w = 28 ∨ w = 29 ∨ w = 30 ∨ w = 31 ∨ w = 32 ∨ w = 33 ∨ w = 34 ∨ w = 35 ∨ w = 36 ∨ w = 37 ∨ w = 38 ∨ w = 39 ∨ w = 40 ∨ w = 41 ∨ w = 42 ∨ w = 43 ∨ w = 44 ∨ w = 45) ∨ 46 ≤ w by omega) with (rfl | rfl | rfl | rfl | rfl | rfl | rfl | rfl | rfl | rfl | rfl | rfl | rfl | rfl | rfl | rfl | rfl | rfl | rfl | rfl | rfl | rfl | rfl | rfl | rfl | rfl | rfl | rfl | rfl | rfl | rfl | rfl | rfl | rfl | rfl | rfl | rfl | rfl | rfl | rfl | rfl | rfl | rfl | rfl | rfl | rfl) | hw
    · exact l_tabI (tgt := 232) C dL_law_33 (by decide) (by decide) (by decide) rfl (by decide) (law_case0 C J hi K)
    · exact l_tabI (tgt := 255) C dL_law_33 (by decide) (by decide) (by decide) rfl (by decide) (law_case1 C J hi K)
    · exact l_tabI (tgt := 268) C dL_law_33 (by decide) (by decide) (by decide) rfl (by decide) (law_case2 C J hi K)
    · exact l_tabI (tgt := 301) C dL_law_33 (by decide) (by decide) (by decide) rfl (by decide) (law_case3 C J hi K)
    · exact l_tabI (tgt := 314) C dL_law_33 (by decide) (by decide) (by decide) rfl (by decide) (law_case4 C J hi K)
    · exact l_tabI (tgt := 327) C dL_law_33 (by decide) (by decide) (by decide) rfl (by decide) (law_case5 C J hi K)
    · exact l_tabI (tgt := 350) C dL_law_33 (by decide) (by decide) (by decide) rfl (by decide) (law_case6 C J hi K)
    · exact l_tabI (tgt := 363) C dL_law_33 (by decide) (by decide) (by decide) rfl (by decide) (law_case7 C J hi K)
    · exact l_tabI (tgt := 406) C dL_law_33 (by decide) (by decide) (by decide) rfl (by decide) (law_case8 C J hi K)
    · exact l_tabI (tgt := 439) C dL_law_33 (by decide) (by decide) (by decide) rfl (by decide) (law_case9 C J hi K)
    · exact l_tabI (tgt := 472) C dL_law_33 (by decide) (by decide) (by decide) rfl (by decide) (law_case10 C J hi K)
    · exact l_tabI (tgt := 495) C dL_law_33 (by decide) (by decide) (by decide) rfl (by decide) (law_case11 C J hi K)
    · exact l_tabI (tgt := 528) C dL_law_33 (by decide) (by decide) (by decide) rfl (by decide) (law_case12 C J hi K)
    · exact l_tabI (tgt := 551) C dL_law_33 (by decide) (by decide) (by decide) rfl (by decide) (law_case13 C J hi K)
    · exact l_tabI (tgt := 574) C dL_law_33 (by decide) (by decide) (by decide) rfl (by decide) (law_case14 C J hi K)
    · exact l_tabI (tgt := 587) C dL_law_33 (by decide) (by decide) (by decide) rfl (by decide) (law_case15 C J hi K)
    · exact l_tabI (tgt := 610) C dL_law_33 (by decide) (by decide) (by decide) rfl (by decide) (law_case16 C J hi K)
    · exact l_tabI (tgt := 623) C dL_law_33 (by decide) (by decide) (by decide) rfl (by decide) (law_case17 C J hi K)
    · exact l_tabI (tgt := 636) C dL_law_33 (by decide) (by decide) (by decide) rfl (by decide) (law_case18 C J hi K)
    · exact l_tabI (tgt := 659) C dL_law_33 (by decide) (by decide) (by decide) rfl (by decide) (law_case19 C J hi K)
    · exact l_tabI (tgt := 672) C dL_law_33 (by decide) (by decide) (by decide) rfl (by decide) (law_case20 C J hi K)
    · exact l_tabI (tgt := 685) C dL_law_33 (by decide) (by decide) (by decide) rfl (by decide) (law_case21 C J hi K)
    · exact l_tabI (tgt := 698) C dL_law_33 (by decide) (by decide) (by decide) rfl (by decide) (law_case22 C J hi K)
    · exact l_tabI (tgt := 721) C dL_law_33 (by decide) (by decide) (by decide) rfl (by decide) (law_case23 C J hi K)
    · exact l_tabI (tgt := 734) C dL_law_33 (by decide) (by decide) (by decide) rfl (by decide) (law_case24 C J hi K)
    · exact l_tabI (tgt := 747) C dL_law_33 (by decide) (by decide) (by decide) rfl (by decide) (law_case25 C J hi K)
    · exact l_tabI (tgt := 770) C dL_law_33 (by decide) (by decide) (by decide) rfl (by decide) (law_case26 C J hi K)
    · exact l_tabI (tgt := 783) C dL_law_33 (by decide) (by decide) (by decide) rfl (by decide) (law_case27 C J hi K)
    · exact l_tabI (tgt := 816) C dL_law_33 (by decide) (by decide) (by decide) rfl (by decide) (law_case28 C J hi K)
    · exact l_tabI (tgt := 839) C dL_law_33 (by decide) (by decide) (by decide) rfl (by decide) (law_case29 C J hi K)
    · exact l_tabI (tgt := 852) C dL_law_33 (by decide) (by decide) (by decide) rfl (by decide) (law_case30 C J hi K)
    · exact l_tabI (tgt := 875) C dL_law_33 (by decide) (by decide) (by decide) rfl (by decide) (law_case31 C J hi K)
    · exact l_tabI (tgt := 908) C dL_law_33 (by decide) (by decide) (by decide) rfl (by decide) (law_case32 C J hi K)
    · exact l_tabI (tgt := 931) C dL_law_33 (by decide) (by decide) (by decide) rfl (by decide) (law_case33 C J hi K)
    · exact l_tabI (tgt := 974) C dL_law_33 (by decide) (by decide) (by decide) rfl (by decide) (law_case34 C J hi K)
    · exact l_tabI (tgt := 998) C dL_law_33 (by decide) (by decide) (by decide) rfl (by decide) (law_case35 C J hi K)
    · exact l_tabI (tgt := 1022) C dL_law_33 (by decide) (by decide) (by decide) rfl (by decide) (law_case36 C J hi K)
    · exact l_tabI (tgt := 1045) C dL_law_33 (by decide) (by decide) (by decide) rfl (by decide) (law_case37 C J hi K)
    · exact l_tabI (tgt := 1088) C dL_law_33 (by decide) (by decide) (by decide) rfl (by decide) (law_case38 C J hi K)
    · exact l_tabI (tgt := 1111) C dL_law_33 (by decide) (by decide) (by decide) rfl (by decide) (law_case39 C J hi K)
    · exact l_tabI (tgt := 1184) C dL_law_33 (by decide) (by decide) (by decide) rfl (by decide) (law_case40 C J hi K)
    · exact l_tabI (tgt := 1227) C dL_law_33 (by decide) (by decide) (by decide) rfl (by decide) (law_case41 C J hi K)
    · exact l_tabI (tgt := 1261) C dL_law_33 (by decide) (by decide) (by decide) rfl (by decide) (law_case42 C J hi K)
    · exact l_tabI (tgt := 1324) C dL_law_33 (by decide) (by decide) (by decide) rfl (by decide) (law_case43 C J hi K)
    · exact l_tabI (tgt := 1347) C dL_law_33 (by decide) (by decide) (by decide) rfl (by decide) (law_case44 C J hi K)
    · exact l_tabI (tgt := 1360) C dL_law_33 (by decide) (by decide) (by decide) rfl (by decide) (law_case45 C J hi K)
    · exact l_tabO (tgt := 1373) C dL_law_33 (by omega) (Or.inr (by omega)) (by decide) (law_next C J K)
end
