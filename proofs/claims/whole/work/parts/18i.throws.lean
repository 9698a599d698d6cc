/-! the law: the cases that may throw -/
section LT
variable {g : GT} {Q : Option Value → Hp → Prop} {k n D q ot i : Nat} {hp : Hp} {B : Int}
theorem lg_same (x : Int64) : lg_cmp x x = I 0 := by
  unfold lg_cmp
  simp
  rfl
theorem lc_4 (hd : D + 171 ≤ q ∧ q + 25 ≤ ot) (hi : i + 5 ≤ scL g) (hL : scL g ≤ 2560) (hB : 0 ≤ B ∧ B ≤ 1000000) (hk : k + 1 ≤ 601024) (hn : n + 6 ≤ 7293034) (L : LSt hp D q ot B) (Kn : ∀ hp2 k2 n2, LSt hp2 D q ot (B + 1000) → k2 ≤ k + 1 → n2 ≤ n + 6 → wp g ML_law room_1 Q k2 n2 1545 (lls D q ot i) [] hp2) : wp g ML_law room_1 Q k n 308 (lls D q ot i) [] hp := by
  obtain ⟨N, T, U, tx, rw, rt, hs, ss, KT, th, ⟨r, s, Tr, z, Z, K⟩, M, ⟨f, hf⟩, X⟩ := L
  have hI := X.1.1
  have hH := X.1.2.1
  have hZ := X.1.2.2.1
  have hZD := X.1.2.2.2.1
  have hb : T 7 0 < 1900000000 := by have := X.1.2.2.2.2; omega
  have hl := X.2.2.1
  have ho := X.2.2.2.1
  have so := X.2.2.2.2.1
  have hK8 := X.k8
  have hrl : rw.length ≤ 16 := by obtain ⟨F, r0, r1, q1, q2⟩ := K.ro; omega
  have rv1 := sv_R g ((i : Int) + 1)
  have rv2 := sv_R g ((i : Int) + 2)
  have rv3 := sv_R g ((i : Int) + 3)
  have rv4 := sv_R g ((i : Int) + 4)
  by_cases c : psO N (sv g ((i : Int) + 1)) (sv g ((i : Int) + 2))
  · skip
    refine wp_aload_n (pc := 308) dL_law_308 rfl ?_
    refine wp_aload_n (pc := 309) dL_law_309 rfl ?_
    refine wp_iload (pc := 310) dL_law_310 rfl ?_
    refine wp_iconst (pc := 312) dL_law_312 ?_
    refine wp_iadd (pc := 313) dL_law_313 ?_
    refine wp_sld (pc := 314) dL_law_314 (by omega) (by omega) hL ?_
    refine wp_aload_n (pc := 315) dL_law_315 rfl ?_
    refine wp_iload (pc := 316) dL_law_316 rfl ?_
    refine wp_iconst (pc := 318) dL_law_318 ?_
    refine wp_iadd (pc := 319) dL_law_319 ?_
    refine wp_sld (pc := 320) dL_law_320 (by omega) (by omega) hL ?_
    refine wp_aload_n (pc := 321) dL_law_321 rfl ?_
    refine wp_SW (pc := 322) dL_law_322 (M' := ML_person) (hh := [(0, 10, 13, 13)]) (gt_mem (by decide +kernel) rfl) (gt_mem (by decide +kernel) rfl) (gt_mem (by decide +kernel) rfl) (gt_mem (by decide +kernel) rfl) ⟨by decide, by decide⟩ (as := [.ref D, .int (I (sv g ((i : Int) + 1))), .int (I (sv g ((i : Int) + 2))), .ref ot]) (by show _ = some 4; decide +kernel) (sw_person K hI rv1 rv2 hf (.inr (by omega))) ⟨by decide, by decide, by show k + 1 ≤ 601024; omega, by show n + 6 ≤ 7293034; omega⟩ (Nat.le_of_ble_eq_true rfl) rfl (fun v hp1 hv => ?_)
    obtain ⟨rfl, K1, ⟨f1, hf1, hv1⟩, O1⟩ := hv
    rw [if_pos c]
    show wp g _ _ _ (k + 1) (n + 6) _ _ [.int (I 0)] hp1
    have M1 := M.mv (fun x a b => O1 x (by omega) (by omega))
    refine wp_istore (pc := 325) dL_law_325 (by decide) ?_
    refine wp_aload_n (pc := 327) dL_law_327 rfl ?_
    refine wp_aload_n (pc := 328) dL_law_328 rfl ?_
    refine wp_iload (pc := 329) dL_law_329 rfl ?_
    refine wp_iconst (pc := 331) dL_law_331 ?_
    refine wp_iadd (pc := 332) dL_law_332 ?_
    refine wp_sld (pc := 333) dL_law_333 (by omega) (by omega) hL ?_
    refine wp_aload_n (pc := 334) dL_law_334 rfl ?_
    refine wp_iload (pc := 335) dL_law_335 rfl ?_
    refine wp_iconst (pc := 337) dL_law_337 ?_
    refine wp_iadd (pc := 338) dL_law_338 ?_
    refine wp_sld (pc := 339) dL_law_339 (by omega) (by omega) hL ?_
    refine wd_Vs (pc := 340) dL_law_340 cl_L_51 (sp_Ref_person M1 (by first | assumption | omega) (by first | assumption | omega) (by first | assumption | omega)) rfl rfl M1.o (by rfl) ⟨by decide, by decide, rfl, rfl, by show _ ≤ 601024; omega, by show _ ≤ 7293034; omega⟩ (Nat.le_of_ble_eq_true rfl) (fun hp2 e2 => ?_)
    obtain ⟨M2, O2⟩ := e2
    have K2 := K1.mv (fun x a b => O2.2 x (by omega))
    have hf2 := (O2.2 ot (by omega)).trans hf1
    rw [if_pos c] at M2 ⊢
    have M3 := M2
    obtain ⟨V, A, rd, KM, h6, mx⟩ := M3
    refine wp_istore (pc := 343) dL_law_343 (by decide) ?_
    refine wp_aload_n (pc := 345) dL_law_345 rfl ?_
    refine wd_Vp (pc := 346) dL_law_346 cl_L_52 (sp_Ref_thrown KM h6) rfl rfl M2.o (by rfl) ⟨by decide, by decide, rfl, rfl, by show _ ≤ 601024; omega, by show _ ≤ 7293034; omega⟩ (Nat.le_of_ble_eq_true rfl) ?_
    refine wp_iload (pc := 349) dL_law_349 rfl ?_
    refine wp_icmpx_eq (pc := 351) 356 dL_law_351 (by decide) (fun _ => ?_) (fun c => absurd rfl c)
    refine wp_iload (pc := 356) dL_law_356 rfl ?_
    first | refine wp_ifb_ne (pc := 358) 373 dL_law_358 (by decide) (fun c358 => ?_) (fun c358 => ?_) | refine wp_if_ne (pc := 358) 373 dL_law_358 (by decide) (by omega) (fun c358 => ?_) (fun c358 => ?_)
    ·
      exact absurd c358 (by omega)
    ·
      refine wp_aload_n (pc := 361) dL_law_361 rfl ?_
      refine wp_iconst (pc := 362) dL_law_362 ?_
      refine wp_lald (pc := 363) dL_law_363 hf2 (by omega) (by omega) (by decide) ?_
      refine wp_iload (pc := 364) dL_law_364 rfl ?_
      refine wp_i2l (pc := 366) dL_law_366 (psA_R hI) ?_
      rw [hv1 c]
      refine wp_lcmp (pc := 367) dL_law_367 (lg_same _) ?_
      first | refine wp_ifb_eq (pc := 368) 373 dL_law_368 (by decide) (fun c368 => ?_) (fun c368 => ?_) | refine wp_if_eq (pc := 368) 373 dL_law_368 (by decide) (by omega) (fun c368 => ?_) (fun c368 => ?_)
      ·
        refine wp_goto (pc := 373) 1545 dL_law_373 (by decide) ?_
        refine wp_ls ?_ (Kn _ _ _ ⟨_, _, _, _, _, _, _, _, _, _, K2, M2, ⟨f1, hf2⟩, X.mo (by omega)⟩ (by omega) (by omega))
        repeat' (first | exact LE_0 | refine LE_s rfl ?_ | refine LE_s (I_c (by first | omega | (simp only [sm]; omega))) ?_ | refine LE_s (J_c (by first | omega | exact Int.pow_succ _ _ | exact (Int.pow_succ _ _).symm | exact (Int.pow_zero _).symm | (simp only [sm]; omega))) ?_ | refine LE_n ?_)
      ·
        exact absurd rfl c368
  · skip
    refine wp_aload_n (pc := 308) dL_law_308 rfl ?_
    refine wp_aload_n (pc := 309) dL_law_309 rfl ?_
    refine wp_iload (pc := 310) dL_law_310 rfl ?_
    refine wp_iconst (pc := 312) dL_law_312 ?_
    refine wp_iadd (pc := 313) dL_law_313 ?_
    refine wp_sld (pc := 314) dL_law_314 (by omega) (by omega) hL ?_
    refine wp_aload_n (pc := 315) dL_law_315 rfl ?_
    refine wp_iload (pc := 316) dL_law_316 rfl ?_
    refine wp_iconst (pc := 318) dL_law_318 ?_
    refine wp_iadd (pc := 319) dL_law_319 ?_
    refine wp_sld (pc := 320) dL_law_320 (by omega) (by omega) hL ?_
    refine wp_aload_n (pc := 321) dL_law_321 rfl ?_
    refine wp_SW (pc := 322) dL_law_322 (M' := ML_person) (hh := [(0, 10, 13, 13)]) (gt_mem (by decide +kernel) rfl) (gt_mem (by decide +kernel) rfl) (gt_mem (by decide +kernel) rfl) (gt_mem (by decide +kernel) rfl) ⟨by decide, by decide⟩ (as := [.ref D, .int (I (sv g ((i : Int) + 1))), .int (I (sv g ((i : Int) + 2))), .ref ot]) (by show _ = some 4; decide +kernel) (sw_person K hI rv1 rv2 hf (.inr (by omega))) ⟨by decide, by decide, by show k + 1 ≤ 601024; omega, by show n + 6 ≤ 7293034; omega⟩ (Nat.le_of_ble_eq_true rfl) rfl (fun v hp1 hv => ?_)
    obtain ⟨rfl, K1, ⟨f1, hf1, hv1⟩, O1⟩ := hv
    rw [if_neg c]
    show wp g _ _ _ (k + 1) (n + 6) _ _ [.int (I 1)] hp1
    have M1 := M.mv (fun x a b => O1 x (by omega) (by omega))
    refine wp_istore (pc := 325) dL_law_325 (by decide) ?_
    refine wp_aload_n (pc := 327) dL_law_327 rfl ?_
    refine wp_aload_n (pc := 328) dL_law_328 rfl ?_
    refine wp_iload (pc := 329) dL_law_329 rfl ?_
    refine wp_iconst (pc := 331) dL_law_331 ?_
    refine wp_iadd (pc := 332) dL_law_332 ?_
    refine wp_sld (pc := 333) dL_law_333 (by omega) (by omega) hL ?_
    refine wp_aload_n (pc := 334) dL_law_334 rfl ?_
    refine wp_iload (pc := 335) dL_law_335 rfl ?_
    refine wp_iconst (pc := 337) dL_law_337 ?_
    refine wp_iadd (pc := 338) dL_law_338 ?_
    refine wp_sld (pc := 339) dL_law_339 (by omega) (by omega) hL ?_
    refine wd_Vs (pc := 340) dL_law_340 cl_L_51 (sp_Ref_person M1 (by first | assumption | omega) (by first | assumption | omega) (by first | assumption | omega)) rfl rfl M1.o (by rfl) ⟨by decide, by decide, rfl, rfl, by show _ ≤ 601024; omega, by show _ ≤ 7293034; omega⟩ (Nat.le_of_ble_eq_true rfl) (fun hp2 e2 => ?_)
    obtain ⟨M2, O2⟩ := e2
    have K2 := K1.mv (fun x a b => O2.2 x (by omega))
    have hf2 := (O2.2 ot (by omega)).trans hf1
    rw [if_neg c] at M2 ⊢
    have M3 := M2
    obtain ⟨V, A, rd, KM, h6, mx⟩ := M3
    refine wp_istore (pc := 343) dL_law_343 (by decide) ?_
    refine wp_aload_n (pc := 345) dL_law_345 rfl ?_
    refine wd_Vp (pc := 346) dL_law_346 cl_L_52 (sp_Ref_thrown KM h6) rfl rfl M2.o (by rfl) ⟨by decide, by decide, rfl, rfl, by show _ ≤ 601024; omega, by show _ ≤ 7293034; omega⟩ (Nat.le_of_ble_eq_true rfl) ?_
    refine wp_iload (pc := 349) dL_law_349 rfl ?_
    refine wp_icmpx_eq (pc := 351) 356 dL_law_351 (by decide) (fun _ => ?_) (fun c => absurd rfl c)
    refine wp_iload (pc := 356) dL_law_356 rfl ?_
    first | refine wp_ifb_ne (pc := 358) 373 dL_law_358 (by decide) (fun c358 => ?_) (fun c358 => ?_) | refine wp_if_ne (pc := 358) 373 dL_law_358 (by decide) (by omega) (fun c358 => ?_) (fun c358 => ?_)
    ·
      refine wp_goto (pc := 373) 1545 dL_law_373 (by decide) ?_
      refine wp_ls ?_ (Kn _ _ _ ⟨_, _, _, _, _, _, _, _, _, _, K2, M2, ⟨f1, hf2⟩, X.mo (by omega)⟩ (by omega) (by omega))
      repeat' (first | exact LE_0 | refine LE_s rfl ?_ | refine LE_s (I_c (by first | omega | (simp only [sm]; omega))) ?_ | refine LE_s (J_c (by first | omega | exact Int.pow_succ _ _ | exact (Int.pow_succ _ _).symm | exact (Int.pow_zero _).symm | (simp only [sm]; omega))) ?_ | refine LE_n ?_)
    ·
      exact absurd c358 (by omega)
theorem lc_5 (hd : D + 171 ≤ q ∧ q + 25 ≤ ot) (hi : i + 5 ≤ scL g) (hL : scL g ≤ 2560) (hB : 0 ≤ B ∧ B ≤ 1000000) (hk : k + 1 ≤ 601024) (hn : n + 6 ≤ 7293034) (L : LSt hp D q ot B) (Kn : ∀ hp2 k2 n2, LSt hp2 D q ot (B + 1000) → k2 ≤ k + 1 → n2 ≤ n + 6 → wp g ML_law room_1 Q k2 n2 1545 (lls D q ot i) [] hp2) : wp g ML_law room_1 Q k n 376 (lls D q ot i) [] hp := by
  obtain ⟨N, T, U, tx, rw, rt, hs, ss, KT, th, ⟨r, s, Tr, z, Z, K⟩, M, ⟨f, hf⟩, X⟩ := L
  have hI := X.1.1
  have hH := X.1.2.1
  have hZ := X.1.2.2.1
  have hZD := X.1.2.2.2.1
  have hb : T 7 0 < 1900000000 := by have := X.1.2.2.2.2; omega
  have hl := X.2.2.1
  have ho := X.2.2.2.1
  have so := X.2.2.2.2.1
  have hK8 := X.k8
  have hrl : rw.length ≤ 16 := by obtain ⟨F, r0, r1, q1, q2⟩ := K.ro; omega
  have rv1 := sv_R g ((i : Int) + 1)
  have rv2 := sv_R g ((i : Int) + 2)
  have rv3 := sv_R g ((i : Int) + 3)
  have rv4 := sv_R g ((i : Int) + 4)
  by_cases c : btO N (sv g ((i : Int) + 1)) (sv g ((i : Int) + 2)) (sv g ((i : Int) + 3))
  · skip
    refine wp_aload_n (pc := 376) dL_law_376 rfl ?_
    refine wp_aload_n (pc := 377) dL_law_377 rfl ?_
    refine wp_iload (pc := 378) dL_law_378 rfl ?_
    refine wp_iconst (pc := 380) dL_law_380 ?_
    refine wp_iadd (pc := 381) dL_law_381 ?_
    refine wp_sld (pc := 382) dL_law_382 (by omega) (by omega) hL ?_
    refine wp_aload_n (pc := 383) dL_law_383 rfl ?_
    refine wp_iload (pc := 384) dL_law_384 rfl ?_
    refine wp_iconst (pc := 386) dL_law_386 ?_
    refine wp_iadd (pc := 387) dL_law_387 ?_
    refine wp_sld (pc := 388) dL_law_388 (by omega) (by omega) hL ?_
    refine wp_aload_n (pc := 389) dL_law_389 rfl ?_
    refine wp_iload (pc := 390) dL_law_390 rfl ?_
    refine wp_iconst (pc := 392) dL_law_392 ?_
    refine wp_iadd (pc := 393) dL_law_393 ?_
    refine wp_sld (pc := 394) dL_law_394 (by omega) (by omega) hL ?_
    refine wp_aload_n (pc := 395) dL_law_395 rfl ?_
    refine wp_SW (pc := 396) dL_law_396 (M' := ML_between) (hh := [(0, 12, 15, 13)]) (gt_mem (by decide +kernel) rfl) (gt_mem (by decide +kernel) rfl) (gt_mem (by decide +kernel) rfl) (gt_mem (by decide +kernel) rfl) ⟨by decide, by decide⟩ (as := [.ref D, .int (I (sv g ((i : Int) + 1))), .int (I (sv g ((i : Int) + 2))), .int (I (sv g ((i : Int) + 3))), .ref ot]) (by show _ = some 5; decide +kernel) (sw_between K hI rv1 rv2 rv3 hf (.inr (by omega))) ⟨by decide, by decide, by show k + 1 ≤ 601024; omega, by show n + 6 ≤ 7293034; omega⟩ (Nat.le_of_ble_eq_true rfl) rfl (fun v hp1 hv => ?_)
    obtain ⟨rfl, K1, ⟨f1, hf1, hv1⟩, O1⟩ := hv
    rw [if_pos c]
    show wp g _ _ _ (k + 1) (n + 6) _ _ [.int (I 0)] hp1
    have M1 := M.mv (fun x a b => O1 x (by omega) (by omega))
    refine wp_istore (pc := 399) dL_law_399 (by decide) ?_
    refine wp_aload_n (pc := 401) dL_law_401 rfl ?_
    refine wp_aload_n (pc := 402) dL_law_402 rfl ?_
    refine wp_iload (pc := 403) dL_law_403 rfl ?_
    refine wp_iconst (pc := 405) dL_law_405 ?_
    refine wp_iadd (pc := 406) dL_law_406 ?_
    refine wp_sld (pc := 407) dL_law_407 (by omega) (by omega) hL ?_
    refine wp_aload_n (pc := 408) dL_law_408 rfl ?_
    refine wp_iload (pc := 409) dL_law_409 rfl ?_
    refine wp_iconst (pc := 411) dL_law_411 ?_
    refine wp_iadd (pc := 412) dL_law_412 ?_
    refine wp_sld (pc := 413) dL_law_413 (by omega) (by omega) hL ?_
    refine wp_aload_n (pc := 414) dL_law_414 rfl ?_
    refine wp_iload (pc := 415) dL_law_415 rfl ?_
    refine wp_iconst (pc := 417) dL_law_417 ?_
    refine wp_iadd (pc := 418) dL_law_418 ?_
    refine wp_sld (pc := 419) dL_law_419 (by omega) (by omega) hL ?_
    refine wd_Vs (pc := 420) dL_law_420 cl_L_58 (sp_Ref_between M1 (by first | assumption | omega) (by first | assumption | omega) (by first | assumption | omega) (by first | assumption | omega)) rfl rfl M1.o (by rfl) ⟨by decide, by decide, rfl, rfl, by show _ ≤ 601024; omega, by show _ ≤ 7293034; omega⟩ (Nat.le_of_ble_eq_true rfl) (fun hp2 e2 => ?_)
    obtain ⟨M2, O2⟩ := e2
    have K2 := K1.mv (fun x a b => O2.2 x (by omega))
    have hf2 := (O2.2 ot (by omega)).trans hf1
    rw [if_pos c] at M2 ⊢
    have M3 := M2
    obtain ⟨V, A, rd, KM, h6, mx⟩ := M3
    refine wp_istore (pc := 423) dL_law_423 (by decide) ?_
    refine wp_aload_n (pc := 425) dL_law_425 rfl ?_
    refine wd_Vp (pc := 426) dL_law_426 cl_L_52 (sp_Ref_thrown KM h6) rfl rfl M2.o (by rfl) ⟨by decide, by decide, rfl, rfl, by show _ ≤ 601024; omega, by show _ ≤ 7293034; omega⟩ (Nat.le_of_ble_eq_true rfl) ?_
    refine wp_iload (pc := 429) dL_law_429 rfl ?_
    refine wp_icmpx_eq (pc := 431) 436 dL_law_431 (by decide) (fun _ => ?_) (fun c => absurd rfl c)
    refine wp_iload (pc := 436) dL_law_436 rfl ?_
    first | refine wp_ifb_ne (pc := 438) 453 dL_law_438 (by decide) (fun c438 => ?_) (fun c438 => ?_) | refine wp_if_ne (pc := 438) 453 dL_law_438 (by decide) (by omega) (fun c438 => ?_) (fun c438 => ?_)
    ·
      exact absurd c438 (by omega)
    ·
      refine wp_aload_n (pc := 441) dL_law_441 rfl ?_
      refine wp_iconst (pc := 442) dL_law_442 ?_
      refine wp_lald (pc := 443) dL_law_443 hf2 (by omega) (by omega) (by decide) ?_
      refine wp_iload (pc := 444) dL_law_444 rfl ?_
      refine wp_i2l (pc := 446) dL_law_446 (btA_R hI) ?_
      rw [hv1 c]
      refine wp_lcmp (pc := 447) dL_law_447 (lg_same _) ?_
      first | refine wp_ifb_eq (pc := 448) 453 dL_law_448 (by decide) (fun c448 => ?_) (fun c448 => ?_) | refine wp_if_eq (pc := 448) 453 dL_law_448 (by decide) (by omega) (fun c448 => ?_) (fun c448 => ?_)
      ·
        refine wp_goto (pc := 453) 1545 dL_law_453 (by decide) ?_
        refine wp_ls ?_ (Kn _ _ _ ⟨_, _, _, _, _, _, _, _, _, _, K2, M2, ⟨f1, hf2⟩, X.mo (by omega)⟩ (by omega) (by omega))
        repeat' (first | exact LE_0 | refine LE_s rfl ?_ | refine LE_s (I_c (by first | omega | (simp only [sm]; omega))) ?_ | refine LE_s (J_c (by first | omega | exact Int.pow_succ _ _ | exact (Int.pow_succ _ _).symm | exact (Int.pow_zero _).symm | (simp only [sm]; omega))) ?_ | refine LE_n ?_)
      ·
        exact absurd rfl c448
  · skip
    refine wp_aload_n (pc := 376) dL_law_376 rfl ?_
    refine wp_aload_n (pc := 377) dL_law_377 rfl ?_
    refine wp_iload (pc := 378) dL_law_378 rfl ?_
    refine wp_iconst (pc := 380) dL_law_380 ?_
    refine wp_iadd (pc := 381) dL_law_381 ?_
    refine wp_sld (pc := 382) dL_law_382 (by omega) (by omega) hL ?_
    refine wp_aload_n (pc := 383) dL_law_383 rfl ?_
    refine wp_iload (pc := 384) dL_law_384 rfl ?_
    refine wp_iconst (pc := 386) dL_law_386 ?_
    refine wp_iadd (pc := 387) dL_law_387 ?_
    refine wp_sld (pc := 388) dL_law_388 (by omega) (by omega) hL ?_
    refine wp_aload_n (pc := 389) dL_law_389 rfl ?_
    refine wp_iload (pc := 390) dL_law_390 rfl ?_
    refine wp_iconst (pc := 392) dL_law_392 ?_
    refine wp_iadd (pc := 393) dL_law_393 ?_
    refine wp_sld (pc := 394) dL_law_394 (by omega) (by omega) hL ?_
    refine wp_aload_n (pc := 395) dL_law_395 rfl ?_
    refine wp_SW (pc := 396) dL_law_396 (M' := ML_between) (hh := [(0, 12, 15, 13)]) (gt_mem (by decide +kernel) rfl) (gt_mem (by decide +kernel) rfl) (gt_mem (by decide +kernel) rfl) (gt_mem (by decide +kernel) rfl) ⟨by decide, by decide⟩ (as := [.ref D, .int (I (sv g ((i : Int) + 1))), .int (I (sv g ((i : Int) + 2))), .int (I (sv g ((i : Int) + 3))), .ref ot]) (by show _ = some 5; decide +kernel) (sw_between K hI rv1 rv2 rv3 hf (.inr (by omega))) ⟨by decide, by decide, by show k + 1 ≤ 601024; omega, by show n + 6 ≤ 7293034; omega⟩ (Nat.le_of_ble_eq_true rfl) rfl (fun v hp1 hv => ?_)
    obtain ⟨rfl, K1, ⟨f1, hf1, hv1⟩, O1⟩ := hv
    rw [if_neg c]
    show wp g _ _ _ (k + 1) (n + 6) _ _ [.int (I 1)] hp1
    have M1 := M.mv (fun x a b => O1 x (by omega) (by omega))
    refine wp_istore (pc := 399) dL_law_399 (by decide) ?_
    refine wp_aload_n (pc := 401) dL_law_401 rfl ?_
    refine wp_aload_n (pc := 402) dL_law_402 rfl ?_
    refine wp_iload (pc := 403) dL_law_403 rfl ?_
    refine wp_iconst (pc := 405) dL_law_405 ?_
    refine wp_iadd (pc := 406) dL_law_406 ?_
    refine wp_sld (pc := 407) dL_law_407 (by omega) (by omega) hL ?_
    refine wp_aload_n (pc := 408) dL_law_408 rfl ?_
    refine wp_iload (pc := 409) dL_law_409 rfl ?_
    refine wp_iconst (pc := 411) dL_law_411 ?_
    refine wp_iadd (pc := 412) dL_law_412 ?_
    refine wp_sld (pc := 413) dL_law_413 (by omega) (by omega) hL ?_
    refine wp_aload_n (pc := 414) dL_law_414 rfl ?_
    refine wp_iload (pc := 415) dL_law_415 rfl ?_
    refine wp_iconst (pc := 417) dL_law_417 ?_
    refine wp_iadd (pc := 418) dL_law_418 ?_
    refine wp_sld (pc := 419) dL_law_419 (by omega) (by omega) hL ?_
    refine wd_Vs (pc := 420) dL_law_420 cl_L_58 (sp_Ref_between M1 (by first | assumption | omega) (by first | assumption | omega) (by first | assumption | omega) (by first | assumption | omega)) rfl rfl M1.o (by rfl) ⟨by decide, by decide, rfl, rfl, by show _ ≤ 601024; omega, by show _ ≤ 7293034; omega⟩ (Nat.le_of_ble_eq_true rfl) (fun hp2 e2 => ?_)
    obtain ⟨M2, O2⟩ := e2
    have K2 := K1.mv (fun x a b => O2.2 x (by omega))
    have hf2 := (O2.2 ot (by omega)).trans hf1
    rw [if_neg c] at M2 ⊢
    have M3 := M2
    obtain ⟨V, A, rd, KM, h6, mx⟩ := M3
    refine wp_istore (pc := 423) dL_law_423 (by decide) ?_
    refine wp_aload_n (pc := 425) dL_law_425 rfl ?_
    refine wd_Vp (pc := 426) dL_law_426 cl_L_52 (sp_Ref_thrown KM h6) rfl rfl M2.o (by rfl) ⟨by decide, by decide, rfl, rfl, by show _ ≤ 601024; omega, by show _ ≤ 7293034; omega⟩ (Nat.le_of_ble_eq_true rfl) ?_
    refine wp_iload (pc := 429) dL_law_429 rfl ?_
    refine wp_icmpx_eq (pc := 431) 436 dL_law_431 (by decide) (fun _ => ?_) (fun c => absurd rfl c)
    refine wp_iload (pc := 436) dL_law_436 rfl ?_
    first | refine wp_ifb_ne (pc := 438) 453 dL_law_438 (by decide) (fun c438 => ?_) (fun c438 => ?_) | refine wp_if_ne (pc := 438) 453 dL_law_438 (by decide) (by omega) (fun c438 => ?_) (fun c438 => ?_)
    ·
      refine wp_goto (pc := 453) 1545 dL_law_453 (by decide) ?_
      refine wp_ls ?_ (Kn _ _ _ ⟨_, _, _, _, _, _, _, _, _, _, K2, M2, ⟨f1, hf2⟩, X.mo (by omega)⟩ (by omega) (by omega))
      repeat' (first | exact LE_0 | refine LE_s rfl ?_ | refine LE_s (I_c (by first | omega | (simp only [sm]; omega))) ?_ | refine LE_s (J_c (by first | omega | exact Int.pow_succ _ _ | exact (Int.pow_succ _ _).symm | exact (Int.pow_zero _).symm | (simp only [sm]; omega))) ?_ | refine LE_n ?_)
    ·
      exact absurd c438 (by omega)
theorem lc_44 (hd : D + 171 ≤ q ∧ q + 25 ≤ ot) (hi : i + 5 ≤ scL g) (hL : scL g ≤ 2560) (hB : 0 ≤ B ∧ B ≤ 1000000) (hk : k + 1 ≤ 601024) (hn : n + 6 ≤ 7293034) (L : LSt hp D q ot B) (Kn : ∀ hp2 k2 n2, LSt hp2 D q ot (B + 1000) → k2 ≤ k + 1 → n2 ≤ n + 6 → wp g ML_law room_1 Q k2 n2 1545 (lls D q ot i) [] hp2) : wp g ML_law room_1 Q k n 1490 (lls D q ot i) [] hp := by
  obtain ⟨N, T, U, tx, rw, rt, hs, ss, KT, th, ⟨r, s, Tr, z, Z, K⟩, M, ⟨f, hf⟩, X⟩ := L
  have hI := X.1.1
  have hH := X.1.2.1
  have hZ := X.1.2.2.1
  have hZD := X.1.2.2.2.1
  have hb : T 7 0 < 1900000000 := by have := X.1.2.2.2.2; omega
  have hl := X.2.2.1
  have ho := X.2.2.2.1
  have so := X.2.2.2.2.1
  have hK8 := X.k8
  have hrl : rw.length ≤ 16 := by obtain ⟨F, r0, r1, q1, q2⟩ := K.ro; omega
  have rv1 := sv_R g ((i : Int) + 1)
  have rv2 := sv_R g ((i : Int) + 2)
  have rv3 := sv_R g ((i : Int) + 3)
  have rv4 := sv_R g ((i : Int) + 4)
  by_cases c : 0 ≤ sv g ((i : Int) + 1) ∧ sv g ((i : Int) + 1) < rw.length
  · skip
    refine wp_aload_n (pc := 1490) dL_law_1490 rfl ?_
    refine wp_aload_n (pc := 1491) dL_law_1491 rfl ?_
    refine wp_iload (pc := 1492) dL_law_1492 rfl ?_
    refine wp_iconst (pc := 1494) dL_law_1494 ?_
    refine wp_iadd (pc := 1495) dL_law_1495 ?_
    refine wp_sld (pc := 1496) dL_law_1496 (by omega) (by omega) hL ?_
    refine wp_aload_n (pc := 1497) dL_law_1497 rfl ?_
    refine wp_SW (pc := 1498) dL_law_1498 (M' := ML_row) (hh := [(0, 8, 11, 13)]) (gt_mem (by decide +kernel) rfl) (gt_mem (by decide +kernel) rfl) (gt_mem (by decide +kernel) rfl) (gt_mem (by decide +kernel) rfl) ⟨by decide, by decide⟩ (as := [.ref D, .int (I (sv g ((i : Int) + 1))), .ref ot]) (by show _ = some 3; decide +kernel) (sw_row K rv1 hf (.inr (by omega))) ⟨by decide, by decide, by show k + 1 ≤ 601024; omega, by show n + 6 ≤ 7293034; omega⟩ (Nat.le_of_ble_eq_true rfl) rfl (fun v hp1 hv => ?_)
    obtain ⟨rfl, K1, ⟨f1, hf1, hv1⟩, O1⟩ := hv
    rw [if_pos c]
    show wp g _ _ _ (k + 1) (n + 6) _ _ [.int (I 0)] hp1
    have M1 := M.mv (fun x a b => O1 x (by omega) (by omega))
    refine wp_istore (pc := 1501) dL_law_1501 (by decide) ?_
    refine wp_aload_n (pc := 1503) dL_law_1503 rfl ?_
    refine wp_aload_n (pc := 1504) dL_law_1504 rfl ?_
    refine wp_iload (pc := 1505) dL_law_1505 rfl ?_
    refine wp_iconst (pc := 1507) dL_law_1507 ?_
    refine wp_iadd (pc := 1508) dL_law_1508 ?_
    refine wp_sld (pc := 1509) dL_law_1509 (by omega) (by omega) hL ?_
    refine wd_Vs (pc := 1510) dL_law_1510 cl_L_215 (sp_Ref_row M1 (by first | assumption | omega) (by first | assumption | omega)) rfl rfl M1.o (by rfl) ⟨by decide, by decide, rfl, rfl, by show _ ≤ 601024; omega, by show _ ≤ 7293034; omega⟩ (Nat.le_of_ble_eq_true rfl) (fun hp2 e2 => ?_)
    obtain ⟨M2, O2⟩ := e2
    have K2 := K1.mv (fun x a b => O2.2 x (by omega))
    have hf2 := (O2.2 ot (by omega)).trans hf1
    rw [if_pos c] at M2 ⊢
    have M3 := M2
    obtain ⟨V, A, rd, KM, h6, mx⟩ := M3
    refine wp_lstore (pc := 1513) dL_law_1513 (by decide) ?_
    refine wp_aload_n (pc := 1515) dL_law_1515 rfl ?_
    refine wd_Vp (pc := 1516) dL_law_1516 cl_L_52 (sp_Ref_thrown KM h6) rfl rfl M2.o (by rfl) ⟨by decide, by decide, rfl, rfl, by show _ ≤ 601024; omega, by show _ ≤ 7293034; omega⟩ (Nat.le_of_ble_eq_true rfl) ?_
    refine wp_iload (pc := 1519) dL_law_1519 rfl ?_
    refine wp_icmpx_eq (pc := 1521) 1526 dL_law_1521 (by decide) (fun _ => ?_) (fun c => absurd rfl c)
    refine wp_iload (pc := 1526) dL_law_1526 rfl ?_
    first | refine wp_ifb_ne (pc := 1528) 1542 dL_law_1528 (by decide) (fun c1528 => ?_) (fun c1528 => ?_) | refine wp_if_ne (pc := 1528) 1542 dL_law_1528 (by decide) (by omega) (fun c1528 => ?_) (fun c1528 => ?_)
    ·
      exact absurd c1528 (by omega)
    ·
      refine wp_aload_n (pc := 1531) dL_law_1531 rfl ?_
      refine wp_iconst (pc := 1532) dL_law_1532 ?_
      refine wp_lald (pc := 1533) dL_law_1533 hf2 (by omega) (by omega) (by decide) ?_
      refine wp_lload (pc := 1534) dL_law_1534 rfl ?_
      rw [hv1 c]
      refine wp_lcmp (pc := 1536) dL_law_1536 (lg_same _) ?_
      first | refine wp_ifb_eq (pc := 1537) 1542 dL_law_1537 (by decide) (fun c1537 => ?_) (fun c1537 => ?_) | refine wp_if_eq (pc := 1537) 1542 dL_law_1537 (by decide) (by omega) (fun c1537 => ?_) (fun c1537 => ?_)
      ·
        refine wp_goto (pc := 1542) 1545 dL_law_1542 (by decide) ?_
        refine wp_ls ?_ (Kn _ _ _ ⟨_, _, _, _, _, _, _, _, _, _, K2, M2, ⟨f1, hf2⟩, X.mo (by omega)⟩ (by omega) (by omega))
        repeat' (first | exact LE_0 | refine LE_s rfl ?_ | refine LE_s (I_c (by first | omega | (simp only [sm]; omega))) ?_ | refine LE_s (J_c (by first | omega | exact Int.pow_succ _ _ | exact (Int.pow_succ _ _).symm | exact (Int.pow_zero _).symm | (simp only [sm]; omega))) ?_ | refine LE_n ?_)
      ·
        exact absurd rfl c1537
  · skip
    refine wp_aload_n (pc := 1490) dL_law_1490 rfl ?_
    refine wp_aload_n (pc := 1491) dL_law_1491 rfl ?_
    refine wp_iload (pc := 1492) dL_law_1492 rfl ?_
    refine wp_iconst (pc := 1494) dL_law_1494 ?_
    refine wp_iadd (pc := 1495) dL_law_1495 ?_
    refine wp_sld (pc := 1496) dL_law_1496 (by omega) (by omega) hL ?_
    refine wp_aload_n (pc := 1497) dL_law_1497 rfl ?_
    refine wp_SW (pc := 1498) dL_law_1498 (M' := ML_row) (hh := [(0, 8, 11, 13)]) (gt_mem (by decide +kernel) rfl) (gt_mem (by decide +kernel) rfl) (gt_mem (by decide +kernel) rfl) (gt_mem (by decide +kernel) rfl) ⟨by decide, by decide⟩ (as := [.ref D, .int (I (sv g ((i : Int) + 1))), .ref ot]) (by show _ = some 3; decide +kernel) (sw_row K rv1 hf (.inr (by omega))) ⟨by decide, by decide, by show k + 1 ≤ 601024; omega, by show n + 6 ≤ 7293034; omega⟩ (Nat.le_of_ble_eq_true rfl) rfl (fun v hp1 hv => ?_)
    obtain ⟨rfl, K1, ⟨f1, hf1, hv1⟩, O1⟩ := hv
    rw [if_neg c]
    show wp g _ _ _ (k + 1) (n + 6) _ _ [.int (I 1)] hp1
    have M1 := M.mv (fun x a b => O1 x (by omega) (by omega))
    refine wp_istore (pc := 1501) dL_law_1501 (by decide) ?_
    refine wp_aload_n (pc := 1503) dL_law_1503 rfl ?_
    refine wp_aload_n (pc := 1504) dL_law_1504 rfl ?_
    refine wp_iload (pc := 1505) dL_law_1505 rfl ?_
    refine wp_iconst (pc := 1507) dL_law_1507 ?_
    refine wp_iadd (pc := 1508) dL_law_1508 ?_
    refine wp_sld (pc := 1509) dL_law_1509 (by omega) (by omega) hL ?_
    refine wd_Vs (pc := 1510) dL_law_1510 cl_L_215 (sp_Ref_row M1 (by first | assumption | omega) (by first | assumption | omega)) rfl rfl M1.o (by rfl) ⟨by decide, by decide, rfl, rfl, by show _ ≤ 601024; omega, by show _ ≤ 7293034; omega⟩ (Nat.le_of_ble_eq_true rfl) (fun hp2 e2 => ?_)
    obtain ⟨M2, O2⟩ := e2
    have K2 := K1.mv (fun x a b => O2.2 x (by omega))
    have hf2 := (O2.2 ot (by omega)).trans hf1
    rw [if_neg c] at M2 ⊢
    have M3 := M2
    obtain ⟨V, A, rd, KM, h6, mx⟩ := M3
    refine wp_lstore (pc := 1513) dL_law_1513 (by decide) ?_
    refine wp_aload_n (pc := 1515) dL_law_1515 rfl ?_
    refine wd_Vp (pc := 1516) dL_law_1516 cl_L_52 (sp_Ref_thrown KM h6) rfl rfl M2.o (by rfl) ⟨by decide, by decide, rfl, rfl, by show _ ≤ 601024; omega, by show _ ≤ 7293034; omega⟩ (Nat.le_of_ble_eq_true rfl) ?_
    refine wp_iload (pc := 1519) dL_law_1519 rfl ?_
    refine wp_icmpx_eq (pc := 1521) 1526 dL_law_1521 (by decide) (fun _ => ?_) (fun c => absurd rfl c)
    refine wp_iload (pc := 1526) dL_law_1526 rfl ?_
    first | refine wp_ifb_ne (pc := 1528) 1542 dL_law_1528 (by decide) (fun c1528 => ?_) (fun c1528 => ?_) | refine wp_if_ne (pc := 1528) 1542 dL_law_1528 (by decide) (by omega) (fun c1528 => ?_) (fun c1528 => ?_)
    ·
      refine wp_goto (pc := 1542) 1545 dL_law_1542 (by decide) ?_
      refine wp_ls ?_ (Kn _ _ _ ⟨_, _, _, _, _, _, _, _, _, _, K2, M2, ⟨f1, hf2⟩, X.mo (by omega)⟩ (by omega) (by omega))
      repeat' (first | exact LE_0 | refine LE_s rfl ?_ | refine LE_s (I_c (by first | omega | (simp only [sm]; omega))) ?_ | refine LE_s (J_c (by first | omega | exact Int.pow_succ _ _ | exact (Int.pow_succ _ _).symm | exact (Int.pow_zero _).symm | (simp only [sm]; omega))) ?_ | refine LE_n ?_)
    ·
      exact absurd c1528 (by omega)
end LT

