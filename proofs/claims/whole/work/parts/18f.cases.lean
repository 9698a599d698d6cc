/-! the law: the cases of its switch -/
section LC
variable {g : GT} {Q : Option Value → Hp → Prop} {k n D q ot i : Nat} {hp : Hp} {B : Int}
abbrev lls (D q ot i : Nat) : List (Option Value) := [some (.ref 0), some (.ref D), some (.ref q), some (.ref ot), some (.int (I (i : Int))), none, none, none]
theorem lc_0 (hd : D + 171 ≤ q ∧ q + 25 ≤ ot) (hi : i + 5 ≤ scL g) (hL : scL g ≤ 2560) (hB : 0 ≤ B ∧ B ≤ 1000000) (hk : k + 1 ≤ 601024) (hn : n + 6 ≤ 7293034) (L : LSt hp D q ot B) (Kn : ∀ hp2 k2 n2, LSt hp2 D q ot (B + 1000) → k2 ≤ k + 1 → n2 ≤ n + 6 → wp g ML_law room_1 Q k2 n2 1545 (lls D q ot i) [] hp2) : wp g ML_law room_1 Q k n 232 (lls D q ot i) [] hp := by
  obtain ⟨N, T, U, tx, rw, rt, hs, ss, KT, th, ⟨r, s, Tr, z, Z, K⟩, M, ⟨f, hf⟩, X⟩ := L
  have hI := X.1.1
  have hH := X.1.2.1
  have hZ := X.1.2.2.1
  have hZD := X.1.2.2.2.1
  have hb : T 7 0 < 1900000000 := by have := X.1.2.2.2.2; omega
  have hl := X.2.2.1
  have ho := X.2.2.2.1
  have so := X.2.2.2.2.1
  have hK8 := X.k8
  have hrl : rw.length ≤ 16 := by obtain ⟨F, r0, r1, q1, q2⟩ := K.ro; omega
  have rv1 := sv_R g ((i : Int) + 1)
  have rv2 := sv_R g ((i : Int) + 2)
  have rv3 := sv_R g ((i : Int) + 3)
  have rv4 := sv_R g ((i : Int) + 4)
  refine wp_aload_n (pc := 232) dL_law_232 rfl ?_
  refine wp_aload_n (pc := 233) dL_law_233 rfl ?_
  refine wp_iload (pc := 234) dL_law_234 rfl ?_
  refine wp_iconst (pc := 236) dL_law_236 ?_
  refine wp_iadd (pc := 237) dL_law_237 ?_
  refine wp_sld (pc := 238) dL_law_238 (by omega) (by omega) hL ?_
  refine wd_Vs (pc := 239) dL_law_239 cl_L_27 (sp_D_sign K ) rfl rfl K.o (by rfl) ⟨by decide, by decide, rfl, rfl, by show _ ≤ 601024; omega, by show _ ≤ 7293034; omega⟩ (Nat.le_of_ble_eq_true rfl) (fun hp1 e1 => ?_)
  obtain ⟨K1, O1⟩ := e1
  have M1 := M.mv (fun x a b => O1.2 x (by omega))
  have hf1 := (O1.2 ot (by omega)).trans hf
  refine wp_aload_n (pc := 242) dL_law_242 rfl ?_
  refine wp_aload_n (pc := 243) dL_law_243 rfl ?_
  refine wp_iload (pc := 244) dL_law_244 rfl ?_
  refine wp_iconst (pc := 246) dL_law_246 ?_
  refine wp_iadd (pc := 247) dL_law_247 ?_
  refine wp_sld (pc := 248) dL_law_248 (by omega) (by omega) hL ?_
  refine wd_Vs (pc := 249) dL_law_249 cl_L_31 (sp_Ref_sign M1 ) rfl rfl M1.o (by rfl) ⟨by decide, by decide, rfl, rfl, by show _ ≤ 601024; omega, by show _ ≤ 7293034; omega⟩ (Nat.le_of_ble_eq_true rfl) (fun hp2 e2 => ?_)
  obtain ⟨M2, O2⟩ := e2
  have K2 := K1.mv (fun x a b => O2.2 x (by omega))
  have hf2 := (O2.2 ot (by omega)).trans hf1
  refine wp_icmpx_eq (pc := 252) 1545 dL_law_252 (by decide) (fun _ => ?_) (fun c => absurd rfl c)
  exact Kn _ _ _ ⟨_, _, _, _, _, _, _, _, _, _, K2, M2, ⟨f, hf2⟩, X.sign.mo (by omega)⟩ (by omega) (by omega)
theorem lc_1 (hd : D + 171 ≤ q ∧ q + 25 ≤ ot) (hi : i + 5 ≤ scL g) (hL : scL g ≤ 2560) (hB : 0 ≤ B ∧ B ≤ 1000000) (hk : k + 1 ≤ 601024) (hn : n + 6 ≤ 7293034) (L : LSt hp D q ot B) (Kn : ∀ hp2 k2 n2, LSt hp2 D q ot (B + 1000) → k2 ≤ k + 1 → n2 ≤ n + 6 → wp g ML_law room_1 Q k2 n2 1545 (lls D q ot i) [] hp2) : wp g ML_law room_1 Q k n 257 (lls D q ot i) [] hp := by
  obtain ⟨N, T, U, tx, rw, rt, hs, ss, KT, th, ⟨r, s, Tr, z, Z, K⟩, M, ⟨f, hf⟩, X⟩ := L
  have hI := X.1.1
  have hH := X.1.2.1
  have hZ := X.1.2.2.1
  have hZD := X.1.2.2.2.1
  have hb : T 7 0 < 1900000000 := by have := X.1.2.2.2.2; omega
  have hl := X.2.2.1
  have ho := X.2.2.2.1
  have so := X.2.2.2.2.1
  have hK8 := X.k8
  have hrl : rw.length ≤ 16 := by obtain ⟨F, r0, r1, q1, q2⟩ := K.ro; omega
  have rv1 := sv_R g ((i : Int) + 1)
  have rv2 := sv_R g ((i : Int) + 2)
  have rv3 := sv_R g ((i : Int) + 3)
  have rv4 := sv_R g ((i : Int) + 4)
  refine wp_aload_n (pc := 257) dL_law_257 rfl ?_
  refine wp_aload_n (pc := 258) dL_law_258 rfl ?_
  refine wp_iload (pc := 259) dL_law_259 rfl ?_
  refine wp_iconst (pc := 261) dL_law_261 ?_
  refine wp_iadd (pc := 262) dL_law_262 ?_
  refine wp_sld (pc := 263) dL_law_263 (by omega) (by omega) hL ?_
  refine wd_Vs (pc := 264) dL_law_264 cl_L_32 (sp_D_end K (by first | assumption | omega)) rfl rfl K.o (by rfl) ⟨by decide, by decide, rfl, rfl, by show _ ≤ 601024; omega, by show _ ≤ 7293034; omega⟩ (Nat.le_of_ble_eq_true rfl) (fun hp1 e1 => ?_)
  obtain ⟨K1, O1⟩ := e1
  have M1 := M.mv (fun x a b => O1.2 x (by omega))
  have hf1 := (O1.2 ot (by omega)).trans hf
  refine wp_aload_n (pc := 267) dL_law_267 rfl ?_
  refine wp_aload_n (pc := 268) dL_law_268 rfl ?_
  refine wp_iload (pc := 269) dL_law_269 rfl ?_
  refine wp_iconst (pc := 271) dL_law_271 ?_
  refine wp_iadd (pc := 272) dL_law_272 ?_
  refine wp_sld (pc := 273) dL_law_273 (by omega) (by omega) hL ?_
  refine wd_Vs (pc := 274) dL_law_274 cl_L_36 (sp_Ref_end M1 (by first | assumption | omega)) rfl rfl M1.o (by rfl) ⟨by decide, by decide, rfl, rfl, by show _ ≤ 601024; omega, by show _ ≤ 7293034; omega⟩ (Nat.le_of_ble_eq_true rfl) (fun hp2 e2 => ?_)
  obtain ⟨M2, O2⟩ := e2
  have K2 := K1.mv (fun x a b => O2.2 x (by omega))
  have hf2 := (O2.2 ot (by omega)).trans hf1
  refine wp_icmpx_eq (pc := 277) 1545 dL_law_277 (by decide) (fun _ => ?_) (fun c => absurd rfl c)
  exact Kn _ _ _ ⟨_, _, _, _, _, _, _, _, _, _, K2, M2, ⟨f, hf2⟩, X.cut.mo (by omega)⟩ (by omega) (by omega)
theorem lc_2 (hd : D + 171 ≤ q ∧ q + 25 ≤ ot) (hi : i + 5 ≤ scL g) (hL : scL g ≤ 2560) (hB : 0 ≤ B ∧ B ≤ 1000000) (hk : k + 1 ≤ 601024) (hn : n + 6 ≤ 7293034) (L : LSt hp D q ot B) (Kn : ∀ hp2 k2 n2, LSt hp2 D q ot (B + 1000) → k2 ≤ k + 1 → n2 ≤ n + 6 → wp g ML_law room_1 Q k2 n2 1545 (lls D q ot i) [] hp2) : wp g ML_law room_1 Q k n 282 (lls D q ot i) [] hp := by
  obtain ⟨N, T, U, tx, rw, rt, hs, ss, KT, th, ⟨r, s, Tr, z, Z, K⟩, M, ⟨f, hf⟩, X⟩ := L
  have hI := X.1.1
  have hH := X.1.2.1
  have hZ := X.1.2.2.1
  have hZD := X.1.2.2.2.1
  have hb : T 7 0 < 1900000000 := by have := X.1.2.2.2.2; omega
  have hl := X.2.2.1
  have ho := X.2.2.2.1
  have so := X.2.2.2.2.1
  have hK8 := X.k8
  have hrl : rw.length ≤ 16 := by obtain ⟨F, r0, r1, q1, q2⟩ := K.ro; omega
  have rv1 := sv_R g ((i : Int) + 1)
  have rv2 := sv_R g ((i : Int) + 2)
  have rv3 := sv_R g ((i : Int) + 3)
  have rv4 := sv_R g ((i : Int) + 4)
  refine wp_aload_n (pc := 282) dL_law_282 rfl ?_
  refine wd_Vs (pc := 283) dL_law_283 cl_L_37 (sp_D_people K (by first | assumption | omega) (by first | assumption | omega)) rfl rfl K.o (by rfl) ⟨by decide, by decide, rfl, rfl, by show _ ≤ 601024; omega, by show _ ≤ 7293034; omega⟩ (Nat.le_of_ble_eq_true rfl) (fun hp1 e1 => ?_)
  obtain ⟨K1, O1⟩ := e1
  have M1 := M.mv (fun x a b => O1.2 x (by omega))
  have hf1 := (O1.2 ot (by omega)).trans hf
  refine wp_aload_n (pc := 286) dL_law_286 rfl ?_
  refine wd_Vs (pc := 287) dL_law_287 cl_L_41 (sp_Ref_people M1 (by first | assumption | omega) (by first | assumption | omega)) rfl rfl M1.o (by rfl) ⟨by decide, by decide, rfl, rfl, by show _ ≤ 601024; omega, by show _ ≤ 7293034; omega⟩ (Nat.le_of_ble_eq_true rfl) (fun hp2 e2 => ?_)
  obtain ⟨M2, O2⟩ := e2
  have K2 := K1.mv (fun x a b => O2.2 x (by omega))
  have hf2 := (O2.2 ot (by omega)).trans hf1
  refine wp_icmpx_eq (pc := 290) 1545 dL_law_290 (by decide) (fun _ => ?_) (fun c => absurd rfl c)
  exact Kn _ _ _ ⟨_, _, _, _, _, _, _, _, _, _, K2, M2, ⟨f, hf2⟩, X.ppl.mo (by omega)⟩ (by omega) (by omega)
theorem lc_3 (hd : D + 171 ≤ q ∧ q + 25 ≤ ot) (hi : i + 5 ≤ scL g) (hL : scL g ≤ 2560) (hB : 0 ≤ B ∧ B ≤ 1000000) (hk : k + 1 ≤ 601024) (hn : n + 6 ≤ 7293034) (L : LSt hp D q ot B) (Kn : ∀ hp2 k2 n2, LSt hp2 D q ot (B + 1000) → k2 ≤ k + 1 → n2 ≤ n + 6 → wp g ML_law room_1 Q k2 n2 1545 (lls D q ot i) [] hp2) : wp g ML_law room_1 Q k n 295 (lls D q ot i) [] hp := by
  obtain ⟨N, T, U, tx, rw, rt, hs, ss, KT, th, ⟨r, s, Tr, z, Z, K⟩, M, ⟨f, hf⟩, X⟩ := L
  have hI := X.1.1
  have hH := X.1.2.1
  have hZ := X.1.2.2.1
  have hZD := X.1.2.2.2.1
  have hb : T 7 0 < 1900000000 := by have := X.1.2.2.2.2; omega
  have hl := X.2.2.1
  have ho := X.2.2.2.1
  have so := X.2.2.2.2.1
  have hK8 := X.k8
  have hrl : rw.length ≤ 16 := by obtain ⟨F, r0, r1, q1, q2⟩ := K.ro; omega
  have rv1 := sv_R g ((i : Int) + 1)
  have rv2 := sv_R g ((i : Int) + 2)
  have rv3 := sv_R g ((i : Int) + 3)
  have rv4 := sv_R g ((i : Int) + 4)
  refine wp_aload_n (pc := 295) dL_law_295 rfl ?_
  refine wd_Vs (pc := 296) dL_law_296 cl_L_42 (sp_D_rule K (by first | assumption | omega)) rfl rfl K.o (by rfl) ⟨by decide, by decide, rfl, rfl, by show _ ≤ 601024; omega, by show _ ≤ 7293034; omega⟩ (Nat.le_of_ble_eq_true rfl) (fun hp1 e1 => ?_)
  obtain ⟨K1, O1⟩ := e1
  have M1 := M.mv (fun x a b => O1.2 x (by omega))
  have hf1 := (O1.2 ot (by omega)).trans hf
  refine wp_aload_n (pc := 299) dL_law_299 rfl ?_
  refine wd_Vs (pc := 300) dL_law_300 cl_L_45 (sp_rule M1 ) rfl rfl M1.o (by rfl) ⟨by decide, by decide, rfl, rfl, by show _ ≤ 601024; omega, by show _ ≤ 7293034; omega⟩ (Nat.le_of_ble_eq_true rfl) (fun hp2 e2 => ?_)
  obtain ⟨M2, O2⟩ := e2
  have K2 := K1.mv (fun x a b => O2.2 x (by omega))
  have hf2 := (O2.2 ot (by omega)).trans hf1
  refine wp_icmpx_eq (pc := 303) 1545 dL_law_303 (by decide) (fun _ => ?_) (fun c => absurd rfl c)
  exact Kn _ _ _ ⟨_, _, _, _, _, _, _, _, _, _, K2, M2, ⟨f, hf2⟩, X.t0.mo (by omega)⟩ (by omega) (by omega)
theorem lc_6 (hd : D + 171 ≤ q ∧ q + 25 ≤ ot) (hi : i + 5 ≤ scL g) (hL : scL g ≤ 2560) (hB : 0 ≤ B ∧ B ≤ 1000000) (hk : k + 1 ≤ 601024) (hn : n + 6 ≤ 7293034) (L : LSt hp D q ot B) (Kn : ∀ hp2 k2 n2, LSt hp2 D q ot (B + 1000) → k2 ≤ k + 1 → n2 ≤ n + 6 → wp g ML_law room_1 Q k2 n2 1545 (lls D q ot i) [] hp2) : wp g ML_law room_1 Q k n 456 (lls D q ot i) [] hp := by
  obtain ⟨N, T, U, tx, rw, rt, hs, ss, KT, th, ⟨r, s, Tr, z, Z, K⟩, M, ⟨f, hf⟩, X⟩ := L
  have hI := X.1.1
  have hH := X.1.2.1
  have hZ := X.1.2.2.1
  have hZD := X.1.2.2.2.1
  have hb : T 7 0 < 1900000000 := by have := X.1.2.2.2.2; omega
  have hl := X.2.2.1
  have ho := X.2.2.2.1
  have so := X.2.2.2.2.1
  have hK8 := X.k8
  have hrl : rw.length ≤ 16 := by obtain ⟨F, r0, r1, q1, q2⟩ := K.ro; omega
  have rv1 := sv_R g ((i : Int) + 1)
  have rv2 := sv_R g ((i : Int) + 2)
  have rv3 := sv_R g ((i : Int) + 3)
  have rv4 := sv_R g ((i : Int) + 4)
  refine wp_aload_n (pc := 456) dL_law_456 rfl ?_
  refine wp_aload_n (pc := 457) dL_law_457 rfl ?_
  refine wp_iload (pc := 458) dL_law_458 rfl ?_
  refine wp_iconst (pc := 460) dL_law_460 ?_
  refine wp_iadd (pc := 461) dL_law_461 ?_
  refine wp_sld (pc := 462) dL_law_462 (by omega) (by omega) hL ?_
  refine wp_aload_n (pc := 463) dL_law_463 rfl ?_
  refine wp_iload (pc := 464) dL_law_464 rfl ?_
  refine wp_iconst (pc := 466) dL_law_466 ?_
  refine wp_iadd (pc := 467) dL_law_467 ?_
  refine wp_sld (pc := 468) dL_law_468 (by omega) (by omega) hL ?_
  refine wp_aload_n (pc := 469) dL_law_469 rfl ?_
  refine wp_iload (pc := 470) dL_law_470 rfl ?_
  refine wp_iconst (pc := 472) dL_law_472 ?_
  refine wp_iadd (pc := 473) dL_law_473 ?_
  refine wp_sld (pc := 474) dL_law_474 (by omega) (by omega) hL ?_
  refine wp_aload_n (pc := 475) dL_law_475 rfl ?_
  refine wp_iload (pc := 476) dL_law_476 rfl ?_
  refine wp_iconst (pc := 478) dL_law_478 ?_
  refine wp_iadd (pc := 479) dL_law_479 ?_
  refine wp_sld (pc := 480) dL_law_480 (by omega) (by omega) hL ?_
  refine wd_Vs (pc := 481) dL_law_481 cl_L_59 (sp_D_sheet K (by first | assumption | omega) (by first | assumption | omega) (by first | assumption | omega)) rfl rfl K.o (by rfl) ⟨by decide, by decide, rfl, rfl, by show _ ≤ 601024; omega, by show _ ≤ 7293034; omega⟩ (Nat.le_of_ble_eq_true rfl) (fun hp1 e1 => ?_)
  obtain ⟨K1, O1⟩ := e1
  have M1 := M.mv (fun x a b => O1.2 x (by omega))
  have hf1 := (O1.2 ot (by omega)).trans hf
  refine wp_aload_n (pc := 484) dL_law_484 rfl ?_
  refine wp_aload_n (pc := 485) dL_law_485 rfl ?_
  refine wp_iload (pc := 486) dL_law_486 rfl ?_
  refine wp_iconst (pc := 488) dL_law_488 ?_
  refine wp_iadd (pc := 489) dL_law_489 ?_
  refine wp_sld (pc := 490) dL_law_490 (by omega) (by omega) hL ?_
  refine wp_aload_n (pc := 491) dL_law_491 rfl ?_
  refine wp_iload (pc := 492) dL_law_492 rfl ?_
  refine wp_iconst (pc := 494) dL_law_494 ?_
  refine wp_iadd (pc := 495) dL_law_495 ?_
  refine wp_sld (pc := 496) dL_law_496 (by omega) (by omega) hL ?_
  refine wp_aload_n (pc := 497) dL_law_497 rfl ?_
  refine wp_iload (pc := 498) dL_law_498 rfl ?_
  refine wp_iconst (pc := 500) dL_law_500 ?_
  refine wp_iadd (pc := 501) dL_law_501 ?_
  refine wp_sld (pc := 502) dL_law_502 (by omega) (by omega) hL ?_
  refine wp_aload_n (pc := 503) dL_law_503 rfl ?_
  refine wp_iload (pc := 504) dL_law_504 rfl ?_
  refine wp_iconst (pc := 506) dL_law_506 ?_
  refine wp_iadd (pc := 507) dL_law_507 ?_
  refine wp_sld (pc := 508) dL_law_508 (by omega) (by omega) hL ?_
  refine wd_Vs (pc := 509) dL_law_509 cl_L_63 (sp_Ref_sheet M1 (by first | assumption | omega) (by first | assumption | omega) (by first | assumption | omega)) rfl rfl M1.o (by rfl) ⟨by decide, by decide, rfl, rfl, by show _ ≤ 601024; omega, by show _ ≤ 7293034; omega⟩ (Nat.le_of_ble_eq_true rfl) (fun hp2 e2 => ?_)
  obtain ⟨M2, O2⟩ := e2
  have K2 := K1.mv (fun x a b => O2.2 x (by omega))
  have hf2 := (O2.2 ot (by omega)).trans hf1
  refine wp_icmpx_eq (pc := 512) 1545 dL_law_512 (by decide) (fun _ => ?_) (fun c => absurd rfl c)
  exact Kn _ _ _ ⟨_, _, _, _, _, _, _, _, _, _, K2, M2, ⟨f, hf2⟩, (X.town X.1.she).mo (by omega)⟩ (by omega) (by omega)
theorem lc_7 (hd : D + 171 ≤ q ∧ q + 25 ≤ ot) (hi : i + 5 ≤ scL g) (hL : scL g ≤ 2560) (hB : 0 ≤ B ∧ B ≤ 1000000) (hk : k + 1 ≤ 601024) (hn : n + 6 ≤ 7293034) (L : LSt hp D q ot B) (Kn : ∀ hp2 k2 n2, LSt hp2 D q ot (B + 1000) → k2 ≤ k + 1 → n2 ≤ n + 6 → wp g ML_law room_1 Q k2 n2 1545 (lls D q ot i) [] hp2) : wp g ML_law room_1 Q k n 517 (lls D q ot i) [] hp := by
  obtain ⟨N, T, U, tx, rw, rt, hs, ss, KT, th, ⟨r, s, Tr, z, Z, K⟩, M, ⟨f, hf⟩, X⟩ := L
  have hI := X.1.1
  have hH := X.1.2.1
  have hZ := X.1.2.2.1
  have hZD := X.1.2.2.2.1
  have hb : T 7 0 < 1900000000 := by have := X.1.2.2.2.2; omega
  have hl := X.2.2.1
  have ho := X.2.2.2.1
  have so := X.2.2.2.2.1
  have hK8 := X.k8
  have hrl : rw.length ≤ 16 := by obtain ⟨F, r0, r1, q1, q2⟩ := K.ro; omega
  have rv1 := sv_R g ((i : Int) + 1)
  have rv2 := sv_R g ((i : Int) + 2)
  have rv3 := sv_R g ((i : Int) + 3)
  have rv4 := sv_R g ((i : Int) + 4)
  refine wp_aload_n (pc := 517) dL_law_517 rfl ?_
  refine wp_aload_n (pc := 518) dL_law_518 rfl ?_
  refine wp_iload (pc := 519) dL_law_519 rfl ?_
  refine wp_iconst (pc := 521) dL_law_521 ?_
  refine wp_iadd (pc := 522) dL_law_522 ?_
  refine wp_sld (pc := 523) dL_law_523 (by omega) (by omega) hL ?_
  refine wd_Vs (pc := 524) dL_law_524 cl_L_64 (sp_D_hours K (by first | assumption | omega) (by first | assumption | omega) (by first | assumption | omega) (by first | assumption | omega)) rfl rfl K.o (by rfl) ⟨by decide, by decide, rfl, rfl, by show _ ≤ 601024; omega, by show _ ≤ 7293034; omega⟩ (Nat.le_of_ble_eq_true rfl) (fun hp1 e1 => ?_)
  obtain ⟨K1, O1⟩ := e1
  have M1 := M.mv (fun x a b => O1.2 x (by omega))
  have hf1 := (O1.2 ot (by omega)).trans hf
  refine wp_aload_n (pc := 527) dL_law_527 rfl ?_
  refine wp_aload_n (pc := 528) dL_law_528 rfl ?_
  refine wp_iload (pc := 529) dL_law_529 rfl ?_
  refine wp_iconst (pc := 531) dL_law_531 ?_
  refine wp_iadd (pc := 532) dL_law_532 ?_
  refine wp_sld (pc := 533) dL_law_533 (by omega) (by omega) hL ?_
  refine wd_Vs (pc := 534) dL_law_534 cl_L_67 (sp_Ref_hours M1 (by first | assumption | omega) (by first | assumption | omega) (by first | assumption | omega) (by first | assumption | omega)) rfl rfl M1.o (by rfl) ⟨by decide, by decide, rfl, rfl, by show _ ≤ 601024; omega, by show _ ≤ 7293034; omega⟩ (Nat.le_of_ble_eq_true rfl) (fun hp2 e2 => ?_)
  obtain ⟨M2, O2⟩ := e2
  have K2 := K1.mv (fun x a b => O2.2 x (by omega))
  have hf2 := (O2.2 ot (by omega)).trans hf1
  refine wp_icmpx_eq (pc := 537) 1545 dL_law_537 (by decide) (fun _ => ?_) (fun c => absurd rfl c)
  exact Kn _ _ _ ⟨_, _, _, _, _, _, _, _, _, _, K2, M2, ⟨f, hf2⟩, X.deed (by omega) (X.1.hoT (by omega))⟩ (by omega) (by omega)
theorem lc_8 (hd : D + 171 ≤ q ∧ q + 25 ≤ ot) (hi : i + 5 ≤ scL g) (hL : scL g ≤ 2560) (hB : 0 ≤ B ∧ B ≤ 1000000) (hk : k + 1 ≤ 601024) (hn : n + 6 ≤ 7293034) (L : LSt hp D q ot B) (Kn : ∀ hp2 k2 n2, LSt hp2 D q ot (B + 1000) → k2 ≤ k + 1 → n2 ≤ n + 6 → wp g ML_law room_1 Q k2 n2 1545 (lls D q ot i) [] hp2) : wp g ML_law room_1 Q k n 542 (lls D q ot i) [] hp := by
  obtain ⟨N, T, U, tx, rw, rt, hs, ss, KT, th, ⟨r, s, Tr, z, Z, K⟩, M, ⟨f, hf⟩, X⟩ := L
  have hI := X.1.1
  have hH := X.1.2.1
  have hZ := X.1.2.2.1
  have hZD := X.1.2.2.2.1
  have hb : T 7 0 < 1900000000 := by have := X.1.2.2.2.2; omega
  have hl := X.2.2.1
  have ho := X.2.2.2.1
  have so := X.2.2.2.2.1
  have hK8 := X.k8
  have hrl : rw.length ≤ 16 := by obtain ⟨F, r0, r1, q1, q2⟩ := K.ro; omega
  have rv1 := sv_R g ((i : Int) + 1)
  have rv2 := sv_R g ((i : Int) + 2)
  have rv3 := sv_R g ((i : Int) + 3)
  have rv4 := sv_R g ((i : Int) + 4)
  refine wp_aload_n (pc := 542) dL_law_542 rfl ?_
  refine wp_aload_n (pc := 543) dL_law_543 rfl ?_
  refine wp_iload (pc := 544) dL_law_544 rfl ?_
  refine wp_iconst (pc := 546) dL_law_546 ?_
  refine wp_iadd (pc := 547) dL_law_547 ?_
  refine wp_sld (pc := 548) dL_law_548 (by omega) (by omega) hL ?_
  refine wp_aload_n (pc := 549) dL_law_549 rfl ?_
  refine wp_iload (pc := 550) dL_law_550 rfl ?_
  refine wp_iconst (pc := 552) dL_law_552 ?_
  refine wp_iadd (pc := 553) dL_law_553 ?_
  refine wp_sld (pc := 554) dL_law_554 (by omega) (by omega) hL ?_
  refine wd_Vs (pc := 555) dL_law_555 cl_L_68 (sp_D_dies K (by first | assumption | omega) (by first | assumption | omega) (by first | assumption | omega)) rfl rfl K.o (by rfl) ⟨by decide, by decide, rfl, rfl, by show _ ≤ 601024; omega, by show _ ≤ 7293034; omega⟩ (Nat.le_of_ble_eq_true rfl) (fun hp1 e1 => ?_)
  obtain ⟨K1, O1⟩ := e1
  have M1 := M.mv (fun x a b => O1.2 x (by omega))
  have hf1 := (O1.2 ot (by omega)).trans hf
  refine wp_aload_n (pc := 558) dL_law_558 rfl ?_
  refine wp_aload_n (pc := 559) dL_law_559 rfl ?_
  refine wp_iload (pc := 560) dL_law_560 rfl ?_
  refine wp_iconst (pc := 562) dL_law_562 ?_
  refine wp_iadd (pc := 563) dL_law_563 ?_
  refine wp_sld (pc := 564) dL_law_564 (by omega) (by omega) hL ?_
  refine wp_aload_n (pc := 565) dL_law_565 rfl ?_
  refine wp_iload (pc := 566) dL_law_566 rfl ?_
  refine wp_iconst (pc := 568) dL_law_568 ?_
  refine wp_iadd (pc := 569) dL_law_569 ?_
  refine wp_sld (pc := 570) dL_law_570 (by omega) (by omega) hL ?_
  refine wd_Vs (pc := 571) dL_law_571 cl_L_71 (sp_Ref_dies M1 (by first | assumption | omega) (by first | assumption | omega) (by first | assumption | omega)) rfl rfl M1.o (by rfl) ⟨by decide, by decide, rfl, rfl, by show _ ≤ 601024; omega, by show _ ≤ 7293034; omega⟩ (Nat.le_of_ble_eq_true rfl) (fun hp2 e2 => ?_)
  obtain ⟨M2, O2⟩ := e2
  have K2 := K1.mv (fun x a b => O2.2 x (by omega))
  have hf2 := (O2.2 ot (by omega)).trans hf1
  refine wp_icmpx_eq (pc := 574) 1545 dL_law_574 (by decide) (fun _ => ?_) (fun c => absurd rfl c)
  exact Kn _ _ _ ⟨_, _, _, _, _, _, _, _, _, _, K2, M2, ⟨f, hf2⟩, X.deed (by omega) (X.1.die.mo (by omega))⟩ (by omega) (by omega)
theorem lc_9 (hd : D + 171 ≤ q ∧ q + 25 ≤ ot) (hi : i + 5 ≤ scL g) (hL : scL g ≤ 2560) (hB : 0 ≤ B ∧ B ≤ 1000000) (hk : k + 1 ≤ 601024) (hn : n + 6 ≤ 7293034) (L : LSt hp D q ot B) (Kn : ∀ hp2 k2 n2, LSt hp2 D q ot (B + 1000) → k2 ≤ k + 1 → n2 ≤ n + 6 → wp g ML_law room_1 Q k2 n2 1545 (lls D q ot i) [] hp2) : wp g ML_law room_1 Q k n 579 (lls D q ot i) [] hp := by
  obtain ⟨N, T, U, tx, rw, rt, hs, ss, KT, th, ⟨r, s, Tr, z, Z, K⟩, M, ⟨f, hf⟩, X⟩ := L
  have hI := X.1.1
  have hH := X.1.2.1
  have hZ := X.1.2.2.1
  have hZD := X.1.2.2.2.1
  have hb : T 7 0 < 1900000000 := by have := X.1.2.2.2.2; omega
  have hl := X.2.2.1
  have ho := X.2.2.2.1
  have so := X.2.2.2.2.1
  have hK8 := X.k8
  have hrl : rw.length ≤ 16 := by obtain ⟨F, r0, r1, q1, q2⟩ := K.ro; omega
  have rv1 := sv_R g ((i : Int) + 1)
  have rv2 := sv_R g ((i : Int) + 2)
  have rv3 := sv_R g ((i : Int) + 3)
  have rv4 := sv_R g ((i : Int) + 4)
  refine wp_aload_n (pc := 579) dL_law_579 rfl ?_
  refine wp_aload_n (pc := 580) dL_law_580 rfl ?_
  refine wp_iload (pc := 581) dL_law_581 rfl ?_
  refine wp_iconst (pc := 583) dL_law_583 ?_
  refine wp_iadd (pc := 584) dL_law_584 ?_
  refine wp_sld (pc := 585) dL_law_585 (by omega) (by omega) hL ?_
  refine wd_Vs (pc := 586) dL_law_586 cl_L_72 (sp_D_coughs K (by first | assumption | omega) (by first | assumption | omega)) rfl rfl K.o (by rfl) ⟨by decide, by decide, rfl, rfl, by show _ ≤ 601024; omega, by show _ ≤ 7293034; omega⟩ (Nat.le_of_ble_eq_true rfl) (fun hp1 e1 => ?_)
  obtain ⟨K1, O1⟩ := e1
  have M1 := M.mv (fun x a b => O1.2 x (by omega))
  have hf1 := (O1.2 ot (by omega)).trans hf
  refine wp_aload_n (pc := 589) dL_law_589 rfl ?_
  refine wp_aload_n (pc := 590) dL_law_590 rfl ?_
  refine wp_iload (pc := 591) dL_law_591 rfl ?_
  refine wp_iconst (pc := 593) dL_law_593 ?_
  refine wp_iadd (pc := 594) dL_law_594 ?_
  refine wp_sld (pc := 595) dL_law_595 (by omega) (by omega) hL ?_
  refine wd_Vs (pc := 596) dL_law_596 cl_L_75 (sp_Ref_coughs M1 (by first | assumption | omega) (by first | assumption | omega)) rfl rfl M1.o (by rfl) ⟨by decide, by decide, rfl, rfl, by show _ ≤ 601024; omega, by show _ ≤ 7293034; omega⟩ (Nat.le_of_ble_eq_true rfl) (fun hp2 e2 => ?_)
  obtain ⟨M2, O2⟩ := e2
  have K2 := K1.mv (fun x a b => O2.2 x (by omega))
  have hf2 := (O2.2 ot (by omega)).trans hf1
  refine wp_icmpx_eq (pc := 599) 1545 dL_law_599 (by decide) (fun _ => ?_) (fun c => absurd rfl c)
  exact Kn _ _ _ ⟨_, _, _, _, _, _, _, _, _, _, K2, M2, ⟨f, hf2⟩, X.deed (by omega) (X.1.cou.mo (by omega))⟩ (by omega) (by omega)
theorem lc_10 (hd : D + 171 ≤ q ∧ q + 25 ≤ ot) (hi : i + 5 ≤ scL g) (hL : scL g ≤ 2560) (hB : 0 ≤ B ∧ B ≤ 1000000) (hk : k + 1 ≤ 601024) (hn : n + 6 ≤ 7293034) (L : LSt hp D q ot B) (Kn : ∀ hp2 k2 n2, LSt hp2 D q ot (B + 1000) → k2 ≤ k + 1 → n2 ≤ n + 6 → wp g ML_law room_1 Q k2 n2 1545 (lls D q ot i) [] hp2) : wp g ML_law room_1 Q k n 604 (lls D q ot i) [] hp := by
  obtain ⟨N, T, U, tx, rw, rt, hs, ss, KT, th, ⟨r, s, Tr, z, Z, K⟩, M, ⟨f, hf⟩, X⟩ := L
  have hI := X.1.1
  have hH := X.1.2.1
  have hZ := X.1.2.2.1
  have hZD := X.1.2.2.2.1
  have hb : T 7 0 < 1900000000 := by have := X.1.2.2.2.2; omega
  have hl := X.2.2.1
  have ho := X.2.2.2.1
  have so := X.2.2.2.2.1
  have hK8 := X.k8
  have hrl : rw.length ≤ 16 := by obtain ⟨F, r0, r1, q1, q2⟩ := K.ro; omega
  have rv1 := sv_R g ((i : Int) + 1)
  have rv2 := sv_R g ((i : Int) + 2)
  have rv3 := sv_R g ((i : Int) + 3)
  have rv4 := sv_R g ((i : Int) + 4)
  refine wp_aload_n (pc := 604) dL_law_604 rfl ?_
  refine wp_aload_n (pc := 605) dL_law_605 rfl ?_
  refine wp_iload (pc := 606) dL_law_606 rfl ?_
  refine wp_iconst (pc := 608) dL_law_608 ?_
  refine wp_iadd (pc := 609) dL_law_609 ?_
  refine wp_sld (pc := 610) dL_law_610 (by omega) (by omega) hL ?_
  refine wp_aload_n (pc := 611) dL_law_611 rfl ?_
  refine wp_iload (pc := 612) dL_law_612 rfl ?_
  refine wp_iconst (pc := 614) dL_law_614 ?_
  refine wp_iadd (pc := 615) dL_law_615 ?_
  refine wp_sld (pc := 616) dL_law_616 (by omega) (by omega) hL ?_
  refine wp_aload_n (pc := 617) dL_law_617 rfl ?_
  refine wp_iload (pc := 618) dL_law_618 rfl ?_
  refine wp_iconst (pc := 620) dL_law_620 ?_
  refine wp_iadd (pc := 621) dL_law_621 ?_
  refine wp_sld (pc := 622) dL_law_622 (by omega) (by omega) hL ?_
  refine wd_Vs (pc := 623) dL_law_623 cl_L_76 (sp_D_lends K (by first | assumption | omega) (by first | assumption | omega) (by first | assumption | omega) (by first | assumption | omega)) rfl rfl K.o (by rfl) ⟨by decide, by decide, rfl, rfl, by show _ ≤ 601024; omega, by show _ ≤ 7293034; omega⟩ (Nat.le_of_ble_eq_true rfl) (fun hp1 e1 => ?_)
  obtain ⟨K1, O1⟩ := e1
  have M1 := M.mv (fun x a b => O1.2 x (by omega))
  have hf1 := (O1.2 ot (by omega)).trans hf
  refine wp_aload_n (pc := 626) dL_law_626 rfl ?_
  refine wp_aload_n (pc := 627) dL_law_627 rfl ?_
  refine wp_iload (pc := 628) dL_law_628 rfl ?_
  refine wp_iconst (pc := 630) dL_law_630 ?_
  refine wp_iadd (pc := 631) dL_law_631 ?_
  refine wp_sld (pc := 632) dL_law_632 (by omega) (by omega) hL ?_
  refine wp_aload_n (pc := 633) dL_law_633 rfl ?_
  refine wp_iload (pc := 634) dL_law_634 rfl ?_
  refine wp_iconst (pc := 636) dL_law_636 ?_
  refine wp_iadd (pc := 637) dL_law_637 ?_
  refine wp_sld (pc := 638) dL_law_638 (by omega) (by omega) hL ?_
  refine wp_aload_n (pc := 639) dL_law_639 rfl ?_
  refine wp_iload (pc := 640) dL_law_640 rfl ?_
  refine wp_iconst (pc := 642) dL_law_642 ?_
  refine wp_iadd (pc := 643) dL_law_643 ?_
  refine wp_sld (pc := 644) dL_law_644 (by omega) (by omega) hL ?_
  refine wd_Vs (pc := 645) dL_law_645 cl_L_79 (sp_Ref_lends M1 (by first | assumption | omega) (by first | assumption | omega) (by first | assumption | omega) (by first | assumption | omega)) rfl rfl M1.o (by rfl) ⟨by decide, by decide, rfl, rfl, by show _ ≤ 601024; omega, by show _ ≤ 7293034; omega⟩ (Nat.le_of_ble_eq_true rfl) (fun hp2 e2 => ?_)
  obtain ⟨M2, O2⟩ := e2
  have K2 := K1.mv (fun x a b => O2.2 x (by omega))
  have hf2 := (O2.2 ot (by omega)).trans hf1
  refine wp_icmpx_eq (pc := 648) 1545 dL_law_648 (by decide) (fun _ => ?_) (fun c => absurd rfl c)
  exact Kn _ _ _ ⟨_, _, _, _, _, _, _, _, _, _, K2, M2, ⟨f, hf2⟩, X.deed (by omega) (X.1.len.mo (by omega))⟩ (by omega) (by omega)
theorem lc_11 (hd : D + 171 ≤ q ∧ q + 25 ≤ ot) (hi : i + 5 ≤ scL g) (hL : scL g ≤ 2560) (hB : 0 ≤ B ∧ B ≤ 1000000) (hk : k + 1 ≤ 601024) (hn : n + 6 ≤ 7293034) (L : LSt hp D q ot B) (Kn : ∀ hp2 k2 n2, LSt hp2 D q ot (B + 1000) → k2 ≤ k + 1 → n2 ≤ n + 6 → wp g ML_law room_1 Q k2 n2 1545 (lls D q ot i) [] hp2) : wp g ML_law room_1 Q k n 653 (lls D q ot i) [] hp := by
  obtain ⟨N, T, U, tx, rw, rt, hs, ss, KT, th, ⟨r, s, Tr, z, Z, K⟩, M, ⟨f, hf⟩, X⟩ := L
  have hI := X.1.1
  have hH := X.1.2.1
  have hZ := X.1.2.2.1
  have hZD := X.1.2.2.2.1
  have hb : T 7 0 < 1900000000 := by have := X.1.2.2.2.2; omega
  have hl := X.2.2.1
  have ho := X.2.2.2.1
  have so := X.2.2.2.2.1
  have hK8 := X.k8
  have hrl : rw.length ≤ 16 := by obtain ⟨F, r0, r1, q1, q2⟩ := K.ro; omega
  have rv1 := sv_R g ((i : Int) + 1)
  have rv2 := sv_R g ((i : Int) + 2)
  have rv3 := sv_R g ((i : Int) + 3)
  have rv4 := sv_R g ((i : Int) + 4)
  refine wp_aload_n (pc := 653) dL_law_653 rfl ?_
  refine wp_aload_n (pc := 654) dL_law_654 rfl ?_
  refine wp_iload (pc := 655) dL_law_655 rfl ?_
  refine wp_iconst (pc := 657) dL_law_657 ?_
  refine wp_iadd (pc := 658) dL_law_658 ?_
  refine wp_sld (pc := 659) dL_law_659 (by omega) (by omega) hL ?_
  refine wp_aload_n (pc := 660) dL_law_660 rfl ?_
  refine wp_iload (pc := 661) dL_law_661 rfl ?_
  refine wp_iconst (pc := 663) dL_law_663 ?_
  refine wp_iadd (pc := 664) dL_law_664 ?_
  refine wp_sld (pc := 665) dL_law_665 (by omega) (by omega) hL ?_
  refine wp_aload_n (pc := 666) dL_law_666 rfl ?_
  refine wp_iload (pc := 667) dL_law_667 rfl ?_
  refine wp_iconst (pc := 669) dL_law_669 ?_
  refine wp_iadd (pc := 670) dL_law_670 ?_
  refine wp_sld (pc := 671) dL_law_671 (by omega) (by omega) hL ?_
  refine wd_Vs (pc := 672) dL_law_672 cl_L_80 (sp_D_pays K (by first | assumption | omega) (by first | assumption | omega) (by first | assumption | omega) (by first | assumption | omega)) rfl rfl K.o (by rfl) ⟨by decide, by decide, rfl, rfl, by show _ ≤ 601024; omega, by show _ ≤ 7293034; omega⟩ (Nat.le_of_ble_eq_true rfl) (fun hp1 e1 => ?_)
  obtain ⟨K1, O1⟩ := e1
  have M1 := M.mv (fun x a b => O1.2 x (by omega))
  have hf1 := (O1.2 ot (by omega)).trans hf
  refine wp_aload_n (pc := 675) dL_law_675 rfl ?_
  refine wp_aload_n (pc := 676) dL_law_676 rfl ?_
  refine wp_iload (pc := 677) dL_law_677 rfl ?_
  refine wp_iconst (pc := 679) dL_law_679 ?_
  refine wp_iadd (pc := 680) dL_law_680 ?_
  refine wp_sld (pc := 681) dL_law_681 (by omega) (by omega) hL ?_
  refine wp_aload_n (pc := 682) dL_law_682 rfl ?_
  refine wp_iload (pc := 683) dL_law_683 rfl ?_
  refine wp_iconst (pc := 685) dL_law_685 ?_
  refine wp_iadd (pc := 686) dL_law_686 ?_
  refine wp_sld (pc := 687) dL_law_687 (by omega) (by omega) hL ?_
  refine wp_aload_n (pc := 688) dL_law_688 rfl ?_
  refine wp_iload (pc := 689) dL_law_689 rfl ?_
  refine wp_iconst (pc := 691) dL_law_691 ?_
  refine wp_iadd (pc := 692) dL_law_692 ?_
  refine wp_sld (pc := 693) dL_law_693 (by omega) (by omega) hL ?_
  refine wd_Vs (pc := 694) dL_law_694 cl_L_83 (sp_Ref_pays M1 (by first | assumption | omega) (by first | assumption | omega) (by first | assumption | omega) (by first | assumption | omega)) rfl rfl M1.o (by rfl) ⟨by decide, by decide, rfl, rfl, by show _ ≤ 601024; omega, by show _ ≤ 7293034; omega⟩ (Nat.le_of_ble_eq_true rfl) (fun hp2 e2 => ?_)
  obtain ⟨M2, O2⟩ := e2
  have K2 := K1.mv (fun x a b => O2.2 x (by omega))
  have hf2 := (O2.2 ot (by omega)).trans hf1
  refine wp_icmpx_eq (pc := 697) 1545 dL_law_697 (by decide) (fun _ => ?_) (fun c => absurd rfl c)
  exact Kn _ _ _ ⟨_, _, _, _, _, _, _, _, _, _, K2, M2, ⟨f, hf2⟩, X.deed (by omega) (X.1.pay.mo (by omega))⟩ (by omega) (by omega)
theorem lc_12 (hd : D + 171 ≤ q ∧ q + 25 ≤ ot) (hi : i + 5 ≤ scL g) (hL : scL g ≤ 2560) (hB : 0 ≤ B ∧ B ≤ 1000000) (hk : k + 1 ≤ 601024) (hn : n + 6 ≤ 7293034) (L : LSt hp D q ot B) (Kn : ∀ hp2 k2 n2, LSt hp2 D q ot (B + 1000) → k2 ≤ k + 1 → n2 ≤ n + 6 → wp g ML_law room_1 Q k2 n2 1545 (lls D q ot i) [] hp2) : wp g ML_law room_1 Q k n 702 (lls D q ot i) [] hp := by
  obtain ⟨N, T, U, tx, rw, rt, hs, ss, KT, th, ⟨r, s, Tr, z, Z, K⟩, M, ⟨f, hf⟩, X⟩ := L
  have hI := X.1.1
  have hH := X.1.2.1
  have hZ := X.1.2.2.1
  have hZD := X.1.2.2.2.1
  have hb : T 7 0 < 1900000000 := by have := X.1.2.2.2.2; omega
  have hl := X.2.2.1
  have ho := X.2.2.2.1
  have so := X.2.2.2.2.1
  have hK8 := X.k8
  have hrl : rw.length ≤ 16 := by obtain ⟨F, r0, r1, q1, q2⟩ := K.ro; omega
  have rv1 := sv_R g ((i : Int) + 1)
  have rv2 := sv_R g ((i : Int) + 2)
  have rv3 := sv_R g ((i : Int) + 3)
  have rv4 := sv_R g ((i : Int) + 4)
  refine wp_aload_n (pc := 702) dL_law_702 rfl ?_
  refine wd_Vs (pc := 703) dL_law_703 cl_L_84 (sp_D_afternoon K (by first | assumption | omega) (by first | assumption | omega) (by first | assumption | omega) (by first | assumption | omega)) rfl rfl K.o (by rfl) ⟨by decide, by decide, rfl, rfl, by show _ ≤ 601024; omega, by show _ ≤ 7293034; omega⟩ (Nat.le_of_ble_eq_true rfl) (fun hp1 e1 => ?_)
  obtain ⟨K1, O1⟩ := e1
  have M1 := M.mv (fun x a b => O1.2 x (by omega))
  have hf1 := (O1.2 ot (by omega)).trans hf
  refine wp_aload_n (pc := 706) dL_law_706 rfl ?_
  refine wd_Vs (pc := 707) dL_law_707 cl_L_87 (sp_Ref_afternoon M1 (by first | assumption | omega) (by first | assumption | omega) (by first | assumption | omega)) rfl rfl M1.o (by rfl) ⟨by decide, by decide, rfl, rfl, by show _ ≤ 601024; omega, by show _ ≤ 7293034; omega⟩ (Nat.le_of_ble_eq_true rfl) (fun hp2 e2 => ?_)
  obtain ⟨M2, O2⟩ := e2
  have K2 := K1.mv (fun x a b => O2.2 x (by omega))
  have hf2 := (O2.2 ot (by omega)).trans hf1
  refine wp_icmpx_eq (pc := 710) 1545 dL_law_710 (by decide) (fun _ => ?_) (fun c => absurd rfl c)
  exact Kn _ _ _ ⟨_, _, _, _, _, _, _, _, _, _, K2, M2, ⟨f, hf2⟩, X.noon (by omega)⟩ (by omega) (by omega)
theorem lc_13 (hd : D + 171 ≤ q ∧ q + 25 ≤ ot) (hi : i + 5 ≤ scL g) (hL : scL g ≤ 2560) (hB : 0 ≤ B ∧ B ≤ 1000000) (hk : k + 1 ≤ 601024) (hn : n + 6 ≤ 7293034) (L : LSt hp D q ot B) (Kn : ∀ hp2 k2 n2, LSt hp2 D q ot (B + 1000) → k2 ≤ k + 1 → n2 ≤ n + 6 → wp g ML_law room_1 Q k2 n2 1545 (lls D q ot i) [] hp2) : wp g ML_law room_1 Q k n 715 (lls D q ot i) [] hp := by
  obtain ⟨N, T, U, tx, rw, rt, hs, ss, KT, th, ⟨r, s, Tr, z, Z, K⟩, M, ⟨f, hf⟩, X⟩ := L
  have hI := X.1.1
  have hH := X.1.2.1
  have hZ := X.1.2.2.1
  have hZD := X.1.2.2.2.1
  have hb : T 7 0 < 1900000000 := by have := X.1.2.2.2.2; omega
  have hl := X.2.2.1
  have ho := X.2.2.2.1
  have so := X.2.2.2.2.1
  have hK8 := X.k8
  have hrl : rw.length ≤ 16 := by obtain ⟨F, r0, r1, q1, q2⟩ := K.ro; omega
  have rv1 := sv_R g ((i : Int) + 1)
  have rv2 := sv_R g ((i : Int) + 2)
  have rv3 := sv_R g ((i : Int) + 3)
  have rv4 := sv_R g ((i : Int) + 4)
  refine wp_aload_n (pc := 715) dL_law_715 rfl ?_
  refine wd_Vs (pc := 716) dL_law_716 cl_L_88 (sp_D_undo K ) rfl rfl K.o (by rfl) ⟨by decide, by decide, rfl, rfl, by show _ ≤ 601024; omega, by show _ ≤ 7293034; omega⟩ (Nat.le_of_ble_eq_true rfl) (fun hp1 e1 => ?_)
  obtain ⟨K1, O1⟩ := e1
  have M1 := M.mv (fun x a b => O1.2 x (by omega))
  have hf1 := (O1.2 ot (by omega)).trans hf
  refine wp_aload_n (pc := 719) dL_law_719 rfl ?_
  refine wd_Vs (pc := 720) dL_law_720 cl_L_91 (sp_Ref_undo M1 ) rfl rfl M1.o (by rfl) ⟨by decide, by decide, rfl, rfl, by show _ ≤ 601024; omega, by show _ ≤ 7293034; omega⟩ (Nat.le_of_ble_eq_true rfl) (fun hp2 e2 => ?_)
  obtain ⟨M2, O2⟩ := e2
  have K2 := K1.mv (fun x a b => O2.2 x (by omega))
  have hf2 := (O2.2 ot (by omega)).trans hf1
  refine wp_icmpx_eq (pc := 723) 1545 dL_law_723 (by decide) (fun _ => ?_) (fun c => absurd rfl c)
  exact Kn _ _ _ ⟨_, _, _, _, _, _, _, _, _, _, K2, M2, ⟨f, hf2⟩, X.undo.mo (by omega)⟩ (by omega) (by omega)
theorem lc_14 (hd : D + 171 ≤ q ∧ q + 25 ≤ ot) (hi : i + 5 ≤ scL g) (hL : scL g ≤ 2560) (hB : 0 ≤ B ∧ B ≤ 1000000) (hk : k + 1 ≤ 601024) (hn : n + 6 ≤ 7293034) (L : LSt hp D q ot B) (Kn : ∀ hp2 k2 n2, LSt hp2 D q ot (B + 1000) → k2 ≤ k + 1 → n2 ≤ n + 6 → wp g ML_law room_1 Q k2 n2 1545 (lls D q ot i) [] hp2) : wp g ML_law room_1 Q k n 728 (lls D q ot i) [] hp := by
  obtain ⟨N, T, U, tx, rw, rt, hs, ss, KT, th, ⟨r, s, Tr, z, Z, K⟩, M, ⟨f, hf⟩, X⟩ := L
  have hI := X.1.1
  have hH := X.1.2.1
  have hZ := X.1.2.2.1
  have hZD := X.1.2.2.2.1
  have hb : T 7 0 < 1900000000 := by have := X.1.2.2.2.2; omega
  have hl := X.2.2.1
  have ho := X.2.2.2.1
  have so := X.2.2.2.2.1
  have hK8 := X.k8
  have hrl : rw.length ≤ 16 := by obtain ⟨F, r0, r1, q1, q2⟩ := K.ro; omega
  have rv1 := sv_R g ((i : Int) + 1)
  have rv2 := sv_R g ((i : Int) + 2)
  have rv3 := sv_R g ((i : Int) + 3)
  have rv4 := sv_R g ((i : Int) + 4)
  refine wp_aload_n (pc := 728) dL_law_728 rfl ?_
  refine wp_aload_n (pc := 729) dL_law_729 rfl ?_
  refine wp_iload (pc := 730) dL_law_730 rfl ?_
  refine wp_iconst (pc := 732) dL_law_732 ?_
  refine wp_iadd (pc := 733) dL_law_733 ?_
  refine wp_sld (pc := 734) dL_law_734 (by omega) (by omega) hL ?_
  refine wd_Vs (pc := 735) dL_law_735 cl_L_92 (sp_D_said K (by first | assumption | omega) (by first | assumption | omega)) rfl rfl K.o (by rfl) ⟨by decide, by decide, rfl, rfl, by show _ ≤ 601024; omega, by show _ ≤ 7293034; omega⟩ (Nat.le_of_ble_eq_true rfl) (fun hp1 e1 => ?_)
  obtain ⟨K1, O1⟩ := e1
  have M1 := M.mv (fun x a b => O1.2 x (by omega))
  have hf1 := (O1.2 ot (by omega)).trans hf
  refine wp_aload_n (pc := 738) dL_law_738 rfl ?_
  refine wp_aload_n (pc := 739) dL_law_739 rfl ?_
  refine wp_iload (pc := 740) dL_law_740 rfl ?_
  refine wp_iconst (pc := 742) dL_law_742 ?_
  refine wp_iadd (pc := 743) dL_law_743 ?_
  refine wp_sld (pc := 744) dL_law_744 (by omega) (by omega) hL ?_
  refine wd_Vs (pc := 745) dL_law_745 cl_L_95 (sp_Ref_said M1 (by first | assumption | omega) (by first | assumption | omega)) rfl rfl M1.o (by rfl) ⟨by decide, by decide, rfl, rfl, by show _ ≤ 601024; omega, by show _ ≤ 7293034; omega⟩ (Nat.le_of_ble_eq_true rfl) (fun hp2 e2 => ?_)
  obtain ⟨M2, O2⟩ := e2
  have K2 := K1.mv (fun x a b => O2.2 x (by omega))
  have hf2 := (O2.2 ot (by omega)).trans hf1
  refine wp_icmpx_eq (pc := 748) 1545 dL_law_748 (by decide) (fun _ => ?_) (fun c => absurd rfl c)
  exact Kn _ _ _ ⟨_, _, _, _, _, _, _, _, _, _, K2, M2, ⟨f, hf2⟩, X.mo (by omega)⟩ (by omega) (by omega)
theorem lc_15 (hd : D + 171 ≤ q ∧ q + 25 ≤ ot) (hi : i + 5 ≤ scL g) (hL : scL g ≤ 2560) (hB : 0 ≤ B ∧ B ≤ 1000000) (hk : k + 1 ≤ 601024) (hn : n + 6 ≤ 7293034) (L : LSt hp D q ot B) (Kn : ∀ hp2 k2 n2, LSt hp2 D q ot (B + 1000) → k2 ≤ k + 1 → n2 ≤ n + 6 → wp g ML_law room_1 Q k2 n2 1545 (lls D q ot i) [] hp2) : wp g ML_law room_1 Q k n 753 (lls D q ot i) [] hp := by
  obtain ⟨N, T, U, tx, rw, rt, hs, ss, KT, th, ⟨r, s, Tr, z, Z, K⟩, M, ⟨f, hf⟩, X⟩ := L
  have hI := X.1.1
  have hH := X.1.2.1
  have hZ := X.1.2.2.1
  have hZD := X.1.2.2.2.1
  have hb : T 7 0 < 1900000000 := by have := X.1.2.2.2.2; omega
  have hl := X.2.2.1
  have ho := X.2.2.2.1
  have so := X.2.2.2.2.1
  have hK8 := X.k8
  have hrl : rw.length ≤ 16 := by obtain ⟨F, r0, r1, q1, q2⟩ := K.ro; omega
  have rv1 := sv_R g ((i : Int) + 1)
  have rv2 := sv_R g ((i : Int) + 2)
  have rv3 := sv_R g ((i : Int) + 3)
  have rv4 := sv_R g ((i : Int) + 4)
  refine wp_aload_n (pc := 753) dL_law_753 rfl ?_
  refine wp_aload_n (pc := 754) dL_law_754 rfl ?_
  refine wp_iload (pc := 755) dL_law_755 rfl ?_
  refine wp_iconst (pc := 757) dL_law_757 ?_
  refine wp_iadd (pc := 758) dL_law_758 ?_
  refine wp_sld (pc := 759) dL_law_759 (by omega) (by omega) hL ?_
  refine wp_aload_n (pc := 760) dL_law_760 rfl ?_
  refine wp_iload (pc := 761) dL_law_761 rfl ?_
  refine wp_iconst (pc := 763) dL_law_763 ?_
  refine wp_iadd (pc := 764) dL_law_764 ?_
  refine wp_sld (pc := 765) dL_law_765 (by omega) (by omega) hL ?_
  refine wd_Vs (pc := 766) dL_law_766 cl_L_96 (sp_D_later K (by first | assumption | omega) (by first | assumption | omega) (by first | assumption | omega) (by first | assumption | omega) (by first | assumption | omega)) rfl rfl K.o (by rfl) ⟨by decide, by decide, rfl, rfl, by show _ ≤ 601024; omega, by show _ ≤ 7293034; omega⟩ (Nat.le_of_ble_eq_true rfl) (fun hp1 e1 => ?_)
  obtain ⟨K1, O1⟩ := e1
  have M1 := M.mv (fun x a b => O1.2 x (by omega))
  have hf1 := (O1.2 ot (by omega)).trans hf
  refine wp_aload_n (pc := 769) dL_law_769 rfl ?_
  refine wp_aload_n (pc := 770) dL_law_770 rfl ?_
  refine wp_iload (pc := 771) dL_law_771 rfl ?_
  refine wp_iconst (pc := 773) dL_law_773 ?_
  refine wp_iadd (pc := 774) dL_law_774 ?_
  refine wp_sld (pc := 775) dL_law_775 (by omega) (by omega) hL ?_
  refine wp_aload_n (pc := 776) dL_law_776 rfl ?_
  refine wp_iload (pc := 777) dL_law_777 rfl ?_
  refine wp_iconst (pc := 779) dL_law_779 ?_
  refine wp_iadd (pc := 780) dL_law_780 ?_
  refine wp_sld (pc := 781) dL_law_781 (by omega) (by omega) hL ?_
  refine wd_Vs (pc := 782) dL_law_782 cl_L_99 (sp_Ref_later M1 (by first | assumption | omega) (by first | assumption | omega) (by first | assumption | omega) (by first | assumption | omega) (by first | assumption | omega)) rfl rfl M1.o (by rfl) ⟨by decide, by decide, rfl, rfl, by show _ ≤ 601024; omega, by show _ ≤ 7293034; omega⟩ (Nat.le_of_ble_eq_true rfl) (fun hp2 e2 => ?_)
  obtain ⟨M2, O2⟩ := e2
  have K2 := K1.mv (fun x a b => O2.2 x (by omega))
  have hf2 := (O2.2 ot (by omega)).trans hf1
  refine wp_icmpx_eq (pc := 785) 1545 dL_law_785 (by decide) (fun _ => ?_) (fun c => absurd rfl c)
  exact Kn _ _ _ ⟨_, _, _, _, _, _, _, _, _, _, K2, M2, ⟨f, hf2⟩, X.mo (by omega)⟩ (by omega) (by omega)
end LC

