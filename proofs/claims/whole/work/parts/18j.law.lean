/-! the law: its loop, its start -/
section LL
variable {g : GT} {D q ot : Nat}
theorem and63 (a : Int32) : ∃ x : Nat, x < 64 ∧ a &&& I 63 = I (x : Int) := by
  have h2 : (I 63).toBitVec.toNat = 63 := by decide
  have h1 : (a &&& I 63).toBitVec.toNat ≤ 63 := by
    rw [Int32.toBitVec_and, BitVec.toNat_and, h2]
    exact Nat.and_le_right
  refine ⟨(a &&& I 63).toBitVec.toNat, by omega, ?_⟩
  apply Int32.toBitVec_inj.mp
  apply BitVec.eq_of_toNat_eq
  generalize (a &&& I 63).toBitVec.toNat = m at h1 ⊢
  rw [I_nat]
  have e : (Int32.ofNat m).toBitVec.toNat = m % 2 ^ 32 := by simp
  rw [e]
  omega
abbrev LQ : Option Value → Hp → Prop := Eff (.int (B True)) (fun _ => True)
theorem law_case {k n i : Nat} {hp : Hp} {B : Int} {x : Nat} (hx : x < 64) (hd : D + 171 ≤ q ∧ q + 25 ≤ ot) (h5 : i + 5 ≤ scL g) (hL : scL g ≤ 2560) (hB : 0 ≤ B ∧ B ≤ 1000000) (hk2 : k + 1 ≤ 601024) (hn2 : n + 6 ≤ 7293034) (L : LSt hp D q ot B) (Kn : ∀ hp2 k2 n2, LSt hp2 D q ot (B + 1000) → k2 ≤ k + 1 → n2 ≤ n + 6 → wp g ML_law room_1 LQ k2 n2 1545 (lls D q ot i) [] hp2) : wp g ML_law room_1 LQ k n 39 (lls D q ot i) [.int (I (x : Int))] hp := by
  by_cases c : x < 45
  · rcases (show x = 0 ∨ x = 1 ∨ x = 2 ∨ x = 3 ∨ x = 4 ∨ x = 5 ∨ x = 6 ∨ x = 7 ∨ x = 8 ∨ x = 9 ∨ x = 10 ∨ x = 11 ∨ x = 12 ∨ x = 13 ∨ x = 14 ∨ x = 15 ∨ x = 16 ∨ x = 17 ∨ x = 18 ∨ x = 19 ∨ x = 20 ∨ x = 21 ∨ x = 22 ∨ x = 23 ∨ x = 24 ∨ x = 25 ∨ x = 26 ∨ x = 27 ∨ x = 28 ∨ x = 29 ∨ x = 30 ∨ x = 31 ∨ x = 32 ∨ x = 33 ∨ x = 34 ∨ x = 35 ∨ x = 36 ∨ x = 37 ∨ x = 38 ∨ x = 39 ∨ x = 40 ∨ x = 41 ∨ x = 42 ∨ x = 43 ∨ x = 44 by omega) with e | e | e | e | e | e | e | e | e | e | e | e | e | e | e | e | e | e | e | e | e | e | e | e | e | e | e | e | e | e | e | e | e | e | e | e | e | e | e | e | e | e | e | e | e
    · subst e
      refine wp_tswIn (pc := 39) 232 dL_law_39 (by omega) (by decide) (by decide) rfl (by decide) ?_
      exact lc_0 hd h5 hL hB hk2 hn2 L Kn
    · subst e
      refine wp_tswIn (pc := 39) 257 dL_law_39 (by omega) (by decide) (by decide) rfl (by decide) ?_
      exact lc_1 hd h5 hL hB hk2 hn2 L Kn
    · subst e
      refine wp_tswIn (pc := 39) 282 dL_law_39 (by omega) (by decide) (by decide) rfl (by decide) ?_
      exact lc_2 hd h5 hL hB hk2 hn2 L Kn
    · subst e
      refine wp_tswIn (pc := 39) 295 dL_law_39 (by omega) (by decide) (by decide) rfl (by decide) ?_
      exact lc_3 hd h5 hL hB hk2 hn2 L Kn
    · subst e
      refine wp_tswIn (pc := 39) 308 dL_law_39 (by omega) (by decide) (by decide) rfl (by decide) ?_
      exact lc_4 hd h5 hL hB hk2 hn2 L Kn
    · subst e
      refine wp_tswIn (pc := 39) 376 dL_law_39 (by omega) (by decide) (by decide) rfl (by decide) ?_
      exact lc_5 hd h5 hL hB hk2 hn2 L Kn
    · subst e
      refine wp_tswIn (pc := 39) 456 dL_law_39 (by omega) (by decide) (by decide) rfl (by decide) ?_
      exact lc_6 hd h5 hL hB hk2 hn2 L Kn
    · subst e
      refine wp_tswIn (pc := 39) 517 dL_law_39 (by omega) (by decide) (by decide) rfl (by decide) ?_
      exact lc_7 hd h5 hL hB hk2 hn2 L Kn
    · subst e
      refine wp_tswIn (pc := 39) 542 dL_law_39 (by omega) (by decide) (by decide) rfl (by decide) ?_
      exact lc_8 hd h5 hL hB hk2 hn2 L Kn
    · subst e
      refine wp_tswIn (pc := 39) 579 dL_law_39 (by omega) (by decide) (by decide) rfl (by decide) ?_
      exact lc_9 hd h5 hL hB hk2 hn2 L Kn
    · subst e
      refine wp_tswIn (pc := 39) 604 dL_law_39 (by omega) (by decide) (by decide) rfl (by decide) ?_
      exact lc_10 hd h5 hL hB hk2 hn2 L Kn
    · subst e
      refine wp_tswIn (pc := 39) 653 dL_law_39 (by omega) (by decide) (by decide) rfl (by decide) ?_
      exact lc_11 hd h5 hL hB hk2 hn2 L Kn
    · subst e
      refine wp_tswIn (pc := 39) 702 dL_law_39 (by omega) (by decide) (by decide) rfl (by decide) ?_
      exact lc_12 hd h5 hL hB hk2 hn2 L Kn
    · subst e
      refine wp_tswIn (pc := 39) 715 dL_law_39 (by omega) (by decide) (by decide) rfl (by decide) ?_
      exact lc_13 hd h5 hL hB hk2 hn2 L Kn
    · subst e
      refine wp_tswIn (pc := 39) 728 dL_law_39 (by omega) (by decide) (by decide) rfl (by decide) ?_
      exact lc_14 hd h5 hL hB hk2 hn2 L Kn
    · subst e
      refine wp_tswIn (pc := 39) 753 dL_law_39 (by omega) (by decide) (by decide) rfl (by decide) ?_
      exact lc_15 hd h5 hL hB hk2 hn2 L Kn
    · subst e
      refine wp_tswIn (pc := 39) 790 dL_law_39 (by omega) (by decide) (by decide) rfl (by decide) ?_
      exact lc_16 hd h5 hL hB hk2 hn2 L Kn
    · subst e
      refine wp_tswIn (pc := 39) 815 dL_law_39 (by omega) (by decide) (by decide) rfl (by decide) ?_
      exact lc_17 hd h5 hL hB hk2 hn2 L Kn
    · subst e
      refine wp_tswIn (pc := 39) 840 dL_law_39 (by omega) (by decide) (by decide) rfl (by decide) ?_
      exact lc_18 hd h5 hL hB hk2 hn2 L Kn
    · subst e
      refine wp_tswIn (pc := 39) 865 dL_law_39 (by omega) (by decide) (by decide) rfl (by decide) ?_
      exact lc_19 hd h5 hL hB hk2 hn2 L Kn
    · subst e
      refine wp_tswIn (pc := 39) 902 dL_law_39 (by omega) (by decide) (by decide) rfl (by decide) ?_
      exact lc_20 hd h5 hL hB hk2 hn2 L Kn
    · subst e
      refine wp_tswIn (pc := 39) 951 dL_law_39 (by omega) (by decide) (by decide) rfl (by decide) ?_
      exact lc_21 hd h5 hL hB hk2 hn2 L Kn
    · subst e
      refine wp_tswIn (pc := 39) 964 dL_law_39 (by omega) (by decide) (by decide) rfl (by decide) ?_
      exact lc_22 hd h5 hL hB hk2 hn2 L Kn
    · subst e
      refine wp_tswIn (pc := 39) 977 dL_law_39 (by omega) (by decide) (by decide) rfl (by decide) ?_
      exact lc_23 hd h5 hL hB hk2 hn2 L Kn
    · subst e
      refine wp_tswIn (pc := 39) 1002 dL_law_39 (by omega) (by decide) (by decide) rfl (by decide) ?_
      exact lc_24 hd h5 hL hB hk2 hn2 L Kn
    · subst e
      refine wp_tswIn (pc := 39) 1051 dL_law_39 (by omega) (by decide) (by decide) rfl (by decide) ?_
      exact lc_25 hd h5 hL hB hk2 hn2 L Kn
    · subst e
      refine wp_tswIn (pc := 39) 1064 dL_law_39 (by omega) (by decide) (by decide) rfl (by decide) ?_
      exact lc_26 hd h5 hL hB hk2 hn2 L Kn
    · subst e
      refine wp_tswIn (pc := 39) 1077 dL_law_39 (by omega) (by decide) (by decide) rfl (by decide) ?_
      exact lc_27 hd h5 hL hB hk2 hn2 L Kn
    · subst e
      refine wp_tswIn (pc := 39) 1090 dL_law_39 (by omega) (by decide) (by decide) rfl (by decide) ?_
      exact lc_28 hd h5 hL hB hk2 hn2 L Kn
    · subst e
      refine wp_tswIn (pc := 39) 1127 dL_law_39 (by omega) (by decide) (by decide) rfl (by decide) ?_
      exact lc_29 hd h5 hL hB hk2 hn2 L Kn
    · subst e
      refine wp_tswIn (pc := 39) 1140 dL_law_39 (by omega) (by decide) (by decide) rfl (by decide) ?_
      exact lc_30 hd h5 hL hB hk2 hn2 L Kn
    · subst e
      refine wp_tswIn (pc := 39) 1153 dL_law_39 (by omega) (by decide) (by decide) rfl (by decide) ?_
      exact lc_31 hd h5 hL hB hk2 hn2 L Kn
    · subst e
      refine wp_tswIn (pc := 39) 1166 dL_law_39 (by omega) (by decide) (by decide) rfl (by decide) ?_
      exact lc_32 hd h5 hL hB hk2 hn2 L Kn
    · subst e
      refine wp_tswIn (pc := 39) 1215 dL_law_39 (by omega) (by decide) (by decide) rfl (by decide) ?_
      exact lc_33 hd h5 hL hB hk2 hn2 L Kn
    · subst e
      refine wp_tswIn (pc := 39) 1228 dL_law_39 (by omega) (by decide) (by decide) rfl (by decide) ?_
      exact lc_34 hd h5 hL hB hk2 hn2 L Kn
    · subst e
      refine wp_tswIn (pc := 39) 1241 dL_law_39 (by omega) (by decide) (by decide) rfl (by decide) ?_
      exact lc_35 hd h5 hL hB hk2 hn2 L Kn
    · subst e
      refine wp_tswIn (pc := 39) 1254 dL_law_39 (by omega) (by decide) (by decide) rfl (by decide) ?_
      exact lc_36 hd h5 hL hB hk2 hn2 L Kn
    · subst e
      refine wp_tswIn (pc := 39) 1291 dL_law_39 (by omega) (by decide) (by decide) rfl (by decide) ?_
      exact lc_37 hd h5 hL hB hk2 hn2 L Kn
    · subst e
      refine wp_tswIn (pc := 39) 1328 dL_law_39 (by omega) (by decide) (by decide) rfl (by decide) ?_
      exact lc_38 hd h5 hL hB hk2 hn2 L Kn
    · subst e
      refine wp_tswIn (pc := 39) 1365 dL_law_39 (by omega) (by decide) (by decide) rfl (by decide) ?_
      exact lc_39 hd h5 hL hB hk2 hn2 L Kn
    · subst e
      refine wp_tswIn (pc := 39) 1378 dL_law_39 (by omega) (by decide) (by decide) rfl (by decide) ?_
      exact lc_40 hd h5 hL hB hk2 hn2 L Kn
    · subst e
      refine wp_tswIn (pc := 39) 1415 dL_law_39 (by omega) (by decide) (by decide) rfl (by decide) ?_
      exact lc_41 hd h5 hL hB hk2 hn2 L Kn
    · subst e
      refine wp_tswIn (pc := 39) 1440 dL_law_39 (by omega) (by decide) (by decide) rfl (by decide) ?_
      exact lc_42 hd h5 hL hB hk2 hn2 L Kn
    · subst e
      refine wp_tswIn (pc := 39) 1465 dL_law_39 (by omega) (by decide) (by decide) rfl (by decide) ?_
      exact lc_43 hd h5 hL hB hk2 hn2 L Kn
    · subst e
      refine wp_tswIn (pc := 39) 1490 dL_law_39 (by omega) (by decide) (by decide) rfl (by decide) ?_
      exact lc_44 hd h5 hL hB hk2 hn2 L Kn
  · refine wp_tswOut (pc := 39) 1545 dL_law_39 (by omega) (by omega) (by decide) ?_
    obtain ⟨N, T, U, tx, rw, rt, hs, ss, KT, th, K, M, ⟨f, hf⟩, X⟩ := L
    exact Kn _ _ _ ⟨_, _, _, _, _, _, _, _, _, _, K, M, ⟨f, hf⟩, X.mo (by omega)⟩ (by omega) (by omega)
theorem law_loop (hd : D + 171 ≤ q ∧ q + 25 ≤ ot) (hL : scL g ≤ 2560) : ∀ (m i : Nat), scL g < i + m → i ≤ scL g + 5 → ∀ (hp : Hp) (k n : Nat), k ≤ 1000 + i → n ≤ 100000 + 6 * i → LSt hp D q ot (200 * (i : Int)) → wp g ML_law room_1 LQ k n 23 (lls D q ot i) [] hp := by
  intro m
  induction m with
  | zero =>
    intro i h1 h2 hp k n hk hn L
    refine wp_iload (pc := 23) dL_law_23 rfl ?_
    refine wp_aload_n (pc := 25) dL_law_25 rfl ?_
    refine wp_scl (pc := 26) dL_law_26 ?_
    refine wp_iconst (pc := 27) dL_law_27 ?_
    refine wp_isub (pc := 28) dL_law_28 ?_
    refine wp_icmp_gt (pc := 29) 1551 dL_law_29 (by decide) (by omega) (by omega) (fun c29 => ?_) (fun c29 => ?_)
    ·
      refine wp_iconst (pc := 1551) dL_law_1551 ?_
      first | exact wp_z1 (pc := 1552) dL_law_1552 rfl (by show _ ≤ 601024; omega) (by show _ ≤ 7293034; omega) trivial trivial | exact wp_z0 (pc := 1552) dL_law_1552 rfl (by show _ ≤ 601024; omega) (by show _ ≤ 7293034; omega) trivial trivial | exact wp_zb (pc := 1552) dL_law_1552 rfl (by show _ ≤ 601024; omega) (by show _ ≤ 7293034; omega) Iff.rfl trivial
    ·
      exact absurd c29 (by omega)
  | succ m ih =>
    intro i h1 h2 hp k n hk hn L
    have hs := sv_R g (i : Int)
    refine wp_iload (pc := 23) dL_law_23 rfl ?_
    refine wp_aload_n (pc := 25) dL_law_25 rfl ?_
    refine wp_scl (pc := 26) dL_law_26 ?_
    refine wp_iconst (pc := 27) dL_law_27 ?_
    refine wp_isub (pc := 28) dL_law_28 ?_
    refine wp_icmp_gt (pc := 29) 1551 dL_law_29 (by decide) (by omega) (by omega) (fun c29 => ?_) (fun c29 => ?_)
    ·
      refine wp_iconst (pc := 1551) dL_law_1551 ?_
      first | exact wp_z1 (pc := 1552) dL_law_1552 rfl (by show _ ≤ 601024; omega) (by show _ ≤ 7293034; omega) trivial trivial | exact wp_z0 (pc := 1552) dL_law_1552 rfl (by show _ ≤ 601024; omega) (by show _ ≤ 7293034; omega) trivial trivial | exact wp_zb (pc := 1552) dL_law_1552 rfl (by show _ ≤ 601024; omega) (by show _ ≤ 7293034; omega) Iff.rfl trivial
    ·
      refine wp_aload_n (pc := 32) dL_law_32 rfl ?_
      refine wp_iload (pc := 33) dL_law_33 rfl ?_
      refine wp_sld (pc := 35) dL_law_35 (by omega) (by omega) hL ?_
      obtain ⟨x, hx, ex⟩ := and63 (I (sv g (i : Int)))
      refine wp_bipush (pc := 36) (y := 63) dL_law_36 (by decide) ?_
      refine wp_iand (pc := 38) dL_law_38 ex ?_
      refine law_case hx hd (by omega) hL (by omega) (by omega) (by omega) L (fun hp2 k2 n2 L2 hk2 hn2 => ?_)
      refine wp_iinc (pc := 1545) dL_law_1545 rfl (by decide) ?_
      refine wp_goto (pc := 1548) 23 dL_law_1548 (by decide) ?_
      refine wp_ls ?_ (ih (i + 5) (by omega) (by omega) hp2 k2 n2 (by omega) (by omega) (by rw [show 200 * ((i + 5 : Nat) : Int) = 200 * (i : Int) + 1000 by omega]; exact L2))
      repeat' (first | exact LE_0 | refine LE_s rfl ?_ | refine LE_s (I_c (by first | omega | (simp only [sm]; omega))) ?_ | refine LE_s (J_c (by first | omega | exact Int.pow_succ _ _ | exact (Int.pow_succ _ _).symm | exact (Int.pow_zero _).symm | (simp only [sm]; omega))) ?_ | refine LE_n ?_)
theorem law_all (hL : scL g ≤ 2560) : wp g ML_law room_1 LQ 0 0 0 [some (.ref 0), none, none, none, none, none, none, none] [] (0, fun _ => none) := by
  refine wp_nwo (pc := 0) (b := 4) dL_law_0 rfl nw_L_8 rfl (by decide) (by decide) ?_
  refine wp_dup (pc := 3) dL_law_3 rfl ?_
  refine wp_callI (pc := 4) dL_law_4 cl_L_23 (as := []) (sp_D_init (D := 4) rfl hnw_eq) ⟨by decide, by decide, by decide, by decide⟩ (Nat.le_of_ble_eq_true rfl) rfl (fun v hp1 hv => ?_)
  obtain ⟨rfl, K1, no1⟩ := hv
  have n1 : hp1.1 = 171 := no1.1
  show wp g _ _ _ 171 3387 7 _ [.ref 4] _
  refine wp_astore_n (pc := 7) dL_law_7 (by decide) ?_
  refine wp_nwo (pc := 8) (b := 175) dL_law_8 (by omega) nw_L_24 rfl (by decide) (by decide) ?_
  refine wp_dup (pc := 11) dL_law_11 rfl ?_
  refine wp_callI (pc := 12) dL_law_12 cl_L_26 (as := []) (sp_Ref_init (q := 175) (by show hp1.1 + 1 + 4 = _; omega) hnw_eq) ⟨by decide, by decide, by decide, by decide⟩ (Nat.le_of_ble_eq_true rfl) rfl (fun v hp2 hv => ?_)
  obtain ⟨rfl, M2, no2⟩ := hv
  have n2 : hp2.1 = hp1.1 + 1 + 24 := no2.1
  have K2 := K1.mv (hp2 := hp2) (fun x a b => (no2.2 x (by omega)).trans (hnw_ne (by omega)))
  show wp g _ _ _ 196 6741 15 _ [.ref 175] _
  refine wp_astore_n (pc := 15) dL_law_15 (by decide) ?_
  refine wp_iconst (pc := 16) dL_law_16 ?_
  refine wp_nwa (pc := 17) (b := 200) dL_law_17 (by omega) rfl (N := 1) rfl (by decide) rfl (by decide) ar_long (by decide) (by decide) ?_
  refine wp_astore_n (pc := 19) dL_law_19 (by decide) ?_
  refine wp_iconst (pc := 20) dL_law_20 ?_
  refine wp_istore (pc := 21) dL_law_21 (by decide) ?_
  refine wp_ls ?_ (law_loop (D := 4) (q := 175) (ot := 200) ⟨by decide, by decide⟩ hL (scL g + 1) 0 (by omega) (by omega) _ _ _ (by decide) (by decide) ⟨0, T0, [], [], [], [], [], [], fun _ => none, 0, K2.mv (fun x a b => hnw_ne (by omega)), (MAt_new M2).mv (fun x a b => hnw_ne (by omega)), ⟨_, hnw_eq⟩, XI.new.mo (by decide)⟩)
  repeat' (first | exact LE_0 | refine LE_s rfl ?_ | refine LE_s (I_c (by first | omega | (simp only [sm]; omega))) ?_ | refine LE_s (J_c (by first | omega | exact Int.pow_succ _ _ | exact (Int.pow_succ _ _).symm | exact (Int.pow_zero _).symm | (simp only [sm]; omega))) ?_ | refine LE_n ?_)
end LL

