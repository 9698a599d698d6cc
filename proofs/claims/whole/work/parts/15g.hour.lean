/-! the reference: an hour -/
section MG
variable {g : GT} {hp hp0 : Hp} {q N n a s k p D : Nat} {V V2 : Nat → Int} {A A2 : Nat → Int → Int} {rd rl : Value} {i j x v b c y : Int} {T : Nat → Int → Int} {l t cs : List Int} {W G : Int → Int}
theorem flatv2 (h1 : 0 ≤ i) (h2 : i < 6) : updI (flat T) (36 + i) v = flat (up T 2 i v) := flatw2 (a := 0) (b := 0) h1 h2
theorem flatv3 (h1 : 0 ≤ i) (h2 : i < 6) : updI (flat T) (42 + i) v = flat (up T 3 i v) := flatw3 (a := 0) (b := 0) h1 h2
theorem flatv4 (h1 : 0 ≤ i) (h2 : i < 6) : updI (flat T) (48 + i) v = flat (up T 4 i v) := flatw4 (a := 0) (b := 0) h1 h2
theorem flatv5 (h1 : 0 ≤ i) (h2 : i < 6) : updI (flat T) (54 + i) v = flat (up T 5 i v) := flatw5 (a := 0) (b := 0) h1 h2
theorem flatv6 (h1 : 0 ≤ i) (h2 : i < 6) : updI (flat T) (60 + i) v = flat (up T 6 i v) := flatw6 (a := 0) (b := 0) h1 h2
theorem mty_m (ha : a = 1 ∨ a = 10) : 1 ≤ a ∧ a ≤ 24 ∧ a ≠ 11 ∧ a ≠ 7 ∧ a ≠ 5 ∧ a ≠ 6 := by omega
theorem lp_Ref_look (hv1 : V 1 = (N : Int)) (hI : TI T N) (rW : ∀ i, 0 ≤ W i ∧ W i ≤ 9) (ha : a = 1 ∨ a = 10) (h11 : A 11 = G) (hG : ∀ i j : Nat, i < N → j < N → i ≠ j → G (6 * (i : Int) + j) = W ((i : Int) * 6 + j)) (hn : n < N) (hs : (T 6 (n : Int)).toNat.testBit n = false) : ∀ (m i : Nat), N < i + m → i ≤ N → ∀ (hp2 : Hp) (K : ModAt hp2 q V (upA A a (flat (one T 0 (btw (T 0) (lrf W T) ((n : Int) * 6) ((n : Int) * 6 + i))))) rd rl) (O : SO hp hp2 q (q + 25)), wp g MX12_look (rm 1 0 0) (Vod (fun hp3 => ModAt hp3 q V (upA A a (flat (one T 0 (btw (T 0) (lrf W T) ((n : Int) * 6) ((n : Int) * 6 + N))))) rd rl ∧ SO hp hp3 q (q + 25))) 0 0 2 [some (.ref q), some (.ref (q + a)), some (.int (I (n : Int))), some (.int (I (i : Int)))] [] hp2 := by
  intro m
  induction m with
  | zero => intro i h1 h2; exact absurd h1 (by omega)
  | succ m ih =>
    intro i h1 h2 hp2 K O
    have hm := mty_n ha
    have hN := hI.men.2
    have a0 : one T 0 (btw (T 0) (lrf W T) ((n : Int) * 6) ((n : Int) * 6 + i)) 0 ((n : Int) * 6 + i) = T 0 ((n : Int) * 6 + i) := btw_at
    have h0 := hI.r0 ((n : Int) * 6 + i)
    have h6 := hI.r6 (n : Int)
    have e6 : one T 0 (btw (T 0) (lrf W T) ((n : Int) * 6) ((n : Int) * 6 + i)) 6 (n : Int) = ((T 6 (n : Int)).toNat : Int) := by show T 6 (n : Int) = _; omega
    have hW := rW ((i : Int) * 6 + n)
    refine wp_iload_n (pc := 2) dX12_look_2 rfl ?_
    refine wp_aload_n (pc := 3) dX12_look_3 rfl ?_
    refine wm_gets dX12_look_4 gf_X12_92 K (by rfl) (by repeat (first | assumption | exact pv10 | exact pv11 | (apply pv_o; decide; decide) | exact upN_eq | (apply upN_ne; decide) | (apply SV_at; assumption; decide) | exact rfl)) ?_
    refine wp_icmp_ge (pc := 7) 67 dX12_look_7 (by decide) (by first | omega | exact TI.i5 (by assumption) | exact TI.i3 (by assumption) | exact TI.i2 (by assumption) | exact TI.i1 (by assumption) | exact TI.i0 (by assumption) | exact TI.i4 (by assumption) | exact TI.i6 (by assumption) | exact TI.i7 (by assumption)) (by first | omega | exact TI.i5 (by assumption) | exact TI.i3 (by assumption) | exact TI.i2 (by assumption) | exact TI.i1 (by assumption) | exact TI.i0 (by assumption) | exact TI.i4 (by assumption) | exact TI.i6 (by assumption) | exact TI.i7 (by assumption)) (fun c7 => ?_) (fun c7 => ?_)
    ·
      have e : i = N := by omega
      subst e -- go
      exact wp_vr (pc := 67) dX12_look_67 rfl (by decide) (by decide) (by first | exact ⟨K, O⟩ | rfl)
    ·
      have d1 : ((n : Int) * 6 + i) / 6 = n := by omega
      have d2 : ((n : Int) * 6 + i) % 6 = i := by omega
      have no : ¬ (T 6 (n : Int)).toNat.testBit i = true → one T 0 (btw (T 0) (lrf W T) ((n : Int) * 6) ((n : Int) * 6 + i)) = one T 0 (btw (T 0) (lrf W T) ((n : Int) * 6) ((n : Int) * 6 + (i + 1))) := by
        intro z
        rw [btw_skip (f := T 0) (f' := lrf W T) (by unfold lrf; rw [d1, d2, if_neg (by rw [Int.toNat_natCast]; exact z)]), Int.add_assoc] -- go
      refine wp_iload_n (pc := 10) dX12_look_10 rfl ?_
      refine wp_iload_n (pc := 11) dX12_look_11 rfl ?_
      refine wp_icmp_eq (pc := 12) 61 dX12_look_12 (by decide) (by first | omega | exact TI.i5 (by assumption) | exact TI.i3 (by assumption) | exact TI.i2 (by assumption) | exact TI.i1 (by assumption) | exact TI.i0 (by assumption) | exact TI.i4 (by assumption) | exact TI.i6 (by assumption) | exact TI.i7 (by assumption)) (by first | omega | exact TI.i5 (by assumption) | exact TI.i3 (by assumption) | exact TI.i2 (by assumption) | exact TI.i1 (by assumption) | exact TI.i0 (by assumption) | exact TI.i4 (by assumption) | exact TI.i6 (by assumption) | exact TI.i7 (by assumption)) (fun c12 => ?_) (fun c12 => ?_)
      ·
        have e : i = n := by omega
        rw [no (by rw [e, hs]; decide)] at K -- go
        refine wp_iinc (pc := 61) dX12_look_61 rfl (by decide) ?_
        refine wp_goto (pc := 64) 2 dX12_look_64 (by decide) ?_
        refine wp_ls ?_ (ih (i + 1) (by omega) (by omega) _ K O)
        repeat' (first | exact LE_0 | refine LE_s rfl ?_ | refine LE_s (I_c (by first | omega | (simp only [sm]; omega))) ?_ | refine LE_s (J_c (by first | omega | exact Int.pow_succ _ _ | exact (Int.pow_succ _ _).symm | exact (Int.pow_zero _).symm | (simp only [sm]; omega))) ?_ | refine LE_n ?_)
      ·
        refine wp_aload_n (pc := 15) dX12_look_15 rfl ?_
        refine wp_bipush (pc := 16) (y := 60) dX12_look_16 (by decide) ?_
        refine wp_iload_n (pc := 18) dX12_look_18 rfl ?_
        refine wp_iadd (pc := 19) dX12_look_19 ?_
        refine wm_iald dX12_look_20 K (by first | rfl | assumption) (by first | decide | omega) (by first | decide | omega) (by decide) (by omega) (by omega) (by repeat (first | assumption | exact upA_eq | (apply upA_ne; first | decide | omega) | (apply SA_at; assumption; first | decide | (simp; omega)) | exact rfl)) (by first | exact flat5 (by omega) (by omega) | exact flat3 (by omega) (by omega) | exact flat2 (by omega) (by omega) | exact flat6 (by omega) (by omega) | exact flat4 (by omega) (by omega) | exact flat1 (by omega) (by omega) | exact flat0 (by omega) (by omega) | exact flat7 | exact rfl) ?_
        refine wp_topE e6 ?_
        refine wp_iload_n (pc := 21) dX12_look_21 rfl ?_
        refine wp_Sp (pc := 22) dX12_look_22 cl_X12_227 (sp_Ref_has (s := (T 6 (n : Int)).toNat) (k := i) (by omega) (by omega)) rfl rfl (by decide) (Nat.le_of_ble_eq_true rfl) ?_
        first | refine wp_ifb_ne (pc := 25) 31 dX12_look_25 (by decide) (fun c25 => ?_) (fun c25 => ?_) | refine wp_if_ne (pc := 25) 31 dX12_look_25 (by decide) (by first | omega | exact TI.i5 (by assumption) | exact TI.i3 (by assumption) | exact TI.i2 (by assumption) | exact TI.i1 (by assumption) | exact TI.i0 (by assumption) | exact TI.i4 (by assumption) | exact TI.i6 (by assumption) | exact TI.i7 (by assumption)) (fun c25 => ?_) (fun c25 => ?_)
        ·
          have e1 : up (one T 0 (btw (T 0) (lrf W T) ((n : Int) * 6) ((n : Int) * 6 + i))) 0 ((n : Int) * 6 + i) (T 0 ((n : Int) * 6 + i) + cmp (W ((i : Int) * 6 + n)) (T 0 ((n : Int) * 6 + i))) = one T 0 (btw (T 0) (lrf W T) ((n : Int) * 6) ((n : Int) * 6 + (i + 1))) := by rw [one_up, btw_upd (f := T 0) (f' := lrf W T) (by omega) (by unfold lrf; rw [d1, d2, if_pos (by rw [Int.toNat_natCast]; exact c25)]), Int.add_assoc]
          skip -- go
          refine wp_aload_n (pc := 31) dX12_look_31 rfl ?_
          refine wp_iload_n (pc := 32) dX12_look_32 rfl ?_
          refine wp_iload_n (pc := 33) dX12_look_33 rfl ?_
          refine wp_Sp (pc := 34) dX12_look_34 cl_X12_151 sp_Ref_pair rfl rfl (by decide) (Nat.le_of_ble_eq_true rfl) ?_
          first | refine wp_dup2 (pc := 37) dX12_look_37 rfl rfl ?_ | refine wp_dup2l (pc := 37) dX12_look_37 rfl ?_
          refine wm_iald dX12_look_38 K (by first | rfl | assumption) (by first | decide | omega) (by first | decide | omega) (by decide) (by omega) (by omega) (by repeat (first | assumption | exact upA_eq | (apply upA_ne; first | decide | omega) | (apply SA_at; assumption; first | decide | (simp; omega)) | exact rfl)) (by first | exact flat5 (by omega) (by omega) | exact flat3 (by omega) (by omega) | exact flat2 (by omega) (by omega) | exact flat6 (by omega) (by omega) | exact flat4 (by omega) (by omega) | exact flat1 (by omega) (by omega) | exact flat0 (by omega) (by omega) | exact flat7 | exact rfl) ?_
          refine wp_topE a0 ?_
          refine wp_aload_n (pc := 39) dX12_look_39 rfl ?_
          refine wm_get dX12_look_40 gf_X12_42 K (by rfl) ?_
          refine wp_iload_n (pc := 43) dX12_look_43 rfl ?_
          refine wp_iload_n (pc := 44) dX12_look_44 rfl ?_
          refine wp_Sp (pc := 45) dX12_look_45 cl_X12_151 sp_Ref_pair rfl rfl (by decide) (Nat.le_of_ble_eq_true rfl) ?_
          refine wm_iald dX12_look_48 K (by first | rfl | assumption) (by first | decide | omega) (by first | decide | omega) (by decide) (by omega) (by omega) (by repeat (first | assumption | exact upA_eq | (apply upA_ne; first | decide | omega) | (apply SA_at; assumption; first | decide | (simp; omega)) | exact rfl)) (hG i n (by omega) (by omega) (by omega)) ?_
          refine wp_aload_n (pc := 49) dX12_look_49 rfl ?_
          refine wp_iload_n (pc := 50) dX12_look_50 rfl ?_
          refine wp_iload_n (pc := 51) dX12_look_51 rfl ?_
          refine wp_Sp (pc := 52) dX12_look_52 cl_X12_151 sp_Ref_pair rfl rfl (by decide) (Nat.le_of_ble_eq_true rfl) ?_
          refine wm_iald dX12_look_55 K (by first | rfl | assumption) (by first | decide | omega) (by first | decide | omega) (by decide) (by omega) (by omega) (by repeat (first | assumption | exact upA_eq | (apply upA_ne; first | decide | omega) | (apply SA_at; assumption; first | decide | (simp; omega)) | exact rfl)) (by first | exact flat5 (by omega) (by omega) | exact flat3 (by omega) (by omega) | exact flat2 (by omega) (by omega) | exact flat6 (by omega) (by omega) | exact flat4 (by omega) (by omega) | exact flat1 (by omega) (by omega) | exact flat0 (by omega) (by omega) | exact flat7 | exact rfl) ?_
          refine wp_topE a0 ?_
          refine wp_Sp (pc := 56) dX12_look_56 cl_X12_230 (sp_Integer_compare (by first | assumption | omega | (repeat (first | assumption | exact pv10 | exact pv11 | (apply pv_o; decide; decide) | exact upN_eq | (apply upN_ne; decide) | (apply SV_at; assumption; decide) | exact upA_eq | (apply upA_ne; first | decide | omega) | (apply SA_at; assumption; first | decide | (simp; omega)) | exact rfl))) (by first | assumption | omega | (repeat (first | assumption | exact pv10 | exact pv11 | (apply pv_o; decide; decide) | exact upN_eq | (apply upN_ne; decide) | (apply SV_at; assumption; decide) | exact upA_eq | (apply upA_ne; first | decide | omega) | (apply SA_at; assumption; first | decide | (simp; omega)) | exact rfl)))) rfl rfl (by decide) (Nat.le_of_ble_eq_true rfl) ?_
          refine wp_iadd (pc := 59) dX12_look_59 ?_
          refine wm_iast dX12_look_60 K O (by first | rfl | assumption) (by first | decide | omega) (by first | decide | omega) (by decide) (by omega) (by omega) (by repeat (first | assumption | exact upA_eq | (apply upA_ne; first | decide | omega) | (apply SA_at; assumption; first | decide | (simp; omega)) | exact rfl)) (by first | exact flatv5 (by omega) (by omega) | exact flatv3 (by omega) (by omega) | exact flatv2 (by omega) (by omega) | exact flatv6 (by omega) (by omega) | exact flatv4 (by omega) (by omega) | exact flatw1 (by omega) (by omega) | exact flatw0 (by omega) (by omega) | exact flatw7 | exact rfl) (fun hp K O => ?_)
          rw [upA_upA, e1] at K
          refine wp_iinc (pc := 61) dX12_look_61 rfl (by decide) ?_
          refine wp_goto (pc := 64) 2 dX12_look_64 (by decide) ?_
          refine wp_ls ?_ (ih (i + 1) (by omega) (by omega) _ K O)
          repeat' (first | exact LE_0 | refine LE_s rfl ?_ | refine LE_s (I_c (by first | omega | (simp only [sm]; omega))) ?_ | refine LE_s (J_c (by first | omega | exact Int.pow_succ _ _ | exact (Int.pow_succ _ _).symm | exact (Int.pow_zero _).symm | (simp only [sm]; omega))) ?_ | refine LE_n ?_)
        ·
          rw [no c25] at K -- go
          refine wp_goto (pc := 28) 61 dX12_look_28 (by decide) ?_
          refine wp_iinc (pc := 61) dX12_look_61 rfl (by decide) ?_
          refine wp_goto (pc := 64) 2 dX12_look_64 (by decide) ?_
          refine wp_ls ?_ (ih (i + 1) (by omega) (by omega) _ K O)
          repeat' (first | exact LE_0 | refine LE_s rfl ?_ | refine LE_s (I_c (by first | omega | (simp only [sm]; omega))) ?_ | refine LE_s (J_c (by first | omega | exact Int.pow_succ _ _ | exact (Int.pow_succ _ _).symm | exact (Int.pow_zero _).symm | (simp only [sm]; omega))) ?_ | refine LE_n ?_)
theorem sp_Ref_look (K : ModAt hp q V A rd rl) (hv1 : V 1 = (N : Int)) (hI : TI T N) (ha : a = 1 ∨ a = 10) (hA : A a = flat T) (rW : ∀ i, 0 ≤ W i ∧ W i ≤ 9) (h11 : A 11 = G) (hG : ∀ i j : Nat, i < N → j < N → i ≠ j → G (6 * (i : Int) + j) = W ((i : Int) * 6 + j)) (hn : n < N) (hs : (T 6 (n : Int)).toNat.testBit n = false) : Sp g MX12_look (rm 1 0 0) [.ref q, .ref (q + a), .int (I (n : Int))] hp (Vod (fun hp2 => ModAt hp2 q V (upA A a (flat (one T 0 (btw (T 0) (lrf W T) ((n : Int) * 6) ((n : Int) * 6 + N))))) rd rl ∧ SO hp hp2 q (q + 25))) := by
  refine Sp_mk rfl (Nat.le_of_ble_eq_true rfl) ?_
  show wp g _ _ _ 0 0 0 [some (.ref q), some (.ref (q + a)), some (.int (I (n : Int))), none] [] hp
  have O := SO.rf (hp := hp) (lo := q) (hi := q + 25)
  refine wp_iconst (pc := 0) dX12_look_0 ?_
  refine wp_istore_n (pc := 1) dX12_look_1 (by decide) ?_
  refine wp_ls ?_ (lp_Ref_look hv1 hI rW ha h11 hG hn hs (N + 1) 0 (by omega) (by omega) hp (by rw [show (n : Int) * 6 + ((0 : Nat) : Int) = (n : Int) * 6 by omega, btw_0, one_id, upA_id hA]; exact K) SO.rf)
  repeat' (first | exact LE_0 | refine LE_s rfl ?_ | refine LE_s (I_c (by first | omega | (simp only [sm]; omega))) ?_ | refine LE_s (J_c (by first | omega | exact Int.pow_succ _ _ | exact (Int.pow_succ _ _).symm | exact (Int.pow_zero _).symm | (simp only [sm]; omega))) ?_ | refine LE_n ?_)
/-! waking -/
theorem lp_gh4 (hv1 : V 1 = (N : Int)) (hI : TI T N) (rW : ∀ i, 0 ≤ W i ∧ W i ≤ 9) (ha : a = 1 ∨ a = 10) (h11 : A 11 = G) (hG : ∀ i j : Nat, i < N → j < N → i ≠ j → G (6 * (i : Int) + j) = W ((i : Int) * 6 + j)) (hH : HS T) (hD : D < 64) (hd : ∀ k : Nat, k < N → (D.testBit k = true ↔ ¬ T 5 (k : Int) = 0)) : ∀ (m i : Nat), N < i + m → i ≤ N → ∀ (hp2 : Hp) (K : ModAt hp2 q V (upA A a (flat (wkT W T N (i : Int)))) rd rl) (O : SO hp hp2 q (q + 25)), wp g MX12_goHour (rm 230 0 0) (Eff (.int (I ((wkc T N : Nat) : Int))) (fun hp3 => ModAt hp3 q V (upA A a (flat (one (wkT W T N (N : Int)) 7 (fun _ => T 7 0 + 1)))) rd rl ∧ SO hp hp3 q (q + 25))) 0 0 271 [some (.ref q), some (.ref (q + a)), some (.int (I (D : Int))), some (.int (I ((wkc T i : Nat) : Int))), some (.int (I (i : Int))), none, none] [] hp2 := by
  intro m
  induction m with
  | zero => intro i h1 h2; exact absurd h1 (by omega)
  | succ m ih =>
    intro i h1 h2 hp2 K O
    have hm := mty_n ha
    have hmm := mty_m ha
    have hN := hI.men.2
    have hI2 := wkT_I (i := (i : Int)) hI rW
    have a5 : wkT W T N (i : Int) 5 (i : Int) = T 5 (i : Int) := upto_at (by omega)
    have h5 := hI.r5 (i : Int)
    refine wp_iload (pc := 271) dX12_goHour_271 rfl ?_
    refine wp_aload_n (pc := 273) dX12_goHour_273 rfl ?_
    refine wm_gets dX12_goHour_274 gf_X12_92 K (by rfl) (by repeat (first | assumption | exact pv10 | exact pv11 | (apply pv_o; decide; decide) | exact upN_eq | (apply upN_ne; decide) | (apply SV_at; assumption; decide) | exact rfl)) ?_
    refine wp_icmp_ge (pc := 277) 332 dX12_goHour_277 (by decide) (by first | omega | exact TI.i5 (by assumption) | exact TI.i3 (by assumption) | exact TI.i2 (by assumption) | exact TI.i1 (by assumption) | exact TI.i0 (by assumption) | exact TI.i4 (by assumption) | exact TI.i6 (by assumption) | exact TI.i7 (by assumption)) (by first | omega | exact TI.i5 (by assumption) | exact TI.i3 (by assumption) | exact TI.i2 (by assumption) | exact TI.i1 (by assumption) | exact TI.i0 (by assumption) | exact TI.i4 (by assumption) | exact TI.i6 (by assumption) | exact TI.i7 (by assumption)) (fun c277 => ?_) (fun c277 => ?_)
    ·
      have e : i = N := by omega
      subst e -- go
      refine wp_aload_n (pc := 332) dX12_goHour_332 rfl ?_
      refine wp_bipush (pc := 333) (y := 102) dX12_goHour_333 (by decide) ?_
      first | refine wp_dup2 (pc := 335) dX12_goHour_335 rfl rfl ?_ | refine wp_dup2l (pc := 335) dX12_goHour_335 rfl ?_
      refine wm_iald dX12_goHour_336 K (by first | rfl | assumption) (by first | decide | omega) (by first | decide | omega) (by decide) (by omega) (by omega) (by repeat (first | assumption | exact upA_eq | (apply upA_ne; first | decide | omega) | (apply SA_at; assumption; first | decide | (simp; omega)) | exact rfl)) (by first | exact flat5 (by omega) (by omega) | exact flat3 (by omega) (by omega) | exact flat2 (by omega) (by omega) | exact flat6 (by omega) (by omega) | exact flat4 (by omega) (by omega) | exact flat1 (by omega) (by omega) | exact flat0 (by omega) (by omega) | exact flat7 | exact rfl) ?_
      refine wp_iconst (pc := 337) dX12_goHour_337 ?_
      refine wp_iadd (pc := 338) dX12_goHour_338 ?_
      refine wm_iast dX12_goHour_339 K O (by first | rfl | assumption) (by first | decide | omega) (by first | decide | omega) (by decide) (by omega) (by omega) (by repeat (first | assumption | exact upA_eq | (apply upA_ne; first | decide | omega) | (apply SA_at; assumption; first | decide | (simp; omega)) | exact rfl)) (by first | exact flatv5 (by omega) (by omega) | exact flatv3 (by omega) (by omega) | exact flatv2 (by omega) (by omega) | exact flatv6 (by omega) (by omega) | exact flatv4 (by omega) (by omega) | exact flatw1 (by omega) (by omega) | exact flatw0 (by omega) (by omega) | exact flatw7 | exact rfl) (fun hp K O => ?_)
      rw [upA_upA] at K
      refine wp_iload_n (pc := 340) dX12_goHour_340 rfl ?_
      exact wp_ir (pc := 341) dX12_goHour_341 rfl (by decide) (by decide) (by first | rfl | omega) (by first | exact ⟨K, O⟩ | rfl)
    ·
      have hdi := hd i (by omega)
      have hdv : ∀ x : Int, (i : Int) * 6 ≤ x → x < ((i : Int) + 1) * 6 → x / 6 = i := fun x z1 z2 => by omega -- go
      refine wp_iload_n (pc := 280) dX12_goHour_280 rfl ?_
      refine wp_iload (pc := 281) dX12_goHour_281 rfl ?_
      refine wp_Sp (pc := 283) dX12_goHour_283 cl_X12_227 (sp_Ref_has (s := D) (k := i) (by omega) (by omega)) rfl rfl (by decide) (Nat.le_of_ble_eq_true rfl) ?_
      first | refine wp_ifb_ne (pc := 286) 292 dX12_goHour_286 (by decide) (fun c286 => ?_) (fun c286 => ?_) | refine wp_if_ne (pc := 286) 292 dX12_goHour_286 (by decide) (by first | omega | exact TI.i5 (by assumption) | exact TI.i3 (by assumption) | exact TI.i2 (by assumption) | exact TI.i1 (by assumption) | exact TI.i0 (by assumption) | exact TI.i4 (by assumption) | exact TI.i6 (by assumption) | exact TI.i7 (by assumption)) (fun c286 => ?_) (fun c286 => ?_)
      ·
        have c17 : ¬ T 5 (i : Int) = 0 := hdi.mp c286
        have eT3 : up (wkT W T N (i : Int)) 5 (i : Int) (T 5 (i : Int) - 1) = two T 0 5 (upto (T 0) (wkO W T N) ((i : Int) * 6)) (upto (T 5) (wkD T) ((i : Int) + 1)) := by
          funext x
          unfold up wkT two
          by_cases z5 : x = 5
          · subst z5
            exact upto_upd (f := T 5) (f' := wkD T) (by unfold wkD; rw [if_neg c17])
          · rw [if_neg z5]
            by_cases z0 : x = 0
            · rw [if_pos z0, if_pos z0]
            · rw [if_neg z0, if_neg z0, if_neg z5, if_neg z5]
        have hI3 : TI (two T 0 5 (upto (T 0) (wkO W T N) ((i : Int) * 6)) (upto (T 5) (wkD T) ((i : Int) + 1))) N := by have := hI2.u5 (a := (i : Int)) (b := T 5 (i : Int) - 1) (by omega); rwa [eT3] at this
        have a53 : two T 0 5 (upto (T 0) (wkO W T N) ((i : Int) * 6)) (upto (T 5) (wkD T) ((i : Int) + 1)) 5 (i : Int) = T 5 (i : Int) - 1 := by show upto (T 5) (wkD T) ((i : Int) + 1) (i : Int) = _; unfold upto wkD; rw [if_pos (by omega), if_neg c17]
        skip -- go
        refine wp_aload_n (pc := 292) dX12_goHour_292 rfl ?_
        refine wp_bipush (pc := 293) (y := 54) dX12_goHour_293 (by decide) ?_
        refine wp_iload (pc := 295) dX12_goHour_295 rfl ?_
        refine wp_iadd (pc := 297) dX12_goHour_297 ?_
        first | refine wp_dup2 (pc := 298) dX12_goHour_298 rfl rfl ?_ | refine wp_dup2l (pc := 298) dX12_goHour_298 rfl ?_
        refine wm_iald dX12_goHour_299 K (by first | rfl | assumption) (by first | decide | omega) (by first | decide | omega) (by decide) (by omega) (by omega) (by repeat (first | assumption | exact upA_eq | (apply upA_ne; first | decide | omega) | (apply SA_at; assumption; first | decide | (simp; omega)) | exact rfl)) (by first | exact flat5 (by omega) (by omega) | exact flat3 (by omega) (by omega) | exact flat2 (by omega) (by omega) | exact flat6 (by omega) (by omega) | exact flat4 (by omega) (by omega) | exact flat1 (by omega) (by omega) | exact flat0 (by omega) (by omega) | exact flat7 | exact rfl) ?_
        refine wp_topE a5 ?_
        refine wp_iconst (pc := 300) dX12_goHour_300 ?_
        refine wp_isub (pc := 301) dX12_goHour_301 ?_
        refine wm_iast dX12_goHour_302 K O (by first | rfl | assumption) (by first | decide | omega) (by first | decide | omega) (by decide) (by omega) (by omega) (by repeat (first | assumption | exact upA_eq | (apply upA_ne; first | decide | omega) | (apply SA_at; assumption; first | decide | (simp; omega)) | exact rfl)) (by first | exact flatv5 (by omega) (by omega) | exact flatv3 (by omega) (by omega) | exact flatv2 (by omega) (by omega) | exact flatv6 (by omega) (by omega) | exact flatv4 (by omega) (by omega) | exact flatw1 (by omega) (by omega) | exact flatw0 (by omega) (by omega) | exact flatw7 | exact rfl) (fun hp K O => ?_)
        rw [upA_upA, eT3] at K
        refine wp_aload_n (pc := 303) dX12_goHour_303 rfl ?_
        refine wp_bipush (pc := 304) (y := 54) dX12_goHour_304 (by decide) ?_
        refine wp_iload (pc := 306) dX12_goHour_306 rfl ?_
        refine wp_iadd (pc := 308) dX12_goHour_308 ?_
        refine wm_iald dX12_goHour_309 K (by first | rfl | assumption) (by first | decide | omega) (by first | decide | omega) (by decide) (by omega) (by omega) (by repeat (first | assumption | exact upA_eq | (apply upA_ne; first | decide | omega) | (apply SA_at; assumption; first | decide | (simp; omega)) | exact rfl)) (by first | exact flat5 (by omega) (by omega) | exact flat3 (by omega) (by omega) | exact flat2 (by omega) (by omega) | exact flat6 (by omega) (by omega) | exact flat4 (by omega) (by omega) | exact flat1 (by omega) (by omega) | exact flat0 (by omega) (by omega) | exact flat7 | exact rfl) ?_
        refine wp_topE a53 ?_
        refine wp_if_le (pc := 310) 316 dX12_goHour_310 (by decide) (by first | omega | exact TI.i5 (by assumption) | exact TI.i3 (by assumption) | exact TI.i2 (by assumption) | exact TI.i1 (by assumption) | exact TI.i0 (by assumption) | exact TI.i4 (by assumption) | exact TI.i6 (by assumption) | exact TI.i7 (by assumption)) (fun c310 => ?_) (fun c310 => ?_)
        ·
          have c35 : T 5 (i : Int) = 1 := by omega
          have ec : wkc T (i + 1) = wkc T i + 1 := by show _ + _ = _; rw [if_pos (by simp [c35])]; rfl
          skip -- go
          refine wp_aload_n (pc := 316) dX12_goHour_316 rfl ?_
          refine wp_aload_n (pc := 317) dX12_goHour_317 rfl ?_
          refine wp_iload (pc := 318) dX12_goHour_318 rfl ?_
          refine wp_Vn (pc := 320) dX12_goHour_320 cl_X12_239 (sp_Ref_look K hv1 hI3 ha upA_eq rW (upA_ne (by omega) h11) hG (by omega) (hH i (by omega))) rfl rfl K.1 (by rfl) (by decide) (Nat.le_of_ble_eq_true rfl) (fun hp320 e320 => ?_)
          obtain ⟨K, O1⟩ := e320
          replace O := SO.tr O O1
          have e1 : one (two T 0 5 (upto (T 0) (wkO W T N) ((i : Int) * 6)) (upto (T 5) (wkD T) ((i : Int) + 1))) 0 (btw (two T 0 5 (upto (T 0) (wkO W T N) ((i : Int) * 6)) (upto (T 5) (wkD T) ((i : Int) + 1)) 0) (lrf W (two T 0 5 (upto (T 0) (wkO W T N) ((i : Int) * 6)) (upto (T 5) (wkD T) ((i : Int) + 1)))) ((i : Int) * 6) ((i : Int) * 6 + N)) = wkT W T N ((i : Int) + 1) := by
            funext k
            unfold one wkT two
            by_cases z0 : k = 0
            · subst z0
              rw [if_pos rfl]
              funext x
              show btw (upto (T 0) (wkO W T N) ((i : Int) * 6)) (lrf W _) ((i : Int) * 6) ((i : Int) * 6 + N) x = upto (T 0) (wkO W T N) (((i : Int) + 1) * 6) x
              unfold btw
              by_cases z : (i : Int) * 6 ≤ x ∧ x < (i : Int) * 6 + N
              · rw [if_pos z, show upto (T 0) (wkO W T N) (((i : Int) + 1) * 6) x = wkO W T N x from if_pos (by omega)]
                have ew : wkO W T N x = lrf W T x := by unfold wkO; rw [hdv x z.1 (by omega), if_pos (show T 5 (i : Int) = 1 ∧ x % 6 < (N : Int) from ⟨c35, by omega⟩)]
                rw [ew]
                exact lrf_congr rfl (show upto (T 0) (wkO W T N) ((i : Int) * 6) x = T 0 x from if_neg (by omega))
              · rw [if_neg z]
                unfold upto
                by_cases y1 : 0 ≤ x ∧ x < (i : Int) * 6
                · rw [if_pos y1, if_pos (by omega)]
                · rw [if_neg y1]
                  by_cases y2 : 0 ≤ x ∧ x < ((i : Int) + 1) * 6
                  · rw [if_pos y2]; unfold wkO; rw [hdv x (by omega) y2.2, if_neg (by omega)]
                  · rw [if_neg y2]
            · rw [if_neg z0, if_neg z0, if_neg z0]
          rw [upA_upA, e1] at K
          refine wp_iinc (pc := 323) dX12_goHour_323 rfl (by decide) ?_
          refine wp_iinc (pc := 326) dX12_goHour_326 rfl (by decide) ?_
          refine wp_goto (pc := 329) 271 dX12_goHour_329 (by decide) ?_
          refine wp_ls ?_ (ih (i + 1) (by omega) (by omega) _ K O)
          rw [ec]
          repeat' (first | exact LE_0 | refine LE_s rfl ?_ | refine LE_s (I_c (by first | omega | (simp only [sm]; omega))) ?_ | refine LE_s (J_c (by first | omega | exact Int.pow_succ _ _ | exact (Int.pow_succ _ _).symm | exact (Int.pow_zero _).symm | (simp only [sm]; omega))) ?_ | refine LE_n ?_)
        ·
          have c35 : ¬ T 5 (i : Int) = 1 := by omega
          have e1 : two T 0 5 (upto (T 0) (wkO W T N) ((i : Int) * 6)) (upto (T 5) (wkD T) ((i : Int) + 1)) = wkT W T N ((i : Int) + 1) := by
            unfold wkT
            rw [upto_jump (f := T 0) (f' := wkO W T N) (show (i : Int) * 6 ≤ ((i : Int) + 1) * 6 by omega) (fun x z1 z2 => by unfold wkO; rw [hdv x z1 z2, if_neg (fun z => c35 z.1)])]
          rw [e1] at K
          have ec : wkc T (i + 1) = wkc T i := by show _ + _ = _; rw [if_neg (by simp [c35])]; rfl
          skip -- go
          refine wp_goto (pc := 313) 326 dX12_goHour_313 (by decide) ?_
          refine wp_iinc (pc := 326) dX12_goHour_326 rfl (by decide) ?_
          refine wp_goto (pc := 329) 271 dX12_goHour_329 (by decide) ?_
          refine wp_ls ?_ (ih (i + 1) (by omega) (by omega) _ K O)
          rw [ec]
          repeat' (first | exact LE_0 | refine LE_s rfl ?_ | refine LE_s (I_c (by first | omega | (simp only [sm]; omega))) ?_ | refine LE_s (J_c (by first | omega | exact Int.pow_succ _ _ | exact (Int.pow_succ _ _).symm | exact (Int.pow_zero _).symm | (simp only [sm]; omega))) ?_ | refine LE_n ?_)
      ·
        have c17 : T 5 (i : Int) = 0 := Classical.byContradiction fun z => c286 (hdi.mpr z)
        have e1 : wkT W T N (i : Int) = wkT W T N ((i : Int) + 1) := by
          unfold wkT
          rw [upto_skip (f := T 5) (f' := wkD T) (by unfold wkD; rw [if_pos c17, c17]), upto_jump (f := T 0) (f' := wkO W T N) (show (i : Int) * 6 ≤ ((i : Int) + 1) * 6 by omega) (fun x z1 z2 => by unfold wkO; rw [hdv x z1 z2, if_neg (by omega)])]
        rw [e1] at K
        have ec : wkc T (i + 1) = wkc T i := by show _ + _ = _; rw [if_neg (by simp [c17])]; rfl
        skip -- go
        refine wp_goto (pc := 289) 326 dX12_goHour_289 (by decide) ?_
        refine wp_iinc (pc := 326) dX12_goHour_326 rfl (by decide) ?_
        refine wp_goto (pc := 329) 271 dX12_goHour_329 (by decide) ?_
        refine wp_ls ?_ (ih (i + 1) (by omega) (by omega) _ K O)
        rw [ec]
        repeat' (first | exact LE_0 | refine LE_s rfl ?_ | refine LE_s (I_c (by first | omega | (simp only [sm]; omega))) ?_ | refine LE_s (J_c (by first | omega | exact Int.pow_succ _ _ | exact (Int.pow_succ _ _).symm | exact (Int.pow_zero _).symm | (simp only [sm]; omega))) ?_ | refine LE_n ?_)
/-! debts -/
theorem mi99b (h : 0 < x ∧ x ≤ 99) : mi 99 (x + 1) = if 0 < x ∧ x < 99 then x + 1 else x := by unfold mi; repeat' split <;> omega
theorem lp_gh3b (hv1 : V 1 = (N : Int)) (hI : TI T N) (ha : a = 1 ∨ a = 10) (hD : D < 64) (hd : ∀ k : Nat, k < N → (D.testBit k = true ↔ ¬ T 5 (k : Int) = 0)) (hn : n < N) {Q : Option Value → Hp → Prop} (Kn : ∀ hp3, ModAt hp3 q V (upA A a (flat (grT T N ((n : Int) * 6 + N)))) rd rl → SO hp hp3 q (q + 25) → wp g MX12_goHour (rm 230 0 0) Q 0 0 262 [some (.ref q), some (.ref (q + a)), some (.int (I (D : Int))), some (.int (I 0)), some (.int (I (n : Int))), none, none] [] hp3) : ∀ (m i : Nat), N < i + m → i ≤ N → ∀ (hp2 : Hp) (K : ModAt hp2 q V (upA A a (flat (grT T N ((n : Int) * 6 + i)))) rd rl) (O : SO hp hp2 q (q + 25)), wp g MX12_goHour (rm 230 0 0) Q 0 0 195 [some (.ref q), some (.ref (q + a)), some (.int (I (D : Int))), some (.int (I 0)), some (.int (I (n : Int))), some (.int (I (i : Int))), none] [] hp2 := by
  intro m
  induction m with
  | zero => intro i h1 h2; exact absurd h1 (by omega)
  | succ m ih =>
    intro i h1 h2 hp2 K O
    have hm := mty_n ha
    have hmm := mty_m ha
    have hN := hI.men.2
    have b1 := hI.r1 ((n : Int) * 6 + i)
    have a1 : grT T N ((n : Int) * 6 + i) 1 ((n : Int) * 6 + i) = T 1 ((n : Int) * 6 + i) := upto_at (by omega)
    refine wp_iload (pc := 195) dX12_goHour_195 rfl ?_
    refine wp_aload_n (pc := 197) dX12_goHour_197 rfl ?_
    refine wm_gets dX12_goHour_198 gf_X12_92 K (by rfl) (by repeat (first | assumption | exact pv10 | exact pv11 | (apply pv_o; decide; decide) | exact upN_eq | (apply upN_ne; decide) | (apply SV_at; assumption; decide) | exact rfl)) ?_
    refine wp_icmp_ge (pc := 201) 262 dX12_goHour_201 (by decide) (by first | omega | exact TI.i5 (by assumption) | exact TI.i3 (by assumption) | exact TI.i2 (by assumption) | exact TI.i1 (by assumption) | exact TI.i0 (by assumption) | exact TI.i4 (by assumption) | exact TI.i6 (by assumption) | exact TI.i7 (by assumption)) (by first | omega | exact TI.i5 (by assumption) | exact TI.i3 (by assumption) | exact TI.i2 (by assumption) | exact TI.i1 (by assumption) | exact TI.i0 (by assumption) | exact TI.i4 (by assumption) | exact TI.i6 (by assumption) | exact TI.i7 (by assumption)) (fun c201 => ?_) (fun c201 => ?_)
    ·
      have e : i = N := by omega
      subst e
      refine wp_ls ?_ (Kn hp2 K O)
      repeat' (first | exact LE_0 | refine LE_s rfl ?_ | refine LE_s (I_c (by first | omega | (simp only [sm]; omega))) ?_ | refine LE_s (J_c (by first | omega | exact Int.pow_succ _ _ | exact (Int.pow_succ _ _).symm | exact (Int.pow_zero _).symm | (simp only [sm]; omega))) ?_ | refine LE_n ?_)
    ·
      have hdi := hd i (by omega)
      have hdn := hd n hn
      have d1 : ((n : Int) * 6 + i) / 6 = n := by omega
      have d2 : ((n : Int) * 6 + i) % 6 = i := by omega
      have no : gDb T N ((n : Int) * 6 + i) = T 1 ((n : Int) * 6 + i) → grT T N ((n : Int) * 6 + i) = grT T N ((n : Int) * 6 + (i + 1)) := by
        intro z
        unfold grT
        rw [upto_skipI (f := T 1) (f' := gDb T N) (by omega) z.symm, Int.add_assoc]
      have ys : ∀ v, v = gDb T N ((n : Int) * 6 + i) → up (grT T N ((n : Int) * 6 + i)) 1 ((n : Int) * 6 + i) v = grT T N ((n : Int) * 6 + (i + 1)) := by
        intro v z
        unfold grT
        rw [one_up, upto_updI (f := T 1) (f' := gDb T N) (by omega) z, Int.add_assoc] -- go
      refine wp_bipush (pc := 204) (y := 66) dX12_goHour_204 (by decide) ?_
      refine wp_iload (pc := 206) dX12_goHour_206 rfl ?_
      refine wp_iload (pc := 208) dX12_goHour_208 rfl ?_
      refine wp_Sp (pc := 210) dX12_goHour_210 cl_X12_151 sp_Ref_pair rfl rfl (by decide) (Nat.le_of_ble_eq_true rfl) ?_
      refine wp_iadd (pc := 213) dX12_goHour_213 ?_
      refine wp_istore (pc := 214) dX12_goHour_214 (by decide) ?_
      refine wp_aload_n (pc := 216) dX12_goHour_216 rfl ?_
      refine wp_iload (pc := 217) dX12_goHour_217 rfl ?_
      refine wm_iald dX12_goHour_219 K (by first | rfl | assumption) (by first | decide | omega) (by first | decide | omega) (by decide) (by omega) (by omega) (by repeat (first | assumption | exact upA_eq | (apply upA_ne; first | decide | omega) | (apply SA_at; assumption; first | decide | (simp; omega)) | exact rfl)) (by first | exact flat5 (by omega) (by omega) | exact flat3 (by omega) (by omega) | exact flat2 (by omega) (by omega) | exact flat6 (by omega) (by omega) | exact flat4 (by omega) (by omega) | exact flat1 (by omega) (by omega) | exact flat0 (by omega) (by omega) | exact flat7 | exact rfl) ?_
      refine wp_topE a1 ?_
      refine wp_if_le (pc := 220) 256 dX12_goHour_220 (by decide) (by first | omega | exact TI.i5 (by assumption) | exact TI.i3 (by assumption) | exact TI.i2 (by assumption) | exact TI.i1 (by assumption) | exact TI.i0 (by assumption) | exact TI.i4 (by assumption) | exact TI.i6 (by assumption) | exact TI.i7 (by assumption)) (fun c220 => ?_) (fun c220 => ?_)
      ·
        rw [no (by unfold gDb; rw [if_neg (by omega)])] at K -- go
        refine wp_iinc (pc := 256) dX12_goHour_256 rfl (by decide) ?_
        refine wp_goto (pc := 259) 195 dX12_goHour_259 (by decide) ?_
        refine wp_ls ?_ (ih (i + 1) (by omega) (by omega) _ K O)
        repeat' (first | exact LE_0 | refine LE_s rfl ?_ | refine LE_s (I_c (by first | omega | (simp only [sm]; omega))) ?_ | refine LE_s (J_c (by first | omega | exact Int.pow_succ _ _ | exact (Int.pow_succ _ _).symm | exact (Int.pow_zero _).symm | (simp only [sm]; omega))) ?_ | refine LE_n ?_)
      ·
        refine wp_iload_n (pc := 223) dX12_goHour_223 rfl ?_
        refine wp_iload (pc := 224) dX12_goHour_224 rfl ?_
        refine wp_Sp (pc := 226) dX12_goHour_226 cl_X12_227 (sp_Ref_has (s := D) (k := n) (by omega) (by omega)) rfl rfl (by decide) (Nat.le_of_ble_eq_true rfl) ?_
        first | refine wp_ifb_ne (pc := 229) 256 dX12_goHour_229 (by decide) (fun c229 => ?_) (fun c229 => ?_) | refine wp_if_ne (pc := 229) 256 dX12_goHour_229 (by decide) (by first | omega | exact TI.i5 (by assumption) | exact TI.i3 (by assumption) | exact TI.i2 (by assumption) | exact TI.i1 (by assumption) | exact TI.i0 (by assumption) | exact TI.i4 (by assumption) | exact TI.i6 (by assumption) | exact TI.i7 (by assumption)) (fun c229 => ?_) (fun c229 => ?_)
        ·
          rw [no (by unfold gDb; rw [d1, if_neg (fun z => hdn.mp c229 z.2.2.1)])] at K -- go
          refine wp_iinc (pc := 256) dX12_goHour_256 rfl (by decide) ?_
          refine wp_goto (pc := 259) 195 dX12_goHour_259 (by decide) ?_
          refine wp_ls ?_ (ih (i + 1) (by omega) (by omega) _ K O)
          repeat' (first | exact LE_0 | refine LE_s rfl ?_ | refine LE_s (I_c (by first | omega | (simp only [sm]; omega))) ?_ | refine LE_s (J_c (by first | omega | exact Int.pow_succ _ _ | exact (Int.pow_succ _ _).symm | exact (Int.pow_zero _).symm | (simp only [sm]; omega))) ?_ | refine LE_n ?_)
        ·
          refine wp_iload_n (pc := 232) dX12_goHour_232 rfl ?_
          refine wp_iload (pc := 233) dX12_goHour_233 rfl ?_
          refine wp_Sp (pc := 235) dX12_goHour_235 cl_X12_227 (sp_Ref_has (s := D) (k := i) (by omega) (by omega)) rfl rfl (by decide) (Nat.le_of_ble_eq_true rfl) ?_
          first | refine wp_ifb_ne (pc := 238) 256 dX12_goHour_238 (by decide) (fun c238 => ?_) (fun c238 => ?_) | refine wp_if_ne (pc := 238) 256 dX12_goHour_238 (by decide) (by first | omega | exact TI.i5 (by assumption) | exact TI.i3 (by assumption) | exact TI.i2 (by assumption) | exact TI.i1 (by assumption) | exact TI.i0 (by assumption) | exact TI.i4 (by assumption) | exact TI.i6 (by assumption) | exact TI.i7 (by assumption)) (fun c238 => ?_) (fun c238 => ?_)
          ·
            rw [no (by unfold gDb; rw [d2, if_neg (fun z => hdi.mp c238 z.2.2.2)])] at K -- go
            refine wp_iinc (pc := 256) dX12_goHour_256 rfl (by decide) ?_
            refine wp_goto (pc := 259) 195 dX12_goHour_259 (by decide) ?_
            refine wp_ls ?_ (ih (i + 1) (by omega) (by omega) _ K O)
            repeat' (first | exact LE_0 | refine LE_s rfl ?_ | refine LE_s (I_c (by first | omega | (simp only [sm]; omega))) ?_ | refine LE_s (J_c (by first | omega | exact Int.pow_succ _ _ | exact (Int.pow_succ _ _).symm | exact (Int.pow_zero _).symm | (simp only [sm]; omega))) ?_ | refine LE_n ?_)
          ·
            refine wp_aload_n (pc := 241) dX12_goHour_241 rfl ?_
            refine wp_iload (pc := 242) dX12_goHour_242 rfl ?_
            refine wp_bipush (pc := 244) (y := 99) dX12_goHour_244 (by decide) ?_
            refine wp_aload_n (pc := 246) dX12_goHour_246 rfl ?_
            refine wp_iload (pc := 247) dX12_goHour_247 rfl ?_
            refine wm_iald dX12_goHour_249 K (by first | rfl | assumption) (by first | decide | omega) (by first | decide | omega) (by decide) (by omega) (by omega) (by repeat (first | assumption | exact upA_eq | (apply upA_ne; first | decide | omega) | (apply SA_at; assumption; first | decide | (simp; omega)) | exact rfl)) (by first | exact flat5 (by omega) (by omega) | exact flat3 (by omega) (by omega) | exact flat2 (by omega) (by omega) | exact flat6 (by omega) (by omega) | exact flat4 (by omega) (by omega) | exact flat1 (by omega) (by omega) | exact flat0 (by omega) (by omega) | exact flat7 | exact rfl) ?_
            refine wp_topE a1 ?_
            refine wp_iconst (pc := 250) dX12_goHour_250 ?_
            refine wp_iadd (pc := 251) dX12_goHour_251 ?_
            refine wp_min (pc := 252) dX12_goHour_252 ml_X12_194 ma_min_s ma_ini ma_min_c (by decide) (by decide) (by decide) (by decide) (Nat.le_of_ble_eq_true rfl) (by first | omega | exact TI.i5 (by assumption) | exact TI.i3 (by assumption) | exact TI.i2 (by assumption) | exact TI.i1 (by assumption) | exact TI.i0 (by assumption) | exact TI.i4 (by assumption) | exact TI.i6 (by assumption) | exact TI.i7 (by assumption)) (by first | omega | exact TI.i5 (by assumption) | exact TI.i3 (by assumption) | exact TI.i2 (by assumption) | exact TI.i1 (by assumption) | exact TI.i0 (by assumption) | exact TI.i4 (by assumption) | exact TI.i6 (by assumption) | exact TI.i7 (by assumption)) ?_
            refine wm_iast dX12_goHour_255 K O (by first | rfl | assumption) (by first | decide | omega) (by first | decide | omega) (by decide) (by omega) (by omega) (by repeat (first | assumption | exact upA_eq | (apply upA_ne; first | decide | omega) | (apply SA_at; assumption; first | decide | (simp; omega)) | exact rfl)) (by first | exact flatv5 (by omega) (by omega) | exact flatv3 (by omega) (by omega) | exact flatv2 (by omega) (by omega) | exact flatv6 (by omega) (by omega) | exact flatv4 (by omega) (by omega) | exact flatw1 (by omega) (by omega) | exact flatw0 (by omega) (by omega) | exact flatw7 | exact rfl) (fun hp K O => ?_)
            have z5 : T 5 (n : Int) = 0 := Classical.byContradiction fun z => c229 (hdn.mpr z)
            have z6 : T 5 (i : Int) = 0 := Classical.byContradiction fun z => c238 (hdi.mpr z)
            rw [upA_upA, ys _ (by rw [mi99b (by omega)]; unfold gDb; rw [d1, d2]; split <;> split <;> omega)] at K
            refine wp_iinc (pc := 256) dX12_goHour_256 rfl (by decide) ?_
            refine wp_goto (pc := 259) 195 dX12_goHour_259 (by decide) ?_
            refine wp_ls ?_ (ih (i + 1) (by omega) (by omega) _ K O)
            repeat' (first | exact LE_0 | refine LE_s rfl ?_ | refine LE_s (I_c (by first | omega | (simp only [sm]; omega))) ?_ | refine LE_s (J_c (by first | omega | exact Int.pow_succ _ _ | exact (Int.pow_succ _ _).symm | exact (Int.pow_zero _).symm | (simp only [sm]; omega))) ?_ | refine LE_n ?_)
theorem lp_gh3 (hv1 : V 1 = (N : Int)) (hI : TI T N) (ha : a = 1 ∨ a = 10) (hD : D < 64) (hd : ∀ k : Nat, k < N → (D.testBit k = true ↔ ¬ T 5 (k : Int) = 0)) {Q : Option Value → Hp → Prop} (Kn : ∀ hp3, ModAt hp3 q V (upA A a (flat (grT T N ((N : Int) * 6)))) rd rl → SO hp hp3 q (q + 25) → wp g MX12_goHour (rm 230 0 0) Q 0 0 268 [some (.ref q), some (.ref (q + a)), some (.int (I (D : Int))), some (.int (I 0)), none, none, none] [] hp3) : ∀ (m i : Nat), N < i + m → i ≤ N → ∀ (hp2 : Hp) (K : ModAt hp2 q V (upA A a (flat (grT T N ((i : Int) * 6)))) rd rl) (O : SO hp hp2 q (q + 25)), wp g MX12_goHour (rm 230 0 0) Q 0 0 183 [some (.ref q), some (.ref (q + a)), some (.int (I (D : Int))), some (.int (I 0)), some (.int (I (i : Int))), none, none] [] hp2 := by
  intro m
  induction m with
  | zero => intro i h1 h2; exact absurd h1 (by omega)
  | succ m ih =>
    intro i h1 h2 hp2 K O
    have hN := hI.men.2
    refine wp_iload (pc := 183) dX12_goHour_183 rfl ?_
    refine wp_aload_n (pc := 185) dX12_goHour_185 rfl ?_
    refine wm_gets dX12_goHour_186 gf_X12_92 K (by rfl) (by repeat (first | assumption | exact pv10 | exact pv11 | (apply pv_o; decide; decide) | exact upN_eq | (apply upN_ne; decide) | (apply SV_at; assumption; decide) | exact rfl)) ?_
    refine wp_icmp_ge (pc := 189) 268 dX12_goHour_189 (by decide) (by first | omega | exact TI.i5 (by assumption) | exact TI.i3 (by assumption) | exact TI.i2 (by assumption) | exact TI.i1 (by assumption) | exact TI.i0 (by assumption) | exact TI.i4 (by assumption) | exact TI.i6 (by assumption) | exact TI.i7 (by assumption)) (by first | omega | exact TI.i5 (by assumption) | exact TI.i3 (by assumption) | exact TI.i2 (by assumption) | exact TI.i1 (by assumption) | exact TI.i0 (by assumption) | exact TI.i4 (by assumption) | exact TI.i6 (by assumption) | exact TI.i7 (by assumption)) (fun c189 => ?_) (fun c189 => ?_)
    ·
      have e : i = N := by omega
      subst e
      refine wp_ls ?_ (Kn hp2 K O)
      repeat' (first | exact LE_0 | refine LE_s rfl ?_ | refine LE_s (I_c (by first | omega | (simp only [sm]; omega))) ?_ | refine LE_s (J_c (by first | omega | exact Int.pow_succ _ _ | exact (Int.pow_succ _ _).symm | exact (Int.pow_zero _).symm | (simp only [sm]; omega))) ?_ | refine LE_n ?_)
    ·
      refine wp_iconst (pc := 192) dX12_goHour_192 ?_
      refine wp_istore (pc := 193) dX12_goHour_193 (by decide) ?_
      refine wp_ls ?_ (lp_gh3b (n := i) hv1 hI ha hD hd (by omega) (fun hp3 K3 O3 => ?_) (N + 1) 0 (by omega) (by omega) hp2 (by rw [show (i : Int) * 6 + ((0 : Nat) : Int) = (i : Int) * 6 by omega]; exact K) O)
      · repeat' (first | exact LE_0 | refine LE_s rfl ?_ | refine LE_s (I_c (by first | omega | (simp only [sm]; omega))) ?_ | refine LE_s (J_c (by first | omega | exact Int.pow_succ _ _ | exact (Int.pow_succ _ _).symm | exact (Int.pow_zero _).symm | (simp only [sm]; omega))) ?_ | refine LE_n ?_)
      · refine wp_iinc (pc := 262) dX12_goHour_262 rfl (by decide) ?_
        refine wp_goto (pc := 265) 183 dX12_goHour_265 (by decide) ?_
        refine wp_ls ?_ (ih (i + 1) (by omega) (by omega) hp3 (by have e : grT T N ((i : Int) * 6 + N) = grT T N (((i + 1 : Nat) : Int) * 6) := by { unfold grT; rw [upto_jump (f := T 1) (f' := gDb T N) (show (i : Int) * 6 + N ≤ ((i + 1 : Nat) : Int) * 6 by omega) (fun x z1 z2 => by unfold gDb; rw [if_neg (by omega)])] }; rw [← e]; exact K3) O3)
        repeat' (first | exact LE_0 | refine LE_s rfl ?_ | refine LE_s (I_c (by first | omega | (simp only [sm]; omega))) ?_ | refine LE_s (J_c (by first | omega | exact Int.pow_succ _ _ | exact (Int.pow_succ _ _).symm | exact (Int.pow_zero _).symm | (simp only [sm]; omega))) ?_ | refine LE_n ?_)
/-! hearing -/
def hjT (W : Int → Int) (T : Nat → Int → Int) (N : Nat) (j : Int) (i : Nat) : Nat → Int → Int := up (up (heT W T N j) 3 j (mi 9999 (T 3 j + wof W (bits (lv T) N) j i))) 6 j (((T 6 j).toNat ||| bits (lv T) i : Nat) : Int)
theorem upup {k1 k2 : Nat} {j1 v1 v2 w1 w2 : Int} (h : k1 ≠ k2) : up (up (up (up T k1 j1 v1) k2 j1 v2) k1 j1 w1) k2 j1 w2 = up (up T k1 j1 w1) k2 j1 w2 := by
  funext k x
  unfold up updI
  by_cases z : k = k2
  · subst z
    simp [Ne.symm h]
    split <;> rfl
  · by_cases z2 : k = k1
    · subst z2
      simp [h]
      split <;> rfl
    · simp [z, z2]
theorem hjT0 (hI : TI T N) : hjT W T N (n : Int) 0 = heT W T N (n : Int) := by
  have h3 := hI.r3 (n : Int)
  have h6 := hI.r6 (n : Int)
  have e3 : mi 9999 (T 3 (n : Int) + wof W (bits (lv T) N) (n : Int) 0) = T 3 (n : Int) := by
    show mi 9999 (T 3 (n : Int) + 0) = _
    unfold mi; split <;> omega
  have e6 : (((T 6 (n : Int)).toNat ||| bits (lv T) 0 : Nat) : Int) = T 6 (n : Int) := by
    show (((T 6 (n : Int)).toNat ||| 0 : Nat) : Int) = _
    rw [Nat.or_zero]; omega
  unfold hjT
  rw [e3, e6]
  have a3 : heT W T N (n : Int) 3 (n : Int) = T 3 (n : Int) := upto_at (by omega)
  have a6 : heT W T N (n : Int) 6 (n : Int) = T 6 (n : Int) := upto_at (by omega)
  funext k x
  unfold up updI
  by_cases z6 : k = 6
  · subst z6
    rw [if_pos rfl]
    by_cases z : x = (n : Int)
    · rw [if_pos z, z, a6]
    · rw [if_neg z]; rfl
  · rw [if_neg z6]
    by_cases z3 : k = 3
    · subst z3
      rw [if_pos rfl]
      by_cases z : x = (n : Int)
      · rw [if_pos z, z, a3]
      · rw [if_neg z]
    · rw [if_neg z3]
theorem hjTN (h5 : ¬ T 5 (n : Int) = 0) : hjT W T N (n : Int) N = heT W T N ((n : Int) + 1) := by
  unfold hjT
  funext x
  unfold up heT two
  by_cases z6 : x = 6
  · subst z6
    exact upto_upd (f := T 6) (f' := heB T N) (by unfold heB; rw [if_neg h5])
  · by_cases z3 : x = 3
    · subst z3
      exact upto_upd (f := T 3) (f' := heH W T N) (by unfold heH; rw [if_neg h5])
    · rw [if_neg z6, if_neg z3, if_neg z3, if_neg z6, if_neg z3, if_neg z6]
theorem heTs (h5 : T 5 (n : Int) = 0) : heT W T N (n : Int) = heT W T N ((n : Int) + 1) := by
  unfold heT
  rw [upto_skip (f := T 3) (f' := heH W T N) (by unfold heH; rw [if_pos h5]), upto_skip (f := T 6) (f' := heB T N) (by unfold heB; rw [if_pos h5])]
theorem mi_mi (hx : 0 ≤ y) : mi 9999 (mi 9999 x + y) = mi 9999 (x + y) := by unfold mi; repeat' split <;> omega
theorem hj_3 {i : Nat} : hjT W T N (n : Int) i 3 (n : Int) = mi 9999 (T 3 (n : Int) + wof W (bits (lv T) N) (n : Int) i) := if_pos rfl
theorem hj_6 {i : Nat} : hjT W T N (n : Int) i 6 (n : Int) = (((T 6 (n : Int)).toNat ||| bits (lv T) i : Nat) : Int) := if_pos rfl
theorem hj_up {i : Nat} {w : Int} {b : Nat} (hw : w = mi 9999 (T 3 (n : Int) + wof W (bits (lv T) N) (n : Int) (i + 1))) (hb : b = (T 6 (n : Int)).toNat ||| bits (lv T) (i + 1)) : up (up (hjT W T N (n : Int) i) 3 (n : Int) w) 6 (n : Int) (b : Int) = hjT W T N (n : Int) (i + 1) := by
  unfold hjT
  rw [upup (by decide), hw, hb]
theorem wof_lv {i : Nat} (hi : i < N) (hl : lv T i = true) : wof W (bits (lv T) N) x (i + 1) = wof W (bits (lv T) N) x i + W ((i : Int) * 6 + x) := by
  show sm _ i + (if _ then _ else _) = _
  rw [if_pos (by rw [Int.toNat_natCast, bits_test]; simp [hi, hl])]
  rfl
theorem wof_dd {i : Nat} (hl : lv T i = false) : wof W (bits (lv T) N) x (i + 1) = wof W (bits (lv T) N) x i := by
  show sm _ i + (if _ then _ else _) = _
  rw [if_neg (by rw [Int.toNat_natCast, bits_test]; simp [hl])]
  exact Int.add_zero _
theorem bit_lv {i : Nat} (hl : lv T i = true) : bits (lv T) (i + 1) = bits (lv T) i ||| 2 ^ i := by show _ ||| _ = _; rw [if_pos hl]
theorem bit_dd {i : Nat} (hl : lv T i = false) : bits (lv T) (i + 1) = bits (lv T) i := by show _ ||| _ = _; rw [if_neg (by rw [hl]; decide), Nat.or_zero]
theorem lp_gh2b (hv1 : V 1 = (N : Int)) (hI : TI T N) (rW : ∀ i, 0 ≤ W i ∧ W i ≤ 9) (ha : a = 1 ∨ a = 10) (h11 : A 11 = G) (hG : ∀ i j : Nat, i < N → j < N → i ≠ j → G (6 * (i : Int) + j) = W ((i : Int) * 6 + j)) (hD : D < 64) (hd : ∀ k : Nat, k < N → (D.testBit k = true ↔ ¬ T 5 (k : Int) = 0)) (hn : n < N) {Q : Option Value → Hp → Prop} (Kn : ∀ hp3, ModAt hp3 q V (upA A a (flat (heT W T N ((n : Int) + 1)))) rd rl → SO hp hp3 q (q + 25) → wp g MX12_goHour (rm 230 0 0) Q 0 0 174 [some (.ref q), some (.ref (q + a)), some (.int (I (D : Int))), some (.int (I 0)), some (.int (I (n : Int))), none, none] [] hp3) : ∀ (m i : Nat), N < i + m → i ≤ N → ∀ (hp2 : Hp) (K : ModAt hp2 q V (upA A a (flat (hjT W T N (n : Int) i))) rd rl) (O : SO hp hp2 q (q + 25)) (hz : T 5 (n : Int) = 0 → i = 0), wp g MX12_goHour (rm 230 0 0) Q 0 0 91 [some (.ref q), some (.ref (q + a)), some (.int (I (D : Int))), some (.int (I 0)), some (.int (I (n : Int))), some (.int (I (i : Int))), none] [] hp2 := by
  intro m
  induction m with
  | zero => intro i h1 h2; exact absurd h1 (by omega)
  | succ m ih =>
    intro i h1 h2 hp2 K O hz
    have hm := mty_n ha
    have hmm := mty_m ha
    have hN := hI.men.2
    have hdn := hd n hn
    have b3 := hI.r3 (n : Int)
    have b6 := hI.r6 (n : Int)
    have bw := wof_in (s := bits (lv T) N) (p := (n : Int)) rW (Nat.le_trans (show i ≤ N by omega) hN)
    have bW := rW ((i : Int) * 6 + n)
    have bm := mi9 (x := T 3 (n : Int) + wof W (bits (lv T) N) (n : Int) i) (by omega)
    refine wp_iload (pc := 91) dX12_goHour_91 rfl ?_
    refine wp_aload_n (pc := 93) dX12_goHour_93 rfl ?_
    refine wm_gets dX12_goHour_94 gf_X12_92 K (by rfl) (by repeat (first | assumption | exact pv10 | exact pv11 | (apply pv_o; decide; decide) | exact upN_eq | (apply upN_ne; decide) | (apply SV_at; assumption; decide) | exact rfl)) ?_
    refine wp_icmp_ge (pc := 97) 174 dX12_goHour_97 (by decide) (by first | omega | exact TI.i5 (by assumption) | exact TI.i3 (by assumption) | exact TI.i2 (by assumption) | exact TI.i1 (by assumption) | exact TI.i0 (by assumption) | exact TI.i4 (by assumption) | exact TI.i6 (by assumption) | exact TI.i7 (by assumption)) (by first | omega | exact TI.i5 (by assumption) | exact TI.i3 (by assumption) | exact TI.i2 (by assumption) | exact TI.i1 (by assumption) | exact TI.i0 (by assumption) | exact TI.i4 (by assumption) | exact TI.i6 (by assumption) | exact TI.i7 (by assumption)) (fun c97 => ?_) (fun c97 => ?_)
    ·
      have e : i = N := by omega
      subst e
      have h5 : ¬ T 5 (n : Int) = 0 := fun z => by have := hz z; omega
      rw [hjTN h5] at K
      refine wp_ls ?_ (Kn hp2 K O)
      repeat' (first | exact LE_0 | refine LE_s rfl ?_ | refine LE_s (I_c (by first | omega | (simp only [sm]; omega))) ?_ | refine LE_s (J_c (by first | omega | exact Int.pow_succ _ _ | exact (Int.pow_succ _ _).symm | exact (Int.pow_zero _).symm | (simp only [sm]; omega))) ?_ | refine LE_n ?_)
    ·
      refine wp_iload_n (pc := 100) dX12_goHour_100 rfl ?_
      refine wp_iload (pc := 101) dX12_goHour_101 rfl ?_
      refine wp_Sp (pc := 103) dX12_goHour_103 cl_X12_227 (sp_Ref_has (s := D) (k := n) (by omega) (by omega)) rfl rfl (by decide) (Nat.le_of_ble_eq_true rfl) ?_
      first | refine wp_ifb_eq (pc := 106) 174 dX12_goHour_106 (by decide) (fun c106 => ?_) (fun c106 => ?_) | refine wp_if_eq (pc := 106) 174 dX12_goHour_106 (by decide) (by first | omega | exact TI.i5 (by assumption) | exact TI.i3 (by assumption) | exact TI.i2 (by assumption) | exact TI.i1 (by assumption) | exact TI.i0 (by assumption) | exact TI.i4 (by assumption) | exact TI.i6 (by assumption) | exact TI.i7 (by assumption)) (fun c106 => ?_) (fun c106 => ?_)
      ·
        have h5 : T 5 (n : Int) = 0 := Classical.byContradiction fun z => c106 (hdn.mpr z)
        have e := hz h5
        subst e
        rw [hjT0 hI, heTs h5] at K
        refine wp_ls ?_ (Kn hp2 K O)
        repeat' (first | exact LE_0 | refine LE_s rfl ?_ | refine LE_s (I_c (by first | omega | (simp only [sm]; omega))) ?_ | refine LE_s (J_c (by first | omega | exact Int.pow_succ _ _ | exact (Int.pow_succ _ _).symm | exact (Int.pow_zero _).symm | (simp only [sm]; omega))) ?_ | refine LE_n ?_)
      ·
        have h5 := hdn.mp c106
        have hdi := hd i (by omega) -- go
        refine wp_iload_n (pc := 109) dX12_goHour_109 rfl ?_
        refine wp_iload (pc := 110) dX12_goHour_110 rfl ?_
        refine wp_Sp (pc := 112) dX12_goHour_112 cl_X12_227 (sp_Ref_has (s := D) (k := i) (by omega) (by omega)) rfl rfl (by decide) (Nat.le_of_ble_eq_true rfl) ?_
        first | refine wp_ifb_eq (pc := 115) 121 dX12_goHour_115 (by decide) (fun c115 => ?_) (fun c115 => ?_) | refine wp_if_eq (pc := 115) 121 dX12_goHour_115 (by decide) (by first | omega | exact TI.i5 (by assumption) | exact TI.i3 (by assumption) | exact TI.i2 (by assumption) | exact TI.i1 (by assumption) | exact TI.i0 (by assumption) | exact TI.i4 (by assumption) | exact TI.i6 (by assumption) | exact TI.i7 (by assumption)) (fun c115 => ?_) (fun c115 => ?_)
        ·
          have h5i : T 5 (i : Int) = 0 := Classical.byContradiction fun z => c115 (hdi.mpr z)
          have hl : lv T i = true := by simp [lv, h5i]
          have hin : i ≠ n := fun z => h5 (by rw [← z]; exact h5i)
          skip -- go
          refine wp_aload_n (pc := 121) dX12_goHour_121 rfl ?_
          refine wp_bipush (pc := 122) (y := 42) dX12_goHour_122 (by decide) ?_
          refine wp_iload (pc := 124) dX12_goHour_124 rfl ?_
          refine wp_iadd (pc := 126) dX12_goHour_126 ?_
          refine wp_sipush (pc := 127) (y := 9999) dX12_goHour_127 (by decide) ?_
          refine wp_aload_n (pc := 130) dX12_goHour_130 rfl ?_
          refine wp_bipush (pc := 131) (y := 42) dX12_goHour_131 (by decide) ?_
          refine wp_iload (pc := 133) dX12_goHour_133 rfl ?_
          refine wp_iadd (pc := 135) dX12_goHour_135 ?_
          refine wm_iald dX12_goHour_136 K (by first | rfl | assumption) (by first | decide | omega) (by first | decide | omega) (by decide) (by omega) (by omega) (by repeat (first | assumption | exact upA_eq | (apply upA_ne; first | decide | omega) | (apply SA_at; assumption; first | decide | (simp; omega)) | exact rfl)) (by first | exact flat5 (by omega) (by omega) | exact flat3 (by omega) (by omega) | exact flat2 (by omega) (by omega) | exact flat6 (by omega) (by omega) | exact flat4 (by omega) (by omega) | exact flat1 (by omega) (by omega) | exact flat0 (by omega) (by omega) | exact flat7 | exact rfl) ?_
          refine wp_topE hj_3 ?_
          refine wp_aload_n (pc := 137) dX12_goHour_137 rfl ?_
          refine wm_get dX12_goHour_138 gf_X12_42 K (by rfl) ?_
          refine wp_iload (pc := 141) dX12_goHour_141 rfl ?_
          refine wp_iload (pc := 143) dX12_goHour_143 rfl ?_
          refine wp_Sp (pc := 145) dX12_goHour_145 cl_X12_151 sp_Ref_pair rfl rfl (by decide) (Nat.le_of_ble_eq_true rfl) ?_
          refine wm_iald dX12_goHour_148 K (by first | rfl | assumption) (by first | decide | omega) (by first | decide | omega) (by decide) (by omega) (by omega) (by repeat (first | assumption | exact upA_eq | (apply upA_ne; first | decide | omega) | (apply SA_at; assumption; first | decide | (simp; omega)) | exact rfl)) (hG i n (by omega) (by omega) hin) ?_
          refine wp_iadd (pc := 149) dX12_goHour_149 ?_
          refine wp_min (pc := 150) dX12_goHour_150 ml_X12_194 ma_min_s ma_ini ma_min_c (by decide) (by decide) (by decide) (by decide) (Nat.le_of_ble_eq_true rfl) (by first | omega | exact TI.i5 (by assumption) | exact TI.i3 (by assumption) | exact TI.i2 (by assumption) | exact TI.i1 (by assumption) | exact TI.i0 (by assumption) | exact TI.i4 (by assumption) | exact TI.i6 (by assumption) | exact TI.i7 (by assumption)) (by first | omega | exact TI.i5 (by assumption) | exact TI.i3 (by assumption) | exact TI.i2 (by assumption) | exact TI.i1 (by assumption) | exact TI.i0 (by assumption) | exact TI.i4 (by assumption) | exact TI.i6 (by assumption) | exact TI.i7 (by assumption)) ?_
          refine wm_iast dX12_goHour_153 K O (by first | rfl | assumption) (by first | decide | omega) (by first | decide | omega) (by decide) (by omega) (by omega) (by repeat (first | assumption | exact upA_eq | (apply upA_ne; first | decide | omega) | (apply SA_at; assumption; first | decide | (simp; omega)) | exact rfl)) (by first | exact flatv5 (by omega) (by omega) | exact flatv3 (by omega) (by omega) | exact flatv2 (by omega) (by omega) | exact flatv6 (by omega) (by omega) | exact flatv4 (by omega) (by omega) | exact flatw1 (by omega) (by omega) | exact flatw0 (by omega) (by omega) | exact flatw7 | exact rfl) (fun hp K O => ?_)
          rw [upA_upA] at K
          refine wp_aload_n (pc := 154) dX12_goHour_154 rfl ?_
          refine wp_bipush (pc := 155) (y := 60) dX12_goHour_155 (by decide) ?_
          refine wp_iload (pc := 157) dX12_goHour_157 rfl ?_
          refine wp_iadd (pc := 159) dX12_goHour_159 ?_
          first | refine wp_dup2 (pc := 160) dX12_goHour_160 rfl rfl ?_ | refine wp_dup2l (pc := 160) dX12_goHour_160 rfl ?_
          refine wm_iald dX12_goHour_161 K (by first | rfl | assumption) (by first | decide | omega) (by first | decide | omega) (by decide) (by omega) (by omega) (by repeat (first | assumption | exact upA_eq | (apply upA_ne; first | decide | omega) | (apply SA_at; assumption; first | decide | (simp; omega)) | exact rfl)) (by first | exact flat5 (by omega) (by omega) | exact flat3 (by omega) (by omega) | exact flat2 (by omega) (by omega) | exact flat6 (by omega) (by omega) | exact flat4 (by omega) (by omega) | exact flat1 (by omega) (by omega) | exact flat0 (by omega) (by omega) | exact flat7 | exact rfl) ?_
          refine wp_topE (show up (hjT W T N (n : Int) i) 3 (n : Int) _ 6 (n : Int) = _ from hj_6) ?_
          refine wp_iconst (pc := 162) dX12_goHour_162 ?_
          refine wp_iload (pc := 163) dX12_goHour_163 rfl ?_
          refine wp_ishl (pc := 165) dX12_goHour_165 (I_shl (by omega)) ?_
          refine wp_ior (pc := 166) dX12_goHour_166 I_or ?_
          refine wm_iast dX12_goHour_167 K O (by first | rfl | assumption) (by first | decide | omega) (by first | decide | omega) (by decide) (by omega) (by omega) (by repeat (first | assumption | exact upA_eq | (apply upA_ne; first | decide | omega) | (apply SA_at; assumption; first | decide | (simp; omega)) | exact rfl)) (by first | exact flatv5 (by omega) (by omega) | exact flatv3 (by omega) (by omega) | exact flatv2 (by omega) (by omega) | exact flatv6 (by omega) (by omega) | exact flatv4 (by omega) (by omega) | exact flatw1 (by omega) (by omega) | exact flatw0 (by omega) (by omega) | exact flatw7 | exact rfl) (fun hp K O => ?_)
          rw [upA_upA, hj_up (by rw [mi_mi bW.1, Int.add_assoc, wof_lv (by omega) hl]) (by rw [bit_lv hl, Nat.or_assoc])] at K
          refine wp_iinc (pc := 168) dX12_goHour_168 rfl (by decide) ?_
          refine wp_goto (pc := 171) 91 dX12_goHour_171 (by decide) ?_
          refine wp_ls ?_ (ih (i + 1) (by omega) (by omega) _ K O (fun z => absurd z h5))
          repeat' (first | exact LE_0 | refine LE_s rfl ?_ | refine LE_s (I_c (by first | omega | (simp only [sm]; omega))) ?_ | refine LE_s (J_c (by first | omega | exact Int.pow_succ _ _ | exact (Int.pow_succ _ _).symm | exact (Int.pow_zero _).symm | (simp only [sm]; omega))) ?_ | refine LE_n ?_)
        ·
          have hl : lv T i = false := by have := hdi.mp c115; simp [lv, this]
          have e1 : hjT W T N (n : Int) i = hjT W T N (n : Int) (i + 1) := by unfold hjT; rw [wof_dd hl, bit_dd hl]
          rw [e1] at K -- go
          refine wp_goto (pc := 118) 168 dX12_goHour_118 (by decide) ?_
          refine wp_iinc (pc := 168) dX12_goHour_168 rfl (by decide) ?_
          refine wp_goto (pc := 171) 91 dX12_goHour_171 (by decide) ?_
          refine wp_ls ?_ (ih (i + 1) (by omega) (by omega) _ K O (fun z => absurd z h5))
          repeat' (first | exact LE_0 | refine LE_s rfl ?_ | refine LE_s (I_c (by first | omega | (simp only [sm]; omega))) ?_ | refine LE_s (J_c (by first | omega | exact Int.pow_succ _ _ | exact (Int.pow_succ _ _).symm | exact (Int.pow_zero _).symm | (simp only [sm]; omega))) ?_ | refine LE_n ?_)
theorem lp_gh2 (hv1 : V 1 = (N : Int)) (hI : TI T N) (rW : ∀ i, 0 ≤ W i ∧ W i ≤ 9) (ha : a = 1 ∨ a = 10) (h11 : A 11 = G) (hG : ∀ i j : Nat, i < N → j < N → i ≠ j → G (6 * (i : Int) + j) = W ((i : Int) * 6 + j)) (hD : D < 64) (hd : ∀ k : Nat, k < N → (D.testBit k = true ↔ ¬ T 5 (k : Int) = 0)) {Q : Option Value → Hp → Prop} (Kn : ∀ hp3, ModAt hp3 q V (upA A a (flat (heT W T N (N : Int)))) rd rl → SO hp hp3 q (q + 25) → wp g MX12_goHour (rm 230 0 0) Q 0 0 180 [some (.ref q), some (.ref (q + a)), some (.int (I (D : Int))), some (.int (I 0)), none, none, none] [] hp3) : ∀ (m i : Nat), N < i + m → i ≤ N → ∀ (hp2 : Hp) (K : ModAt hp2 q V (upA A a (flat (heT W T N (i : Int)))) rd rl) (O : SO hp hp2 q (q + 25)), wp g MX12_goHour (rm 230 0 0) Q 0 0 79 [some (.ref q), some (.ref (q + a)), some (.int (I (D : Int))), some (.int (I 0)), some (.int (I (i : Int))), none, none] [] hp2 := by
  intro m
  induction m with
  | zero => intro i h1 h2; exact absurd h1 (by omega)
  | succ m ih =>
    intro i h1 h2 hp2 K O
    have hN := hI.men.2
    refine wp_iload (pc := 79) dX12_goHour_79 rfl ?_
    refine wp_aload_n (pc := 81) dX12_goHour_81 rfl ?_
    refine wm_gets dX12_goHour_82 gf_X12_92 K (by rfl) (by repeat (first | assumption | exact pv10 | exact pv11 | (apply pv_o; decide; decide) | exact upN_eq | (apply upN_ne; decide) | (apply SV_at; assumption; decide) | exact rfl)) ?_
    refine wp_icmp_ge (pc := 85) 180 dX12_goHour_85 (by decide) (by first | omega | exact TI.i5 (by assumption) | exact TI.i3 (by assumption) | exact TI.i2 (by assumption) | exact TI.i1 (by assumption) | exact TI.i0 (by assumption) | exact TI.i4 (by assumption) | exact TI.i6 (by assumption) | exact TI.i7 (by assumption)) (by first | omega | exact TI.i5 (by assumption) | exact TI.i3 (by assumption) | exact TI.i2 (by assumption) | exact TI.i1 (by assumption) | exact TI.i0 (by assumption) | exact TI.i4 (by assumption) | exact TI.i6 (by assumption) | exact TI.i7 (by assumption)) (fun c85 => ?_) (fun c85 => ?_)
    ·
      have e : i = N := by omega
      subst e
      refine wp_ls ?_ (Kn hp2 K O)
      repeat' (first | exact LE_0 | refine LE_s rfl ?_ | refine LE_s (I_c (by first | omega | (simp only [sm]; omega))) ?_ | refine LE_s (J_c (by first | omega | exact Int.pow_succ _ _ | exact (Int.pow_succ _ _).symm | exact (Int.pow_zero _).symm | (simp only [sm]; omega))) ?_ | refine LE_n ?_)
    ·
      refine wp_iconst (pc := 88) dX12_goHour_88 ?_
      refine wp_istore (pc := 89) dX12_goHour_89 (by decide) ?_
      refine wp_ls ?_ (lp_gh2b (n := i) hv1 hI rW ha h11 hG hD hd (by omega) (fun hp3 K3 O3 => ?_) (N + 1) 0 (by omega) (by omega) hp2 (by rw [hjT0 hI]; exact K) O (fun _ => rfl))
      · repeat' (first | exact LE_0 | refine LE_s rfl ?_ | refine LE_s (I_c (by first | omega | (simp only [sm]; omega))) ?_ | refine LE_s (J_c (by first | omega | exact Int.pow_succ _ _ | exact (Int.pow_succ _ _).symm | exact (Int.pow_zero _).symm | (simp only [sm]; omega))) ?_ | refine LE_n ?_)
      · refine wp_iinc (pc := 174) dX12_goHour_174 rfl (by decide) ?_
        refine wp_goto (pc := 177) 79 dX12_goHour_177 (by decide) ?_
        refine wp_ls ?_ (ih (i + 1) (by omega) (by omega) hp3 K3 O3)
        repeat' (first | exact LE_0 | refine LE_s rfl ?_ | refine LE_s (I_c (by first | omega | (simp only [sm]; omega))) ?_ | refine LE_s (J_c (by first | omega | exact Int.pow_succ _ _ | exact (Int.pow_succ _ _).symm | exact (Int.pow_zero _).symm | (simp only [sm]; omega))) ?_ | refine LE_n ?_)
theorem HS_he (hH : HS T) (hN : N ≤ 6) : HS (heT W T N (N : Int)) := by
  intro i hi
  show (upto (T 6) (heB T N) (N : Int) (i : Int)).toNat.testBit i = false
  have h := hH i hi
  unfold upto heB
  by_cases z : 0 ≤ (i : Int) ∧ (i : Int) < N
  · rw [if_pos z]
    by_cases y : T 5 (i : Int) = 0
    · rw [if_pos y]; exact h
    · rw [if_neg y, Int.toNat_natCast, Nat.testBit_or, h, bits_test]
      simp [lv, y]
  · rw [if_neg z]; exact h
theorem gh_268 {cs : List Int} (K : ModAt hp q V (upA A a (flat T)) rd rl) (O : SO hp0 hp q (q + 25)) (hv1 : V 1 = (N : Int)) (hI : TI T N) (rW : ∀ i, 0 ≤ W i ∧ W i ≤ 9) (ha : a = 1 ∨ a = 10) (h11 : A 11 = G) (hG : ∀ i j : Nat, i < N → j < N → i ≠ j → G (6 * (i : Int) + j) = W ((i : Int) * 6 + j)) (hH : HS T) (hD : D < 64) (hd : ∀ k : Nat, k < N → (D.testBit k = true ↔ ¬ T 5 (k : Int) = 0)) : wp g MX12_goHour (rm 230 0 0) (Eff (.int (I ((wkc T N : Nat) : Int))) (fun hp3 => ModAt hp3 q V (upA A a (flat (one (wkT W T N (N : Int)) 7 (fun _ => T 7 0 + 1)))) rd rl ∧ SO hp0 hp3 q (q + 25))) 0 0 268 [some (.ref q), some (.ref (q + a)), some (.int (I (D : Int))), some (.int (I 0)), none, none, none] [] hp := by
  have e0 : wkT W T N 0 = T := by
    funext x
    unfold wkT two
    rw [show (0 : Int) * 6 = 0 from rfl, upto_0, upto_0]
    by_cases z3 : x = 0
    · rw [if_pos z3, z3]
    · rw [if_neg z3]
      by_cases z6 : x = 5
      · rw [if_pos z6, z6]
      · rw [if_neg z6]
  refine wp_iconst (pc := 268) dX12_goHour_268 ?_
  refine wp_istore (pc := 269) dX12_goHour_269 (by decide) ?_
  refine wp_ls ?_ (lp_gh4 hv1 hI rW ha h11 hG hH hD hd (N + 1) 0 (by omega) (by omega) hp (by show ModAt hp q V (upA A a (flat (wkT W T N 0))) rd rl; rw [e0]; exact K) O)
  repeat' (first | exact LE_0 | refine LE_s rfl ?_ | refine LE_s (I_c (by first | omega | (simp only [sm]; omega))) ?_ | refine LE_s (J_c (by first | omega | exact Int.pow_succ _ _ | exact (Int.pow_succ _ _).symm | exact (Int.pow_zero _).symm | (simp only [sm]; omega))) ?_ | refine LE_n ?_)
theorem gh_180 (K : ModAt hp q V (upA A a (flat T)) rd rl) (O : SO hp0 hp q (q + 25)) (hv1 : V 1 = (N : Int)) (hI : TI T N) (rW : ∀ i, 0 ≤ W i ∧ W i ≤ 9) (ha : a = 1 ∨ a = 10) (h11 : A 11 = G) (hG : ∀ i j : Nat, i < N → j < N → i ≠ j → G (6 * (i : Int) + j) = W ((i : Int) * 6 + j)) (hH : HS T) (hD : D < 64) (hd : ∀ k : Nat, k < N → (D.testBit k = true ↔ ¬ T 5 (k : Int) = 0)) : wp g MX12_goHour (rm 230 0 0) (Eff (.int (I ((wkc T N : Nat) : Int))) (fun hp3 => ModAt hp3 q V (upA A a (flat (one (wkT W (grT T N ((N : Int) * 6)) N (N : Int)) 7 (fun _ => T 7 0 + 1)))) rd rl ∧ SO hp0 hp3 q (q + 25))) 0 0 180 [some (.ref q), some (.ref (q + a)), some (.int (I (D : Int))), some (.int (I 0)), none, none, none] [] hp := by
  refine wp_iconst (pc := 180) dX12_goHour_180 ?_
  refine wp_istore (pc := 181) dX12_goHour_181 (by decide) ?_
  refine wp_ls ?_ (lp_gh3 hv1 hI ha hD hd (fun hp3 K3 O3 => gh_268 (T := grT T N ((N : Int) * 6)) (cs := []) K3 O3 hv1 (grT_I hI) rW ha h11 hG hH hD hd) (N + 1) 0 (by omega) (by omega) hp (by show ModAt hp q V (upA A a (flat (one T 1 (upto (T 1) (gDb T N) 0)))) rd rl; rw [upto_0, one_id]; exact K) O)
  repeat' (first | exact LE_0 | refine LE_s rfl ?_ | refine LE_s (I_c (by first | omega | (simp only [sm]; omega))) ?_ | refine LE_s (J_c (by first | omega | exact Int.pow_succ _ _ | exact (Int.pow_succ _ _).symm | exact (Int.pow_zero _).symm | (simp only [sm]; omega))) ?_ | refine LE_n ?_)
theorem gh_76 (K : ModAt hp q V A rd rl) (O : SO hp0 hp q (q + 25)) (hv1 : V 1 = (N : Int)) (hI : TI T N) (rW : ∀ i, 0 ≤ W i ∧ W i ≤ 9) (ha : a = 1 ∨ a = 10) (hA : A a = flat T) (h11 : A 11 = G) (hG : ∀ i j : Nat, i < N → j < N → i ≠ j → G (6 * (i : Int) + j) = W ((i : Int) * 6 + j)) (hH : HS T) (hD : D < 64) (hd : ∀ k : Nat, k < N → (D.testBit k = true ↔ ¬ T 5 (k : Int) = 0)) : wp g MX12_goHour (rm 230 0 0) (Eff (.int (I ((wkc T N : Nat) : Int))) (fun hp3 => ModAt hp3 q V (upA A a (flat (one (wkT W (grT (heT W T N (N : Int)) N ((N : Int) * 6)) N (N : Int)) 7 (fun _ => T 7 0 + 1)))) rd rl ∧ SO hp0 hp3 q (q + 25))) 0 0 76 [some (.ref q), some (.ref (q + a)), some (.int (I (D : Int))), some (.int (I 0)), none, none, none] [] hp := by
  have e0 : heT W T N 0 = T := by
    funext x
    unfold heT two
    rw [upto_0, upto_0]
    by_cases z3 : x = 3
    · rw [if_pos z3, z3]
    · rw [if_neg z3]
      by_cases z6 : x = 6
      · rw [if_pos z6, z6]
      · rw [if_neg z6]
  refine wp_iconst (pc := 76) dX12_goHour_76 ?_
  refine wp_istore (pc := 77) dX12_goHour_77 (by decide) ?_
  refine wp_ls ?_ (lp_gh2 hv1 hI rW ha h11 hG hD hd (fun hp3 K3 O3 => gh_180 (T := heT W T N (N : Int)) K3 O3 hv1 (heT_I hI rW) rW ha h11 hG (HS_he hH hI.men.2) hD hd) (N + 1) 0 (by omega) (by omega) hp (by show ModAt hp q V (upA A a (flat (heT W T N 0))) rd rl; rw [e0, upA_id hA]; exact K) O)
  repeat' (first | exact LE_0 | refine LE_s rfl ?_ | refine LE_s (I_c (by first | omega | (simp only [sm]; omega))) ?_ | refine LE_s (J_c (by first | omega | exact Int.pow_succ _ _ | exact (Int.pow_succ _ _).symm | exact (Int.pow_zero _).symm | (simp only [sm]; omega))) ?_ | refine LE_n ?_)
/-! the words ahead -/
def WG (cs : List Int) (T : Nat → Int → Int) (N : Nat) (G : Int → Int) (n i : Nat) : Prop := ∀ i' j' : Nat, i' < N → j' < N → (i' < n ∨ (i' = n ∧ j' < i)) → i' ≠ j' → G (6 * (i' : Int) + j') = wv cs T i' j'
theorem WG.st {i : Nat} {w : Int} (h : WG cs T N G n i) (hN : N ≤ 6) (hi : i < N) (hw : n ≠ i → w = wv cs T n i) : WG cs T N (updI G (6 * (n : Int) + i) w) n (i + 1) := by
  intro i' j' a b c d
  by_cases z : i' = n ∧ j' = i
  · obtain ⟨rfl, rfl⟩ := z
    rw [updI_eq]
    exact hw d
  · rw [updI_ne (by omega)]
    exact h i' j' a b (by omega) d
theorem RuA.sc (h : RuA A V q rl t) {L L2 : List Nat} (sV : SV L V V2) (sA : SA L2 A A2) (h15 : 15 ∉ L) (h5 : 5 ∉ L2) (h6 : 6 ∉ L2) : RuA A2 V2 q rl t := by
  obtain ⟨j, hj, hrl, e15, hB, hv⟩ := h
  refine ⟨j, hj, hrl, SV_at sV h15 e15, ?_, hv⟩
  rcases hj with rfl | rfl
  · rw [sA 5 h5]; exact hB
  · rw [sA 6 h6]; exact hB
theorem lp_gh1b (hv1 : V 1 = (N : Int)) (hI : TI T N) (ha : a = 1 ∨ a = 10) (hA : A a = flat T) (hu : RuA A V q rl t) (hn : n < N) {Q : Option Value → Hp → Prop} (Kn : ∀ hp3 V3 A3 rd3, ModAt hp3 q V3 A3 rd3 rl → SO hp hp3 q (q + 25) → SV [8, 9, 10, 11, 16] V V3 → SA [7, 11] A A3 → WG (stl t) T N (A3 11) n N → wp g MX12_goHour (rm 230 0 0) Q 0 0 70 [some (.ref q), some (.ref (q + a)), some (.int (I (D : Int))), some (.int (I 0)), some (.int (I (n : Int))), none, none] [] hp3) : ∀ (m i : Nat), N < i + m → i ≤ N → ∀ (hp2 : Hp) (V2 : Nat → Int) (A2 : Nat → Int → Int) (rd2 : Value) (K : ModAt hp2 q V2 A2 rd2 rl) (O : SO hp hp2 q (q + 25)) (sV : SV [8, 9, 10, 11, 16] V V2) (sA : SA [7, 11] A A2) (hG : WG (stl t) T N (A2 11) n i), wp g MX12_goHour (rm 230 0 0) Q 0 0 23 [some (.ref q), some (.ref (q + a)), some (.int (I (D : Int))), some (.int (I 0)), some (.int (I (n : Int))), some (.int (I (i : Int))), none] [] hp2 := by
  intro m
  induction m with
  | zero => intro i h1 h2; exact absurd h1 (by omega)
  | succ m ih =>
    intro i h1 h2 hp2 V2 A2 rd2 K O sV sA hG
    have hm := mty_n ha
    have hmm := mty_m ha
    have hN := hI.men.2
    refine wp_iload (pc := 23) dX12_goHour_23 rfl ?_
    refine wp_aload_n (pc := 25) dX12_goHour_25 rfl ?_
    refine wm_gets dX12_goHour_26 gf_X12_92 K (by rfl) (by repeat (first | assumption | exact pv10 | exact pv11 | (apply pv_o; decide; decide) | exact upN_eq | (apply upN_ne; decide) | (apply SV_at; assumption; decide) | exact rfl)) ?_
    refine wp_icmp_ge (pc := 29) 70 dX12_goHour_29 (by decide) (by first | omega | exact TI.i5 (by assumption) | exact TI.i3 (by assumption) | exact TI.i2 (by assumption) | exact TI.i1 (by assumption) | exact TI.i0 (by assumption) | exact TI.i4 (by assumption) | exact TI.i6 (by assumption) | exact TI.i7 (by assumption)) (by first | omega | exact TI.i5 (by assumption) | exact TI.i3 (by assumption) | exact TI.i2 (by assumption) | exact TI.i1 (by assumption) | exact TI.i0 (by assumption) | exact TI.i4 (by assumption) | exact TI.i6 (by assumption) | exact TI.i7 (by assumption)) (fun c29 => ?_) (fun c29 => ?_)
    ·
      have e : i = N := by omega
      subst e
      refine wp_ls ?_ (Kn hp2 V2 A2 rd2 K O sV sA hG)
      repeat' (first | exact LE_0 | refine LE_s rfl ?_ | refine LE_s (I_c (by first | omega | (simp only [sm]; omega))) ?_ | refine LE_s (J_c (by first | omega | exact Int.pow_succ _ _ | exact (Int.pow_succ _ _).symm | exact (Int.pow_zero _).symm | (simp only [sm]; omega))) ?_ | refine LE_n ?_)
    ·
      refine wp_aload_n (pc := 32) dX12_goHour_32 rfl ?_
      refine wm_get dX12_goHour_33 gf_X12_42 K (by rfl) ?_
      refine wp_iload (pc := 36) dX12_goHour_36 rfl ?_
      refine wp_iload (pc := 38) dX12_goHour_38 rfl ?_
      refine wp_Sp (pc := 40) dX12_goHour_40 cl_X12_151 sp_Ref_pair rfl rfl (by decide) (Nat.le_of_ble_eq_true rfl) ?_
      refine wp_iload (pc := 43) dX12_goHour_43 rfl ?_
      refine wp_iload (pc := 45) dX12_goHour_45 rfl ?_
      refine wp_icmp_ne (pc := 47) 54 dX12_goHour_47 (by decide) (by first | omega | exact TI.i5 (by assumption) | exact TI.i3 (by assumption) | exact TI.i2 (by assumption) | exact TI.i1 (by assumption) | exact TI.i0 (by assumption) | exact TI.i4 (by assumption) | exact TI.i6 (by assumption) | exact TI.i7 (by assumption)) (by first | omega | exact TI.i5 (by assumption) | exact TI.i3 (by assumption) | exact TI.i2 (by assumption) | exact TI.i1 (by assumption) | exact TI.i0 (by assumption) | exact TI.i4 (by assumption) | exact TI.i6 (by assumption) | exact TI.i7 (by assumption)) (fun c47 => ?_) (fun c47 => ?_)
      ·
        refine wp_aload_n (pc := 54) dX12_goHour_54 rfl ?_
        refine wp_aload_n (pc := 55) dX12_goHour_55 rfl ?_
        refine wp_iload (pc := 56) dX12_goHour_56 rfl ?_
        refine wp_iload (pc := 58) dX12_goHour_58 rfl ?_
        refine wp_Vs (pc := 60) dX12_goHour_60 cl_X12_216 (sp_Ref_wordsOf K hI ha (SA_at sA (by simp; omega) hA) (hu.sc sV sA (by decide) (by decide) (by decide)) (by omega) (by omega)) rfl rfl K.1 (by rfl) (by decide) (Nat.le_of_ble_eq_true rfl) (fun hp60 e60 => ?_)
        obtain ⟨⟨V3, A3, rd3, K, sV3, sA3⟩, O1⟩ := e60
        replace O := SO.tr O O1
        replace sV := SV.tr (L3 := [8, 9, 10, 11, 16]) sV sV3 (by decide) (by decide)
        replace sA := SA.tr (L3 := [7, 11]) sA sA3 (by decide) (by decide)
        replace hG : WG (stl t) T N (A3 11) n i := by rw [sA3 11 (by decide)]; exact hG
        have hG2 := hG.st (w := wv (stl t) T n i) hN (by omega) (fun _ => rfl)
        refine wm_iast dX12_goHour_63 K O (by first | rfl | assumption) (by first | decide | omega) (by first | decide | omega) (by decide) (by omega) (by omega) (by repeat (first | assumption | exact upA_eq | (apply upA_ne; first | decide | omega) | (apply SA_at; assumption; first | decide | (simp; omega)) | exact rfl)) (by first | exact flatv5 (by omega) (by omega) | exact flatv3 (by omega) (by omega) | exact flatv2 (by omega) (by omega) | exact flatv6 (by omega) (by omega) | exact flatv4 (by omega) (by omega) | exact flatw1 (by omega) (by omega) | exact flatw0 (by omega) (by omega) | exact flatw7 | exact rfl) (fun hp K O => ?_)
        refine wp_iinc (pc := 64) dX12_goHour_64 rfl (by decide) ?_
        refine wp_goto (pc := 67) 23 dX12_goHour_67 (by decide) ?_
        first
        | refine wp_ls ?_ (ih (i + 1) (by omega) (by omega) _ V3 _ rd3 K O sV (sA.up (by decide)) (by rw [upA_eq]; exact hG2))
          repeat' (first | exact LE_0 | refine LE_s rfl ?_ | refine LE_s (I_c (by first | omega | (simp only [sm]; omega))) ?_ | refine LE_s (J_c (by first | omega | exact Int.pow_succ _ _ | exact (Int.pow_succ _ _).symm | exact (Int.pow_zero _).symm | (simp only [sm]; omega))) ?_ | refine LE_n ?_)
        | refine wp_ls ?_ (ih (i + 1) (by omega) (by omega) _ V2 _ rd2 K O sV (sA.up (by decide)) (by rw [upA_eq]; exact hG2))
          repeat' (first | exact LE_0 | refine LE_s rfl ?_ | refine LE_s (I_c (by first | omega | (simp only [sm]; omega))) ?_ | refine LE_s (J_c (by first | omega | exact Int.pow_succ _ _ | exact (Int.pow_succ _ _).symm | exact (Int.pow_zero _).symm | (simp only [sm]; omega))) ?_ | refine LE_n ?_)
      ·
        have hG2 := hG.st (w := 0) hN (by omega) (fun z => absurd (by omega) z)
        have hGx := fun (w : Int) (hw : w = 0) => hG2 -- go
        refine wp_iconst (pc := 50) dX12_goHour_50 ?_
        refine wp_goto (pc := 51) 63 dX12_goHour_51 (by decide) ?_
        refine wm_iast dX12_goHour_63 K O (by first | rfl | assumption) (by first | decide | omega) (by first | decide | omega) (by decide) (by omega) (by omega) (by repeat (first | assumption | exact upA_eq | (apply upA_ne; first | decide | omega) | (apply SA_at; assumption; first | decide | (simp; omega)) | exact rfl)) (by first | exact flatv5 (by omega) (by omega) | exact flatv3 (by omega) (by omega) | exact flatv2 (by omega) (by omega) | exact flatv6 (by omega) (by omega) | exact flatv4 (by omega) (by omega) | exact flatw1 (by omega) (by omega) | exact flatw0 (by omega) (by omega) | exact flatw7 | exact rfl) (fun hp K O => ?_)
        refine wp_iinc (pc := 64) dX12_goHour_64 rfl (by decide) ?_
        refine wp_goto (pc := 67) 23 dX12_goHour_67 (by decide) ?_
        first
        | refine wp_ls ?_ (ih (i + 1) (by omega) (by omega) _ V3 _ rd3 K O sV (sA.up (by decide)) (by rw [upA_eq]; exact hG2))
          repeat' (first | exact LE_0 | refine LE_s rfl ?_ | refine LE_s (I_c (by first | omega | (simp only [sm]; omega))) ?_ | refine LE_s (J_c (by first | omega | exact Int.pow_succ _ _ | exact (Int.pow_succ _ _).symm | exact (Int.pow_zero _).symm | (simp only [sm]; omega))) ?_ | refine LE_n ?_)
        | refine wp_ls ?_ (ih (i + 1) (by omega) (by omega) _ V2 _ rd2 K O sV (sA.up (by decide)) (by rw [upA_eq]; exact hG2))
          repeat' (first | exact LE_0 | refine LE_s rfl ?_ | refine LE_s (I_c (by first | omega | (simp only [sm]; omega))) ?_ | refine LE_s (J_c (by first | omega | exact Int.pow_succ _ _ | exact (Int.pow_succ _ _).symm | exact (Int.pow_zero _).symm | (simp only [sm]; omega))) ?_ | refine LE_n ?_)
theorem lp_gh1 (hv1 : V 1 = (N : Int)) (hI : TI T N) (ha : a = 1 ∨ a = 10) (hA : A a = flat T) (hu : RuA A V q rl t) {Q : Option Value → Hp → Prop} (Kn : ∀ hp3 V3 A3 rd3, ModAt hp3 q V3 A3 rd3 rl → SO hp hp3 q (q + 25) → SV [8, 9, 10, 11, 16] V V3 → SA [7, 11] A A3 → WG (stl t) T N (A3 11) N 0 → wp g MX12_goHour (rm 230 0 0) Q 0 0 76 [some (.ref q), some (.ref (q + a)), some (.int (I (D : Int))), some (.int (I 0)), none, none, none] [] hp3) : ∀ (m i : Nat), N < i + m → i ≤ N → ∀ (hp2 : Hp) (V2 : Nat → Int) (A2 : Nat → Int → Int) (rd2 : Value) (K : ModAt hp2 q V2 A2 rd2 rl) (O : SO hp hp2 q (q + 25)) (sV : SV [8, 9, 10, 11, 16] V V2) (sA : SA [7, 11] A A2) (hG : WG (stl t) T N (A2 11) i 0), wp g MX12_goHour (rm 230 0 0) Q 0 0 11 [some (.ref q), some (.ref (q + a)), some (.int (I (D : Int))), some (.int (I 0)), some (.int (I (i : Int))), none, none] [] hp2 := by
  intro m
  induction m with
  | zero => intro i h1 h2; exact absurd h1 (by omega)
  | succ m ih =>
    intro i h1 h2 hp2 V2 A2 rd2 K O sV sA hG
    have hN := hI.men.2
    refine wp_iload (pc := 11) dX12_goHour_11 rfl ?_
    refine wp_aload_n (pc := 13) dX12_goHour_13 rfl ?_
    refine wm_gets dX12_goHour_14 gf_X12_92 K (by rfl) (by repeat (first | assumption | exact pv10 | exact pv11 | (apply pv_o; decide; decide) | exact upN_eq | (apply upN_ne; decide) | (apply SV_at; assumption; decide) | exact rfl)) ?_
    refine wp_icmp_ge (pc := 17) 76 dX12_goHour_17 (by decide) (by first | omega | exact TI.i5 (by assumption) | exact TI.i3 (by assumption) | exact TI.i2 (by assumption) | exact TI.i1 (by assumption) | exact TI.i0 (by assumption) | exact TI.i4 (by assumption) | exact TI.i6 (by assumption) | exact TI.i7 (by assumption)) (by first | omega | exact TI.i5 (by assumption) | exact TI.i3 (by assumption) | exact TI.i2 (by assumption) | exact TI.i1 (by assumption) | exact TI.i0 (by assumption) | exact TI.i4 (by assumption) | exact TI.i6 (by assumption) | exact TI.i7 (by assumption)) (fun c17 => ?_) (fun c17 => ?_)
    ·
      have e : i = N := by omega
      subst e
      refine wp_ls ?_ (Kn hp2 V2 A2 rd2 K O sV sA hG)
      repeat' (first | exact LE_0 | refine LE_s rfl ?_ | refine LE_s (I_c (by first | omega | (simp only [sm]; omega))) ?_ | refine LE_s (J_c (by first | omega | exact Int.pow_succ _ _ | exact (Int.pow_succ _ _).symm | exact (Int.pow_zero _).symm | (simp only [sm]; omega))) ?_ | refine LE_n ?_)
    ·
      refine wp_iconst (pc := 20) dX12_goHour_20 ?_
      refine wp_istore (pc := 21) dX12_goHour_21 (by decide) ?_
      refine wp_ls ?_ (lp_gh1b (D := D) (V := V) (A := A) (n := i) hv1 hI ha hA hu (by omega) (fun hp3 V3 A3 rd3 K3 O3 sV3 sA3 hG3 => ?_) (N + 1) 0 (by omega) (by omega) hp2 V2 A2 rd2 K O sV sA hG)
      · repeat' (first | exact LE_0 | refine LE_s rfl ?_ | refine LE_s (I_c (by first | omega | (simp only [sm]; omega))) ?_ | refine LE_s (J_c (by first | omega | exact Int.pow_succ _ _ | exact (Int.pow_succ _ _).symm | exact (Int.pow_zero _).symm | (simp only [sm]; omega))) ?_ | refine LE_n ?_)
      · refine wp_iinc (pc := 70) dX12_goHour_70 rfl (by decide) ?_
        refine wp_goto (pc := 73) 11 dX12_goHour_73 (by decide) ?_
        refine wp_ls ?_ (ih (i + 1) (by omega) (by omega) hp3 V3 A3 rd3 K3 O3 sV3 sA3 (fun i' j' a b c d => hG3 i' j' a b (by omega) d))
        repeat' (first | exact LE_0 | refine LE_s rfl ?_ | refine LE_s (I_c (by first | omega | (simp only [sm]; omega))) ?_ | refine LE_s (J_c (by first | omega | exact Int.pow_succ _ _ | exact (Int.pow_succ _ _).symm | exact (Int.pow_zero _).symm | (simp only [sm]; omega))) ?_ | refine LE_n ?_)
theorem iw_at {i j : Nat} (hj : j < 6) : iw cs T ((i : Int) * 6 + j) = wv cs T i j := by
  unfold iw
  rw [show ((i : Int) * 6 + j) / 6 = i by omega, show ((i : Int) * 6 + j) % 6 = j by omega]
theorem sp_Ref_goHour (K : ModAt hp q V A rd rl) (hv1 : V 1 = (N : Int)) (hI : TI T N) (hH : HS T) (ha : a = 1 ∨ a = 10) (hA : A a = flat T) (hu : RuA A V q rl t) : Sp g MX12_goHour (rm 230 0 0) [.ref q, .ref (q + a)] hp (Eff (.int (I ((wkc T N : Nat) : Int))) (fun hp2 => (∃ V2 A2 rd2, ModAt hp2 q V2 A2 rd2 rl ∧ SV [8, 9, 10, 11, 16] V V2 ∧ SA [7, 11, a] A A2 ∧ A2 a = flat (pasT (stl t) T N)) ∧ SO hp hp2 q (q + 25))) := by
  have hN := hI.men.2
  have hm := mty_n ha
  have hmm := mty_m ha
  refine Sp_mk rfl (Nat.le_of_ble_eq_true rfl) ?_
  show wp g _ _ _ 0 0 0 [some (.ref q), some (.ref (q + a)), none, none, none, none, none] [] hp
  have O := SO.rf (hp := hp) (lo := q) (hi := q + 25)
  refine wp_aload_n (pc := 0) dX12_goHour_0 rfl ?_
  refine wp_aload_n (pc := 1) dX12_goHour_1 rfl ?_
  refine wp_Vp (pc := 2) dX12_goHour_2 cl_X12_235 (sp_Ref_deadOnes (by first | assumption | omega | (repeat (first | assumption | exact pv10 | exact pv11 | (apply pv_o; decide; decide) | exact upN_eq | (apply upN_ne; decide) | (apply SV_at; assumption; decide) | exact upA_eq | (apply upA_ne; first | decide | omega) | (apply SA_at; assumption; first | decide | (simp; omega)) | exact rfl))) (by first | assumption | omega | (repeat (first | assumption | exact pv10 | exact pv11 | (apply pv_o; decide; decide) | exact upN_eq | (apply upN_ne; decide) | (apply SV_at; assumption; decide) | exact upA_eq | (apply upA_ne; first | decide | omega) | (apply SA_at; assumption; first | decide | (simp; omega)) | exact rfl))) (by first | assumption | omega | (repeat (first | assumption | exact pv10 | exact pv11 | (apply pv_o; decide; decide) | exact upN_eq | (apply upN_ne; decide) | (apply SV_at; assumption; decide) | exact upA_eq | (apply upA_ne; first | decide | omega) | (apply SA_at; assumption; first | decide | (simp; omega)) | exact rfl))) (by first | assumption | omega | (repeat (first | assumption | exact pv10 | exact pv11 | (apply pv_o; decide; decide) | exact upN_eq | (apply upN_ne; decide) | (apply SV_at; assumption; decide) | exact upA_eq | (apply upA_ne; first | decide | omega) | (apply SA_at; assumption; first | decide | (simp; omega)) | exact rfl))) (by first | assumption | omega | (repeat (first | assumption | exact pv10 | exact pv11 | (apply pv_o; decide; decide) | exact upN_eq | (apply upN_ne; decide) | (apply SV_at; assumption; decide) | exact upA_eq | (apply upA_ne; first | decide | omega) | (apply SA_at; assumption; first | decide | (simp; omega)) | exact rfl)))) rfl rfl K.1 (by rfl) (by decide) (Nat.le_of_ble_eq_true rfl) ?_
  refine wp_istore_n (pc := 5) dX12_goHour_5 (by decide) ?_
  refine wp_iconst (pc := 6) dX12_goHour_6 ?_
  refine wp_istore_n (pc := 7) dX12_goHour_7 (by decide) ?_
  refine wp_iconst (pc := 8) dX12_goHour_8 ?_
  refine wp_istore (pc := 9) dX12_goHour_9 (by decide) ?_
  refine wp_ls ?_ (lp_gh1 (D := bits (ddb T) N) hv1 hI ha hA hu (fun hp3 V3 A3 rd3 K3 O3 sV3 sA3 hG3 => ?_) (N + 1) 0 (by omega) (by omega) hp V A rd K SO.rf SV.rf SA.rf (fun i' j' a b c d => by omega))
  · repeat' (first | exact LE_0 | refine LE_s rfl ?_ | refine LE_s (I_c (by first | omega | (simp only [sm]; omega))) ?_ | refine LE_s (J_c (by first | omega | exact Int.pow_succ _ _ | exact (Int.pow_succ _ _).symm | exact (Int.pow_zero _).symm | (simp only [sm]; omega))) ?_ | refine LE_n ?_)
  · refine wp_post (fun v hp4 hv => ?_) (gh_76 (W := iw (stl t) T) (T := T) K3 O3 (SV_at sV3 (by decide) hv1) hI (fun x => wv_in _ _ _ _) ha (SA_at sA3 (by simp; omega) hA) rfl (fun i j hi hj hij => by rw [hG3 i j hi hj (by omega) hij, iw_at (by omega)]) hH (bits64 hN) (fun k hk => by rw [bits_test]; simp [hk, ddb, lv]))
    obtain ⟨hv, K4, O4⟩ := hv
    exact ⟨hv, ⟨V3, _, rd3, K4, sV3, (SA.tr (L3 := [7, 11, a]) sA3 (SA.rf (L := [])) (fun k hk => by simp at hk ⊢; omega) (fun k hk => by cases hk)).up (by simp), upA_eq⟩, O4⟩
theorem lp_Ref_goHours (hv1 : V 1 = (N : Int)) (hI : TI T N) (hH : HS T) (ha : a = 1 ∨ a = 10) (hA : A a = flat T) (hu : RuA A V q rl t) (hb : T 7 0 + n < 2000000000) (hn : n < 1000) : ∀ (m i : Nat), n < i + m → i ≤ n → ∀ (hp2 : Hp) (V2 : Nat → Int) (A2 : Nat → Int → Int) (rd2 : Value) (K : ModAt hp2 q V2 A2 rd2 rl) (O : SO hp hp2 q (q + 25)) (sV : SV [8, 9, 10, 11, 16] V V2) (sA : SA [7, 11, a] A A2) (hA2 : A2 a = flat (runT (stl t) T N i)), wp g MX12_goHours (rm 231 0 0) (Eff (.int (I ((runW (stl t) T N n : Nat) : Int))) (fun hp3 => (∃ V2 A2 rd2, ModAt hp3 q V2 A2 rd2 rl ∧ SV [8, 9, 10, 11, 16] V V2 ∧ SA [7, 11, a] A A2 ∧ A2 a = flat (runT (stl t) T N n)) ∧ SO hp hp3 q (q + 25))) 0 0 5 [some (.ref q), some (.ref (q + a)), some (.int (I (n : Int))), some (.int (I ((runW (stl t) T N i : Nat) : Int))), some (.int (I (i : Int)))] [] hp2 := by
  intro m
  induction m with
  | zero => intro i h1 h2; exact absurd h1 (by omega)
  | succ m ih =>
    intro i h1 h2 hp2 V2 A2 rd2 K O sV sA hA2
    have hN := hI.men.2
    have hI2 := runT_I (cs := stl t) hI i (by omega)
    have hH2 := runT_HS (cs := stl t) hI hH i (by omega)
    refine wp_iload (pc := 5) dX12_goHours_5 rfl ?_
    refine wp_iload_n (pc := 7) dX12_goHours_7 rfl ?_
    refine wp_icmp_ge (pc := 8) 25 dX12_goHours_8 (by decide) (by first | omega | exact TI.i5 (by assumption) | exact TI.i3 (by assumption) | exact TI.i2 (by assumption) | exact TI.i1 (by assumption) | exact TI.i0 (by assumption) | exact TI.i4 (by assumption) | exact TI.i6 (by assumption) | exact TI.i7 (by assumption)) (by first | omega | exact TI.i5 (by assumption) | exact TI.i3 (by assumption) | exact TI.i2 (by assumption) | exact TI.i1 (by assumption) | exact TI.i0 (by assumption) | exact TI.i4 (by assumption) | exact TI.i6 (by assumption) | exact TI.i7 (by assumption)) (fun c8 => ?_) (fun c8 => ?_)
    ·
      have e : i = n := by omega
      subst e -- go
      refine wp_iload_n (pc := 25) dX12_goHours_25 rfl ?_
      exact wp_ir (pc := 26) dX12_goHours_26 rfl (by decide) (by decide) (by first | rfl | omega) ⟨⟨V2, A2, rd2, K, sV, sA, hA2⟩, O⟩
    ·
      refine wp_iload_n (pc := 11) dX12_goHours_11 rfl ?_
      refine wp_aload_n (pc := 12) dX12_goHours_12 rfl ?_
      refine wp_aload_n (pc := 13) dX12_goHours_13 rfl ?_
      refine wp_Vs (pc := 14) dX12_goHours_14 cl_X12_243 (sp_Ref_goHour K (SV_at sV (by decide) hv1) hI2 hH2 ha hA2 (hu.sc sV sA (by decide) (by simp; omega) (by simp; omega))) rfl rfl K.1 (by rfl) (by decide) (Nat.le_of_ble_eq_true rfl) (fun hp14 e14 => ?_)
      obtain ⟨⟨V3, A3, rd3, K, sV3, sA3, hA3⟩, O1⟩ := e14
      replace O := SO.tr O O1
      refine wp_iadd (pc := 17) dX12_goHours_17 ?_
      refine wp_istore_n (pc := 18) dX12_goHours_18 (by decide) ?_
      refine wp_iinc (pc := 19) dX12_goHours_19 rfl (by decide) ?_
      refine wp_goto (pc := 22) 5 dX12_goHours_22 (by decide) ?_
      refine wp_ls ?_ (ih (i + 1) (by omega) (by omega) _ V3 A3 rd3 K O (SV.tr (L3 := [8, 9, 10, 11, 16]) sV sV3 (by decide) (by decide)) (SA.tr (L3 := [7, 11, a]) sA sA3 (fun k h => h) (fun k h => h)) hA3)
      repeat' (first | exact LE_0 | refine LE_s rfl ?_ | refine LE_s (I_c (by first | omega | (simp only [runW]; omega))) ?_ | refine LE_n ?_)
theorem sp_Ref_goHours (K : ModAt hp q V A rd rl) (hv1 : V 1 = (N : Int)) (hI : TI T N) (hH : HS T) (ha : a = 1 ∨ a = 10) (hA : A a = flat T) (hu : RuA A V q rl t) (hb : T 7 0 + n < 2000000000) (hn : n < 1000) : Sp g MX12_goHours (rm 231 0 0) [.ref q, .ref (q + a), .int (I (n : Int))] hp (Eff (.int (I ((runW (stl t) T N n : Nat) : Int))) (fun hp2 => (∃ V2 A2 rd2, ModAt hp2 q V2 A2 rd2 rl ∧ SV [8, 9, 10, 11, 16] V V2 ∧ SA [7, 11, a] A A2 ∧ A2 a = flat (runT (stl t) T N n)) ∧ SO hp hp2 q (q + 25))) := by
  refine Sp_mk rfl (Nat.le_of_ble_eq_true rfl) ?_
  show wp g _ _ _ 0 0 0 [some (.ref q), some (.ref (q + a)), some (.int (I (n : Int))), none, none] [] hp
  have O := SO.rf (hp := hp) (lo := q) (hi := q + 25)
  refine wp_iconst (pc := 0) dX12_goHours_0 ?_
  refine wp_istore_n (pc := 1) dX12_goHours_1 (by decide) ?_
  refine wp_iconst (pc := 2) dX12_goHours_2 ?_
  refine wp_istore (pc := 3) dX12_goHours_3 (by decide) ?_
  refine wp_ls ?_ (lp_Ref_goHours hv1 hI hH ha hA hu hb hn (n + 1) 0 (by omega) (by omega) hp V A rd K SO.rf SV.rf SA.rf hA)
  repeat' (first | exact LE_0 | refine LE_s rfl ?_ | refine LE_s (I_c (by first | omega | (simp only [sm]; omega))) ?_ | refine LE_s (J_c (by first | omega | exact Int.pow_succ _ _ | exact (Int.pow_succ _ _).symm | exact (Int.pow_zero _).symm | (simp only [sm]; omega))) ?_ | refine LE_n ?_)
end MG

