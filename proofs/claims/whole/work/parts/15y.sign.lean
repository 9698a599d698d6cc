/-! the reference: sheets, signs -/
section MY_
variable {g : GT} {hp hp0 : Hp} {q N n a b s k p : Nat} {V V2 V3 : Nat → Int} {A A2 A3 : Nat → Int → Int} {rd rl : Value} {i j x v c y z w th o d : Int} {T T2 : Nat → Int → Int} {l t cs tx rw rw2 rt : List Int} {G f F D : Int → Int} {U U2 : List (Nat → Int → Int)} {hs : List (Int × Int)} {ss : List (Int × Int × Int)} {KT : Nat → Option (Nat → Int → Int)} {L L2 : List Nat}
theorem sp_Ref_sheet {f st : Int} (hM : MAt hp q th N T U tx rw rt hs ss KT) (hI : TI T N) (rx : InR x) (ry : InR y) : Sp g MX12_sheet (rm 1 0 0) [.ref q, .int (I x), .int (I y), .int (I f), .int (I st)] hp (Eff (.int (I (shA T N x y f st))) (fun hp2 => MAt hp2 q 0 N (if shO x y then shT T x y f st N else T) U tx rw rt hs ss KT ∧ SO hp hp2 q (q + 25))) := by
  have hN := hI.men.2
  unfold shA
  refine Sp_mk rfl (Nat.le_of_ble_eq_true rfl) ?_
  show wp g _ _ _ 0 0 0 [some (.ref q), some (.int (I x)), some (.int (I y)), some (.int (I f)), some (.int (I st)), none, none, none] [] hp
  have O := SO.rf (hp := hp) (lo := q) (hi := q + 25)
  obtain ⟨V, A, rd, K, hth, M⟩ := hM
  have hu := M.ru (q := q)
  have M2 := M
  obtain ⟨m1, mA, mt, mr, mu, mU, mh, ms, mk⟩ := M2
  refine wp_aload_n (pc := 0) dX12_sheet_0 rfl ?_
  refine wp_iconst (pc := 1) dX12_sheet_1 ?_
  refine wm_put dX12_sheet_2 pf_X12_85 K O (by decide) mset_6 rfl rfl (fun hp K O => ?_)
  refine wp_iload_n (pc := 5) dX12_sheet_5 rfl ?_
  refine wp_iconst (pc := 6) dX12_sheet_6 ?_
  refine wp_iconst (pc := 7) dX12_sheet_7 ?_
  refine wp_Sp (pc := 8) dX12_sheet_8 cl_X12_95 (sp_Ref_in (by first | assumption | omega | (repeat (first | assumption | exact pv10 | exact pv11 | (apply pv_o; decide; decide) | exact upN_eq | (apply upN_ne; decide) | (apply SV_at; assumption; decide) | exact upA_eq | (apply upA_ne; first | decide | omega) | (apply SA_at; assumption; first | decide | (simp; omega)) | exact rfl))) (by first | assumption | omega | (repeat (first | assumption | exact pv10 | exact pv11 | (apply pv_o; decide; decide) | exact upN_eq | (apply upN_ne; decide) | (apply SV_at; assumption; decide) | exact upA_eq | (apply upA_ne; first | decide | omega) | (apply SA_at; assumption; first | decide | (simp; omega)) | exact rfl))) (by first | assumption | omega | (repeat (first | assumption | exact pv10 | exact pv11 | (apply pv_o; decide; decide) | exact upN_eq | (apply upN_ne; decide) | (apply SV_at; assumption; decide) | exact upA_eq | (apply upA_ne; first | decide | omega) | (apply SA_at; assumption; first | decide | (simp; omega)) | exact rfl)))) rfl rfl (by decide) (Nat.le_of_ble_eq_true rfl) ?_
  first | refine wp_ifb_eq (pc := 11) 20 dX12_sheet_11 (by decide) (fun c11 => ?_) (fun c11 => ?_) | refine wp_if_eq (pc := 11) 20 dX12_sheet_11 (by decide) (by first | omega | exact TI.i5 (by assumption) | exact TI.i3 (by assumption) | exact TI.i2 (by assumption) | exact TI.i1 (by assumption) | exact TI.i0 (by assumption) | exact TI.i4 (by assumption) | exact TI.i6 (by assumption) | exact TI.i7 (by assumption)) (fun c11 => ?_) (fun c11 => ?_)
  ·
    rw [if_pos (show ¬ (0 ≤ x ∧ x ≤ 3) ∨ 6 < y by omega), if_neg (show ¬ shO x y by omega)]
    refine wp_iconst (pc := 20) dX12_sheet_20 ?_
    exact wp_ir (pc := 21) dX12_sheet_21 rfl (by decide) (by decide) (by first | rfl | omega) ⟨⟨_, _, _, K, (by repeat (first | assumption | exact pv10 | exact pv11 | (apply pv_o; decide; decide) | exact upN_eq | (apply upN_ne; decide) | (apply SV_at; assumption; decide) | exact rfl)), M.qu (by repeat (first | exact SV.rf | assumption | (apply SV.up1; decide) | (apply SV.tr2; assumption; decide))) (by repeat (first | exact SA.rf | assumption | (apply SA.up1; decide) | (apply SA.tr2; assumption; decide))) (by first | assumption | exact Mrw.z (by repeat (first | assumption | exact pv10 | exact pv11 | (apply pv_o; decide; decide) | exact upN_eq | (apply upN_ne; decide) | (apply SV_at; assumption; decide) | exact rfl)) | exact Mrw.tr (by assumption) (by repeat (first | assumption | exact pv10 | exact pv11 | (apply pv_o; decide; decide) | exact upN_eq | (apply upN_ne; decide) | (apply SV_at; assumption; decide) | exact rfl)) (by repeat (first | assumption | exact upA_eq | (apply upA_ne; first | decide | omega) | (apply SA_at; assumption; first | decide | (simp; omega)) | exact rfl)))⟩, O⟩
  ·
    refine wp_iload_n (pc := 14) dX12_sheet_14 rfl ?_
    refine wp_bipush (pc := 15) (y := 6) dX12_sheet_15 (by decide) ?_
    refine wp_icmp_le (pc := 17) 22 dX12_sheet_17 (by decide) (by first | omega | exact TI.i5 (by assumption) | exact TI.i3 (by assumption) | exact TI.i2 (by assumption) | exact TI.i1 (by assumption) | exact TI.i0 (by assumption) | exact TI.i4 (by assumption) | exact TI.i6 (by assumption) | exact TI.i7 (by assumption)) (by first | omega | exact TI.i5 (by assumption) | exact TI.i3 (by assumption) | exact TI.i2 (by assumption) | exact TI.i1 (by assumption) | exact TI.i0 (by assumption) | exact TI.i4 (by assumption) | exact TI.i6 (by assumption) | exact TI.i7 (by assumption)) (fun c17 => ?_) (fun c17 => ?_)
    ·
      refine wp_iload_n (pc := 22) dX12_sheet_22 rfl ?_
      refine wp_iconst (pc := 23) dX12_sheet_23 ?_
      refine wp_icmp_ge (pc := 24) 34 dX12_sheet_24 (by decide) (by first | omega | exact TI.i5 (by assumption) | exact TI.i3 (by assumption) | exact TI.i2 (by assumption) | exact TI.i1 (by assumption) | exact TI.i0 (by assumption) | exact TI.i4 (by assumption) | exact TI.i6 (by assumption) | exact TI.i7 (by assumption)) (by first | omega | exact TI.i5 (by assumption) | exact TI.i3 (by assumption) | exact TI.i2 (by assumption) | exact TI.i1 (by assumption) | exact TI.i0 (by assumption) | exact TI.i4 (by assumption) | exact TI.i6 (by assumption) | exact TI.i7 (by assumption)) (fun c24 => ?_) (fun c24 => ?_)
      ·
        rw [if_neg (show ¬ (¬ (0 ≤ x ∧ x ≤ 3) ∨ 6 < y) by omega), if_neg (show ¬ (x < 3 ∧ y < 0) by omega), if_pos (show shO x y by omega)]
        refine wp_iload_n (pc := 34) dX12_sheet_34 rfl ?_
        refine wp_istore (pc := 35) dX12_sheet_35 (by decide) ?_
        refine wp_iconst (pc := 37) dX12_sheet_37 ?_
        refine wp_istore (pc := 38) dX12_sheet_38 (by decide) ?_
        refine wp_ls ?_ (lp_Ref_sheet (V := V) (A := A) (f := f) (st := st) hI M (by omega) ry (N + 1) 0 (by omega) (by omega) _ A K O SA.rf (by rw [mA, show shT T x y f st ((0 : Nat) : Int) = T from by unfold shT; rw [show ((0 : Nat) : Int) = 0 from rfl, upto_0, one_id]]))
        repeat' (first | exact LE_0 | refine LE_s rfl ?_ | refine LE_s (I_c (by first | omega | (rw [show ((0 : Nat) : Int) = 0 from rfl, Int.zero_mul]; omega))) ?_ | refine LE_n ?_)
      ·
        refine wp_iload_n (pc := 27) dX12_sheet_27 rfl ?_
        refine wp_if_ge (pc := 28) 34 dX12_sheet_28 (by decide) (by first | omega | exact TI.i5 (by assumption) | exact TI.i3 (by assumption) | exact TI.i2 (by assumption) | exact TI.i1 (by assumption) | exact TI.i0 (by assumption) | exact TI.i4 (by assumption) | exact TI.i6 (by assumption) | exact TI.i7 (by assumption)) (fun c28 => ?_) (fun c28 => ?_)
        ·
          rw [if_neg (show ¬ (¬ (0 ≤ x ∧ x ≤ 3) ∨ 6 < y) by omega), if_neg (show ¬ (x < 3 ∧ y < 0) by omega), if_pos (show shO x y by omega)]
          refine wp_iload_n (pc := 34) dX12_sheet_34 rfl ?_
          refine wp_istore (pc := 35) dX12_sheet_35 (by decide) ?_
          refine wp_iconst (pc := 37) dX12_sheet_37 ?_
          refine wp_istore (pc := 38) dX12_sheet_38 (by decide) ?_
          refine wp_ls ?_ (lp_Ref_sheet (V := V) (A := A) (f := f) (st := st) hI M (by omega) ry (N + 1) 0 (by omega) (by omega) _ A K O SA.rf (by rw [mA, show shT T x y f st ((0 : Nat) : Int) = T from by unfold shT; rw [show ((0 : Nat) : Int) = 0 from rfl, upto_0, one_id]]))
          repeat' (first | exact LE_0 | refine LE_s rfl ?_ | refine LE_s (I_c (by first | omega | (rw [show ((0 : Nat) : Int) = 0 from rfl, Int.zero_mul]; omega))) ?_ | refine LE_n ?_)
        ·
          rw [if_neg (show ¬ (¬ (0 ≤ x ∧ x ≤ 3) ∨ 6 < y) by omega), if_pos (show x < 3 ∧ y < 0 by omega), if_neg (show ¬ shO x y by omega)]
          refine wp_bipush (pc := 31) (y := (-2)) dX12_sheet_31 (by decide) ?_
          exact wp_ir (pc := 33) dX12_sheet_33 rfl (by decide) (by decide) (by first | rfl | omega) ⟨⟨_, _, _, K, (by repeat (first | assumption | exact pv10 | exact pv11 | (apply pv_o; decide; decide) | exact upN_eq | (apply upN_ne; decide) | (apply SV_at; assumption; decide) | exact rfl)), M.qu (by repeat (first | exact SV.rf | assumption | (apply SV.up1; decide) | (apply SV.tr2; assumption; decide))) (by repeat (first | exact SA.rf | assumption | (apply SA.up1; decide) | (apply SA.tr2; assumption; decide))) (by first | assumption | exact Mrw.z (by repeat (first | assumption | exact pv10 | exact pv11 | (apply pv_o; decide; decide) | exact upN_eq | (apply upN_ne; decide) | (apply SV_at; assumption; decide) | exact rfl)) | exact Mrw.tr (by assumption) (by repeat (first | assumption | exact pv10 | exact pv11 | (apply pv_o; decide; decide) | exact upN_eq | (apply upN_ne; decide) | (apply SV_at; assumption; decide) | exact rfl)) (by repeat (first | assumption | exact upA_eq | (apply upA_ne; first | decide | omega) | (apply SA_at; assumption; first | decide | (simp; omega)) | exact rfl)))⟩, O⟩
    ·
      rw [if_pos (show ¬ (0 ≤ x ∧ x ≤ 3) ∨ 6 < y by omega), if_neg (show ¬ shO x y by omega)]
      refine wp_iconst (pc := 20) dX12_sheet_20 ?_
      exact wp_ir (pc := 21) dX12_sheet_21 rfl (by decide) (by decide) (by first | rfl | omega) ⟨⟨_, _, _, K, (by repeat (first | assumption | exact pv10 | exact pv11 | (apply pv_o; decide; decide) | exact upN_eq | (apply upN_ne; decide) | (apply SV_at; assumption; decide) | exact rfl)), M.qu (by repeat (first | exact SV.rf | assumption | (apply SV.up1; decide) | (apply SV.tr2; assumption; decide))) (by repeat (first | exact SA.rf | assumption | (apply SA.up1; decide) | (apply SA.tr2; assumption; decide))) (by first | assumption | exact Mrw.z (by repeat (first | assumption | exact pv10 | exact pv11 | (apply pv_o; decide; decide) | exact upN_eq | (apply upN_ne; decide) | (apply SV_at; assumption; decide) | exact rfl)) | exact Mrw.tr (by assumption) (by repeat (first | assumption | exact pv10 | exact pv11 | (apply pv_o; decide; decide) | exact upN_eq | (apply upN_ne; decide) | (apply SV_at; assumption; decide) | exact rfl)) (by repeat (first | assumption | exact upA_eq | (apply upA_ne; first | decide | omega) | (apply SA_at; assumption; first | decide | (simp; omega)) | exact rfl)))⟩, O⟩
/-! signs -/
theorem nar8 (y : Int32) : y.toInt8.toInt32 = I (sb ((y.toBitVec.toNat % 256 : Nat) : Int)) := by
  have h : ∀ n : Fin 256, (Int8.ofBitVec (BitVec.ofFin n)).toInt32 = I (sb ((n : Nat) : Int)) := by decide +kernel
  have e : y.toInt8 = Int8.ofBitVec (BitVec.ofFin ⟨y.toBitVec.toNat % 256, by omega⟩) := by
    apply Int8.toBitVec_inj.1
    show y.toBitVec.signExtend 8 = _
    rw [BitVec.signExtend_eq_setWidth_of_le _ (by decide)]
    apply BitVec.eq_of_toNat_eq
    rw [BitVec.toNat_setWidth]
    rfl
  rw [e]
  exact h ⟨y.toBitVec.toNat % 256, by omega⟩
theorem shr8 (x : BitVec 32) {n : Nat} (hn : n ≤ 24) : (x.sshiftRight n).toNat % 256 = x.toNat / 2 ^ n % 256 := by
  apply Nat.eq_of_testBit_eq
  intro i
  rw [show (256 : Nat) = 2 ^ 8 from rfl, Nat.testBit_mod_two_pow, Nat.testBit_mod_two_pow, Nat.testBit_div_two_pow, BitVec.testBit_toNat, BitVec.testBit_toNat, BitVec.getLsbD_sshiftRight]
  by_cases hi : i < 8
  · rw [if_pos (by omega), Nat.add_comm n i]
    simp [hi, show ¬ 32 ≤ i by omega]
  · simp [hi]
theorem byt_le (x : Int32) (k : Nat) : 0 ≤ byt x k ∧ byt x k ≤ 255 := by have := byt_in x k; omega
theorem by4_byl {x : Int32} (h : byl l) : byl (l ++ by4 x) := by
  intro c hc
  rcases List.mem_append.1 hc with h2 | h2
  · exact h c h2
  · have g0 := byt_in x 0
    have g1 := byt_in x 1
    have g2 := byt_in x 2
    have g3 := byt_in x 3
    simp only [by4, List.mem_cons, List.not_mem_nil, or_false] at h2
    rcases h2 with rfl | rfl | rfl | rfl <;> omega
theorem byt_sb (x : Int32) {k : Nat} (hk : k < 4) : (x >>> (I (8 * (3 - (k : Int))) &&& 31)).toInt8.toInt32 = I (sb (byt x k)) := by
  have h1 : ∀ k : Fin 4, ((I (8 * (3 - ((k : Nat) : Int))) &&& 31).toBitVec.smod 32).toNat = 24 - 8 * (k : Nat) := by decide +kernel
  rw [nar8, Int32.toBitVec_shiftRight]
  unfold BitVec.sshiftRight'
  rw [h1 ⟨k, hk⟩, shr8 _ (by show 24 - 8 * k ≤ 24; omega)]
  rfl
theorem lp_Ref_sign {x : Int32} (hl : tx.length + 4 ≤ 80) (M : MX V A N T U tx rw rt hs ss KT) : ∀ (m i : Nat), 4 < i + m → i ≤ 4 → ∀ (hp2 : Hp) (F : Int → Int) (K : ModAt hp2 q (upN (upN V 6 0) 3 ((tx.length + i : Nat) : Int)) (upA A 2 F) rd (.ref (q + 5))) (O : SO hp hp2 q (q + 25)) (hF : ∀ j : Nat, j < tx.length + i → F j = sb ((tx ++ by4 x).getD j 0)), wp g MX12_sign (rm 0 0 0) (Eff (.int (I ((tx.length + 4 : Nat) : Int))) (fun hp3 => MAt hp3 q 0 N T U (tx ++ by4 x) rw rt hs ss KT ∧ SO hp hp3 q (q + 25))) 0 0 20 [some (.ref q), some (.int x), some (.int (I (3 - (i : Int))))] [] hp2 := by
  intro m
  induction m with
  | zero => intro i h1 h2; exact absurd h1 (by omega)
  | succ m ih =>
    intro i h1 h2 hp2 F K O hF
    obtain ⟨m1, mA, mt, mr, mu, mU, mh, ms, mk⟩ := M
    refine wp_iload_n (pc := 20) dX12_sign_20 rfl ?_
    refine wp_if_lt (pc := 21) 53 dX12_sign_21 (by decide) (by first | omega | exact TI.i5 (by assumption) | exact TI.i3 (by assumption) | exact TI.i2 (by assumption) | exact TI.i1 (by assumption) | exact TI.i0 (by assumption) | exact TI.i4 (by assumption) | exact TI.i6 (by assumption) | exact TI.i7 (by assumption)) (fun c21 => ?_) (fun c21 => ?_)
    ·
      have e : i = 4 := by omega
      subst e
      have mt2 : Mtx (upN (upN V 6 0) 3 ((tx.length + 4 : Nat) : Int)) (upA A 2 F) (tx ++ by4 x) := ⟨by rw [upN_eq, List.length_append]; rfl, by rw [List.length_append]; exact hl, ⟨by4_byl mt.2.2.1, fun j hj => by rw [List.length_append] at hj; rw [upA_eq]; exact hF j hj⟩⟩ -- go
      refine wp_aload_n (pc := 53) dX12_sign_53 rfl ?_
      refine wm_gets dX12_sign_54 gf_X12_103 K (by rfl) (by repeat (first | assumption | exact pv10 | exact pv11 | (apply pv_o; decide; decide) | exact upN_eq | (apply upN_ne; decide) | (apply SV_at; assumption; decide) | exact rfl)) ?_
      exact wp_ir (pc := 57) dX12_sign_57 rfl (by decide) (by decide) (by first | rfl | omega) ⟨⟨_, _, _, K, (by repeat (first | assumption | exact pv10 | exact pv11 | (apply pv_o; decide; decide) | exact upN_eq | (apply upN_ne; decide) | (apply SV_at; assumption; decide) | exact rfl)), ⟨(by repeat (first | assumption | exact pv10 | exact pv11 | (apply pv_o; decide; decide) | exact upN_eq | (apply upN_ne; decide) | (apply SV_at; assumption; decide) | exact rfl)), (by repeat (first | assumption | exact upA_eq | (apply upA_ne; first | decide | omega) | (apply SA_at; assumption; first | decide | (simp; omega)) | exact rfl)), mt2, Mrw.tr mr (by repeat (first | assumption | exact pv10 | exact pv11 | (apply pv_o; decide; decide) | exact upN_eq | (apply upN_ne; decide) | (apply SV_at; assumption; decide) | exact rfl)) (by repeat (first | assumption | exact upA_eq | (apply upA_ne; first | decide | omega) | (apply SA_at; assumption; first | decide | (simp; omega)) | exact rfl)), Mrt.tr mu (by repeat (first | assumption | exact pv10 | exact pv11 | (apply pv_o; decide; decide) | exact upN_eq | (apply upN_ne; decide) | (apply SV_at; assumption; decide) | exact rfl)) (by repeat (first | assumption | exact upA_eq | (apply upA_ne; first | decide | omega) | (apply SA_at; assumption; first | decide | (simp; omega)) | exact rfl)), MU.tr mU (by repeat (first | assumption | exact pv10 | exact pv11 | (apply pv_o; decide; decide) | exact upN_eq | (apply upN_ne; decide) | (apply SV_at; assumption; decide) | exact rfl)) (by repeat (first | assumption | exact upA_eq | (apply upA_ne; first | decide | omega) | (apply SA_at; assumption; first | decide | (simp; omega)) | exact rfl)), Mhs.tr mh (by repeat (first | assumption | exact pv10 | exact pv11 | (apply pv_o; decide; decide) | exact upN_eq | (apply upN_ne; decide) | (apply SV_at; assumption; decide) | exact rfl)) (by repeat (first | assumption | exact upA_eq | (apply upA_ne; first | decide | omega) | (apply SA_at; assumption; first | decide | (simp; omega)) | exact rfl)) (by repeat (first | assumption | exact upA_eq | (apply upA_ne; first | decide | omega) | (apply SA_at; assumption; first | decide | (simp; omega)) | exact rfl)), Mss.tr ms (by repeat (first | assumption | exact pv10 | exact pv11 | (apply pv_o; decide; decide) | exact upN_eq | (apply upN_ne; decide) | (apply SV_at; assumption; decide) | exact rfl)) (by repeat (first | assumption | exact upA_eq | (apply upA_ne; first | decide | omega) | (apply SA_at; assumption; first | decide | (simp; omega)) | exact rfl)) (by repeat (first | assumption | exact upA_eq | (apply upA_ne; first | decide | omega) | (apply SA_at; assumption; first | decide | (simp; omega)) | exact rfl)) (by repeat (first | assumption | exact upA_eq | (apply upA_ne; first | decide | omega) | (apply SA_at; assumption; first | decide | (simp; omega)) | exact rfl)), MK.tr mk (by repeat (first | assumption | exact pv10 | exact pv11 | (apply pv_o; decide; decide) | exact upN_eq | (apply upN_ne; decide) | (apply SV_at; assumption; decide) | exact rfl)) (by repeat (first | assumption | exact upA_eq | (apply upA_ne; first | decide | omega) | (apply SA_at; assumption; first | decide | (simp; omega)) | exact rfl)) (by repeat (first | assumption | exact upA_eq | (apply upA_ne; first | decide | omega) | (apply SA_at; assumption; first | decide | (simp; omega)) | exact rfl)) (by repeat (first | assumption | exact upA_eq | (apply upA_ne; first | decide | omega) | (apply SA_at; assumption; first | decide | (simp; omega)) | exact rfl))⟩⟩, O⟩
    ·
      skip -- go
      refine wp_aload_n (pc := 24) dX12_sign_24 rfl ?_
      refine wm_get dX12_sign_25 gf_X12_13 K (by rfl) ?_
      refine wp_aload_n (pc := 28) dX12_sign_28 rfl ?_
      refine wp_dup (pc := 29) dX12_sign_29 rfl ?_
      refine wm_gets dX12_sign_30 gf_X12_103 K (by rfl) (by repeat (first | assumption | exact pv10 | exact pv11 | (apply pv_o; decide; decide) | exact upN_eq | (apply upN_ne; decide) | (apply SV_at; assumption; decide) | exact rfl)) ?_
      refine wp_dup_x1 (pc := 33) dX12_sign_33 rfl rfl ?_
      refine wp_iconst (pc := 34) dX12_sign_34 ?_
      refine wp_iadd (pc := 35) dX12_sign_35 ?_
      refine wm_put dX12_sign_36 pf_X12_103 K O (by decide) mset_3 rfl rfl (fun hp K O => ?_)
      refine wp_iload_n (pc := 39) dX12_sign_39 rfl ?_
      refine wp_bipush (pc := 40) (y := 8) dX12_sign_40 (by decide) ?_
      refine wp_iload_n (pc := 42) dX12_sign_42 rfl ?_
      refine wp_imul (pc := 43) dX12_sign_43 ?_
      refine wp_ishr (pc := 44) dX12_sign_44 rfl ?_
      refine wp_i2b (pc := 45) dX12_sign_45 (byt_sb x (by omega)) ?_
      refine wm_bast dX12_sign_46 K O (by rfl) (by decide) (by decide) (by decide) (by omega) (by omega) upA_eq (sb_nar (byt_le x i)) rfl (fun hp K O => ?_)
      rw [upA_upA, upN_upN] at K
      refine wp_iinc (pc := 47) dX12_sign_47 rfl (by decide) ?_
      refine wp_goto (pc := 50) 20 dX12_sign_50 (by decide) ?_
      refine wp_ls ?_ (ih (i + 1) (by omega) (by omega) _ _ K O (fun j hj => ?_))
      · repeat' (first | exact LE_0 | refine LE_s rfl ?_ | refine LE_s (I_c (by first | omega | (simp only [sm]; omega))) ?_ | refine LE_s (J_c (by first | omega | exact Int.pow_succ _ _ | exact (Int.pow_succ _ _).symm | exact (Int.pow_zero _).symm | (simp only [sm]; omega))) ?_ | refine LE_n ?_)
      · by_cases e : j = tx.length + i
        · subst e
          rw [updI_eq, gd_r (by omega), Nat.add_sub_cancel_left, by4_get x (by omega)]
        · rw [updI_ne (by omega), hF j (by omega)]
theorem sp_Ref_sign {x : Int32} (hM : MAt hp q th N T U tx rw rt hs ss KT) : Sp g MX12_sign (rm 0 0 0) [.ref q, .int x] hp (Eff (.int (I (if tx.length + 4 ≤ 80 then (tx.length : Int) + 4 else -1))) (fun hp2 => MAt hp2 q 0 N T U (if tx.length + 4 ≤ 80 then tx ++ by4 x else tx) rw rt hs ss KT ∧ SO hp hp2 q (q + 25))) := by
  refine Sp_mk rfl (Nat.le_of_ble_eq_true rfl) ?_
  show wp g _ _ _ 0 0 0 [some (.ref q), some (.int x), none] [] hp
  have O := SO.rf (hp := hp) (lo := q) (hi := q + 25)
  obtain ⟨V, A, rd, K, hth, M⟩ := hM
  have hu := M.ru (q := q)
  have M2 := M
  obtain ⟨m1, mA, mt, mr, mu, mU, mh, ms, mk⟩ := M2
  have h3 := mt.1
  have hl := mt.2.1
  refine wp_aload_n (pc := 0) dX12_sign_0 rfl ?_
  refine wp_iconst (pc := 1) dX12_sign_1 ?_
  refine wm_put dX12_sign_2 pf_X12_85 K O (by decide) mset_6 rfl rfl (fun hp K O => ?_)
  refine wp_aload_n (pc := 5) dX12_sign_5 rfl ?_
  refine wm_gets dX12_sign_6 gf_X12_103 K (by rfl) (by repeat (first | assumption | exact pv10 | exact pv11 | (apply pv_o; decide; decide) | exact upN_eq | (apply upN_ne; decide) | (apply SV_at; assumption; decide) | exact rfl)) ?_
  refine wp_iconst (pc := 9) dX12_sign_9 ?_
  refine wp_iadd (pc := 10) dX12_sign_10 ?_
  refine wp_bipush (pc := 11) (y := 80) dX12_sign_11 (by decide) ?_
  refine wp_icmp_le (pc := 13) 18 dX12_sign_13 (by decide) (by first | omega | exact TI.i5 (by assumption) | exact TI.i3 (by assumption) | exact TI.i2 (by assumption) | exact TI.i1 (by assumption) | exact TI.i0 (by assumption) | exact TI.i4 (by assumption) | exact TI.i6 (by assumption) | exact TI.i7 (by assumption)) (by first | omega | exact TI.i5 (by assumption) | exact TI.i3 (by assumption) | exact TI.i2 (by assumption) | exact TI.i1 (by assumption) | exact TI.i0 (by assumption) | exact TI.i4 (by assumption) | exact TI.i6 (by assumption) | exact TI.i7 (by assumption)) (fun c13 => ?_) (fun c13 => ?_)
  ·
    rw [if_pos (show tx.length + 4 ≤ 80 by omega), if_pos (show tx.length + 4 ≤ 80 by omega)]
    refine wp_iconst (pc := 18) dX12_sign_18 ?_
    refine wp_istore_n (pc := 19) dX12_sign_19 (by decide) ?_
    refine wp_ls ?_ (lp_Ref_sign (V := V) (A := A) (by omega) M 5 0 (by omega) (by omega) _ (A 2) (by rw [upA_id rfl, Nat.add_zero, upN_id (show upN V 6 0 3 = _ from upN_ne (by decide) h3)]; exact K) O (fun j hj => ?_))
    · repeat' (first | exact LE_0 | refine LE_s rfl ?_ | refine LE_s (I_c (by first | omega | (simp only [sm]; omega))) ?_ | refine LE_s (J_c (by first | omega | exact Int.pow_succ _ _ | exact (Int.pow_succ _ _).symm | exact (Int.pow_zero _).symm | (simp only [sm]; omega))) ?_ | refine LE_n ?_)
    · rw [mt.2.2.2 j hj, gd_l hj]
  ·
    rw [if_neg (show ¬ tx.length + 4 ≤ 80 by omega), if_neg (show ¬ tx.length + 4 ≤ 80 by omega)]
    refine wp_iconst (pc := 16) dX12_sign_16 ?_
    exact wp_ir (pc := 17) dX12_sign_17 rfl (by decide) (by decide) (by first | rfl | omega) ⟨⟨_, _, _, K, (by repeat (first | assumption | exact pv10 | exact pv11 | (apply pv_o; decide; decide) | exact upN_eq | (apply upN_ne; decide) | (apply SV_at; assumption; decide) | exact rfl)), M.qu (by repeat (first | exact SV.rf | assumption | (apply SV.up1; decide) | (apply SV.tr2; assumption; decide))) (by repeat (first | exact SA.rf | assumption | (apply SA.up1; decide) | (apply SA.tr2; assumption; decide))) (by first | assumption | exact Mrw.z (by repeat (first | assumption | exact pv10 | exact pv11 | (apply pv_o; decide; decide) | exact upN_eq | (apply upN_ne; decide) | (apply SV_at; assumption; decide) | exact rfl)) | exact Mrw.tr (by assumption) (by repeat (first | assumption | exact pv10 | exact pv11 | (apply pv_o; decide; decide) | exact upN_eq | (apply upN_ne; decide) | (apply SV_at; assumption; decide) | exact rfl)) (by repeat (first | assumption | exact upA_eq | (apply upA_ne; first | decide | omega) | (apply SA_at; assumption; first | decide | (simp; omega)) | exact rfl)))⟩, O⟩
end MY_

