/-! the reference: deeds, and what is said -/
section MJ
variable {g : GT} {hp hp0 : Hp} {q N n a b s k p D : Nat} {V V2 V3 : Nat → Int} {A A2 A3 : Nat → Int → Int} {rd rl : Value} {i j x v c y z w th : Int} {T T2 : Nat → Int → Int} {l t cs tx rw rw2 rt : List Int} {W G f : Int → Int} {U U2 : List (Nat → Int → Int)} {hs : List (Int × Int)} {ss : List (Int × Int × Int)} {KT : Nat → Option (Nat → Int → Int)} {L L2 : List Nat}
theorem sp_Ref_coughs (hM : MAt hp q th N T U tx rw rt hs ss KT) (hI : TI T N) (rx : InR x) : Sp g MX12_coughs (rm 3 0 0) [.ref q, .int (I x)] hp (Eff (.int (I (couA T N x))) (fun hp2 => MAt hp2 q 0 N (couT T N x) (if 0 ≤ couA T N x then (T :: U).take 12 else U) tx rw rt hs ss KT ∧ SO hp hp2 q (q + 25))) := by
  have hN := hI.men.2
  have h3 := hI.r3 x
  refine Sp_mk rfl (Nat.le_of_ble_eq_true rfl) ?_
  show wp g _ _ _ 0 0 0 [some (.ref q), some (.int (I x)), none] [] hp
  have O := SO.rf (hp := hp) (lo := q) (hi := q + 25)
  obtain ⟨V, A, rd, K, hth, M⟩ := hM
  have hu := M.ru (q := q)
  have M2 := M
  obtain ⟨m1, mA, mt, mr, mu, mU, mh, ms, mk⟩ := M2
  refine wp_aload_n (pc := 0) dX12_coughs_0 rfl ?_
  refine wp_iconst (pc := 1) dX12_coughs_1 ?_
  refine wm_put dX12_coughs_2 pf_X12_85 K O (by decide) mset_6 rfl rfl (fun hp K O => ?_)
  refine wp_aload_n (pc := 5) dX12_coughs_5 rfl ?_
  refine wp_aload_n (pc := 6) dX12_coughs_6 rfl ?_
  refine wm_get dX12_coughs_7 gf_X12_9 K (by rfl) ?_
  refine wp_iload_n (pc := 10) dX12_coughs_10 rfl ?_
  refine wp_Vp (pc := 11) dX12_coughs_11 cl_X12_267 (sp_Ref_refusesCough K (by repeat (first | assumption | exact pv10 | exact pv11 | (apply pv_o; decide; decide) | exact upN_eq | (apply upN_ne; decide) | (apply SV_at; assumption; decide) | exact rfl)) hI (.inl rfl) (by repeat (first | assumption | exact upA_eq | (apply upA_ne; first | decide | omega) | (apply SA_at; assumption; first | decide | (simp; omega)) | exact rfl)) rx) rfl rfl K.1 (by rfl) (by decide) (Nat.le_of_ble_eq_true rfl) ?_
  refine wp_istore_n (pc := 14) dX12_coughs_14 (by decide) ?_
  refine wp_iload_n (pc := 15) dX12_coughs_15 rfl ?_
  refine wp_if_ge (pc := 16) 21 dX12_coughs_16 (by decide) (by (repeat' split) <;> omega) (fun c16 => ?_) (fun c16 => ?_)
  ·
    have hc : 0 ≤ x ∧ x < N ∧ ¬ T 5 x = 0 := by revert c16; (repeat' split) <;> omega
    have eT : couT T N x = up (up T 5 x 0) 3 x (T 3 x / 2) := if_pos hc
    have eA : couA T N x = T 3 x / 2 := by unfold couA; rw [if_neg (by omega), if_neg (by omega)]
    rw [if_pos (by omega)] -- go
    refine wp_aload_n (pc := 21) dX12_coughs_21 rfl ?_
    refine wp_aload_n (pc := 22) dX12_coughs_22 rfl ?_
    refine wm_get dX12_coughs_23 gf_X12_9 K (by rfl) ?_
    refine wp_Vn (pc := 26) dX12_coughs_26 cl_X12_246 (sp_Ref_remember K (by first | assumption | exact MU.tr (by assumption) (by repeat (first | assumption | exact pv10 | exact pv11 | (apply pv_o; decide; decide) | exact upN_eq | (apply upN_ne; decide) | (apply SV_at; assumption; decide) | exact rfl)) (by repeat (first | assumption | exact upA_eq | (apply upA_ne; first | decide | omega) | (apply SA_at; assumption; first | decide | (simp; omega)) | exact rfl))) rfl (by decide) (by decide) (by repeat (first | assumption | exact upA_eq | (apply upA_ne; first | decide | omega) | (apply SA_at; assumption; first | decide | (simp; omega)) | exact rfl))) rfl rfl K.1 (by rfl) (by decide) (Nat.le_of_ble_eq_true rfl) (fun hp26 e26 => ?_)
    obtain ⟨⟨V26, A26, K, sV26, sA26, hU26⟩, O1⟩ := e26; replace O := SO.tr O O1
    refine wp_aload_n (pc := 29) dX12_coughs_29 rfl ?_
    refine wm_get dX12_coughs_30 gf_X12_9 K (by rfl) ?_
    refine wp_iload_n (pc := 33) dX12_coughs_33 rfl ?_
    refine wp_Sn (pc := 34) dX12_coughs_34 cl_X12_270 (sp_Ref_goCough K hI (.inl rfl) (by repeat (first | assumption | exact upA_eq | (apply upA_ne; first | decide | omega) | (apply SA_at; assumption; first | decide | (simp; omega)) | exact rfl)) (by omega)) rfl rfl (by decide) (Nat.le_of_ble_eq_true rfl) (fun hp34 e34 => ?_)
    obtain ⟨K, O1⟩ := e34
    replace O := SO.tr O O1
    rw [← eT] at K
    refine wp_aload_n (pc := 37) dX12_coughs_37 rfl ?_
    refine wm_get dX12_coughs_38 gf_X12_9 K (by rfl) ?_
    refine wp_bipush (pc := 41) (y := 42) dX12_coughs_41 (by decide) ?_
    refine wp_iload_n (pc := 43) dX12_coughs_43 rfl ?_
    refine wp_iadd (pc := 44) dX12_coughs_44 ?_
    refine wm_iald dX12_coughs_45 K (by first | rfl | assumption) (by first | decide | omega) (by first | decide | omega) (by decide) (by omega) (by omega) (by repeat (first | assumption | exact upA_eq | (apply upA_ne; first | decide | omega) | (apply SA_at; assumption; first | decide | (simp; omega)) | exact rfl)) (by first | exact flat5 (by omega) (by omega) | exact flat3 (by omega) (by omega) | exact flat2 (by omega) (by omega) | exact flat6 (by omega) (by omega) | exact flat4 (by omega) (by omega) | exact flat1 (by omega) (by omega) | exact flat0 (by omega) (by omega) | exact flat7 | exact rfl) ?_
    exact wp_ir (pc := 46) dX12_coughs_46 rfl (by decide) (by decide) (by rw [eT, eA]; exact updI_eq) ⟨⟨_, _, _, K, (by repeat (first | assumption | exact pv10 | exact pv11 | (apply pv_o; decide; decide) | exact upN_eq | (apply upN_ne; decide) | (apply SV_at; assumption; decide) | exact rfl)), M.ch (by repeat (first | exact SV.rf | assumption | (apply SV.up1; decide) | (apply SV.tr2; assumption; decide))) (by repeat (first | exact SA.rf | assumption | (apply SA.up1; decide) | (apply SA.tr2; assumption; decide))) (by repeat (first | assumption | exact upA_eq | (apply upA_ne; first | decide | omega) | (apply SA_at; assumption; first | decide | (simp; omega)) | exact rfl)) (by first | assumption | exact MU.tr (by assumption) (by repeat (first | assumption | exact pv10 | exact pv11 | (apply pv_o; decide; decide) | exact upN_eq | (apply upN_ne; decide) | (apply SV_at; assumption; decide) | exact rfl)) (by repeat (first | assumption | exact upA_eq | (apply upA_ne; first | decide | omega) | (apply SA_at; assumption; first | decide | (simp; omega)) | exact rfl))) (by first | assumption | exact Mrw.z (by repeat (first | assumption | exact pv10 | exact pv11 | (apply pv_o; decide; decide) | exact upN_eq | (apply upN_ne; decide) | (apply SV_at; assumption; decide) | exact rfl)) | exact Mrw.tr (by assumption) (by repeat (first | assumption | exact pv10 | exact pv11 | (apply pv_o; decide; decide) | exact upN_eq | (apply upN_ne; decide) | (apply SV_at; assumption; decide) | exact rfl)) (by repeat (first | assumption | exact upA_eq | (apply upA_ne; first | decide | omega) | (apply SA_at; assumption; first | decide | (simp; omega)) | exact rfl)))⟩, O⟩
  ·
    have hv : (if ¬ (0 ≤ x ∧ x < N) then (-1 : Int) else if T 5 x = 0 then -2 else 0) = couA T N x := by unfold couA; revert c16; (repeat' split) <;> omega
    have hneg : ¬ 0 ≤ couA T N x := by rw [← hv]; exact c16
    have eT : couT T N x = T := if_neg (fun z => by revert hneg; unfold couA; rw [if_neg (by omega), if_neg (by omega)]; omega)
    rw [eT, if_neg hneg] -- go
    refine wp_iload_n (pc := 19) dX12_coughs_19 rfl ?_
    exact wp_ir (pc := 20) dX12_coughs_20 rfl (by decide) (by decide) hv ⟨⟨_, _, _, K, (by repeat (first | assumption | exact pv10 | exact pv11 | (apply pv_o; decide; decide) | exact upN_eq | (apply upN_ne; decide) | (apply SV_at; assumption; decide) | exact rfl)), M.ch (by repeat (first | exact SV.rf | assumption | (apply SV.up1; decide) | (apply SV.tr2; assumption; decide))) (by repeat (first | exact SA.rf | assumption | (apply SA.up1; decide) | (apply SA.tr2; assumption; decide))) (by repeat (first | assumption | exact upA_eq | (apply upA_ne; first | decide | omega) | (apply SA_at; assumption; first | decide | (simp; omega)) | exact rfl)) (by first | assumption | exact MU.tr (by assumption) (by repeat (first | assumption | exact pv10 | exact pv11 | (apply pv_o; decide; decide) | exact upN_eq | (apply upN_ne; decide) | (apply SV_at; assumption; decide) | exact rfl)) (by repeat (first | assumption | exact upA_eq | (apply upA_ne; first | decide | omega) | (apply SA_at; assumption; first | decide | (simp; omega)) | exact rfl))) (by first | assumption | exact Mrw.z (by repeat (first | assumption | exact pv10 | exact pv11 | (apply pv_o; decide; decide) | exact upN_eq | (apply upN_ne; decide) | (apply SV_at; assumption; decide) | exact rfl)) | exact Mrw.tr (by assumption) (by repeat (first | assumption | exact pv10 | exact pv11 | (apply pv_o; decide; decide) | exact upN_eq | (apply upN_ne; decide) | (apply SV_at; assumption; decide) | exact rfl)) (by repeat (first | assumption | exact upA_eq | (apply upA_ne; first | decide | omega) | (apply SA_at; assumption; first | decide | (simp; omega)) | exact rfl)))⟩, O⟩
theorem sp_Ref_lends (hM : MAt hp q th N T U tx rw rt hs ss KT) (hI : TI T N) (rx : InR x) (ry : InR y) (rz : InR z) : Sp g MX12_lends (rm 4 0 0) [.ref q, .int (I x), .int (I y), .int (I z)] hp (Eff (.int (I (lenA T N x y z))) (fun hp2 => MAt hp2 q 0 N (lenT T N x y z) (if 0 ≤ lenA T N x y z then (T :: U).take 12 else U) tx rw rt hs ss KT ∧ SO hp hp2 q (q + 25))) := by
  have hN := hI.men.2
  have h1 := hI.r1 (y * 6 + x)
  refine Sp_mk rfl (Nat.le_of_ble_eq_true rfl) ?_
  show wp g _ _ _ 0 0 0 [some (.ref q), some (.int (I x)), some (.int (I y)), some (.int (I z)), none] [] hp
  have O := SO.rf (hp := hp) (lo := q) (hi := q + 25)
  obtain ⟨V, A, rd, K, hth, M⟩ := hM
  have hu := M.ru (q := q)
  have M2 := M
  obtain ⟨m1, mA, mt, mr, mu, mU, mh, ms, mk⟩ := M2
  refine wp_aload_n (pc := 0) dX12_lends_0 rfl ?_
  refine wp_iconst (pc := 1) dX12_lends_1 ?_
  refine wm_put dX12_lends_2 pf_X12_85 K O (by decide) mset_6 rfl rfl (fun hp K O => ?_)
  refine wp_aload_n (pc := 5) dX12_lends_5 rfl ?_
  refine wp_iload_n (pc := 6) dX12_lends_6 rfl ?_
  refine wp_iload_n (pc := 7) dX12_lends_7 rfl ?_
  refine wp_iload_n (pc := 8) dX12_lends_8 rfl ?_
  refine wp_Vp (pc := 9) dX12_lends_9 cl_X12_273 (sp_Ref_refusesLoan K (by repeat (first | assumption | exact pv10 | exact pv11 | (apply pv_o; decide; decide) | exact upN_eq | (apply upN_ne; decide) | (apply SV_at; assumption; decide) | exact rfl)) hI (by repeat (first | assumption | exact upA_eq | (apply upA_ne; first | decide | omega) | (apply SA_at; assumption; first | decide | (simp; omega)) | exact rfl)) rx ry rz) rfl rfl K.1 (by rfl) (by decide) (Nat.le_of_ble_eq_true rfl) ?_
  refine wp_istore (pc := 12) dX12_lends_12 (by decide) ?_
  refine wp_iload (pc := 14) dX12_lends_14 rfl ?_
  refine wp_if_ge (pc := 16) 22 dX12_lends_16 (by decide) (by (repeat' split) <;> omega) (fun c16 => ?_) (fun c16 => ?_)
  ·
    have hc : (0 ≤ x ∧ x < N ∧ 0 ≤ y ∧ y < N ∧ x ≠ y ∧ 1 ≤ z ∧ z ≤ 99) ∧ T 5 x = 0 ∧ T 5 y = 0 ∧ z ≤ T 2 x ∧ T 1 (y * 6 + x) + z ≤ 99 ∧ T 2 y + z ≤ 99 := by revert c16; (repeat' split) <;> omega
    have eT : lenT T N x y z = up (monT T x y z) 1 (y * 6 + x) (T 1 (y * 6 + x) + z) := if_pos hc
    have eA : lenA T N x y z = T 1 (y * 6 + x) + z := by unfold lenA; rw [if_neg (by omega), if_neg (by omega), if_neg (by omega), if_neg (by omega)]
    rw [if_pos (by omega)] -- go
    refine wp_aload_n (pc := 22) dX12_lends_22 rfl ?_
    refine wp_aload_n (pc := 23) dX12_lends_23 rfl ?_
    refine wm_get dX12_lends_24 gf_X12_9 K (by rfl) ?_
    refine wp_Vn (pc := 27) dX12_lends_27 cl_X12_246 (sp_Ref_remember K (by first | assumption | exact MU.tr (by assumption) (by repeat (first | assumption | exact pv10 | exact pv11 | (apply pv_o; decide; decide) | exact upN_eq | (apply upN_ne; decide) | (apply SV_at; assumption; decide) | exact rfl)) (by repeat (first | assumption | exact upA_eq | (apply upA_ne; first | decide | omega) | (apply SA_at; assumption; first | decide | (simp; omega)) | exact rfl))) rfl (by decide) (by decide) (by repeat (first | assumption | exact upA_eq | (apply upA_ne; first | decide | omega) | (apply SA_at; assumption; first | decide | (simp; omega)) | exact rfl))) rfl rfl K.1 (by rfl) (by decide) (Nat.le_of_ble_eq_true rfl) (fun hp27 e27 => ?_)
    obtain ⟨⟨V27, A27, K, sV27, sA27, hU27⟩, O1⟩ := e27; replace O := SO.tr O O1
    refine wp_aload_n (pc := 30) dX12_lends_30 rfl ?_
    refine wp_iload_n (pc := 31) dX12_lends_31 rfl ?_
    refine wp_iload_n (pc := 32) dX12_lends_32 rfl ?_
    refine wp_iload_n (pc := 33) dX12_lends_33 rfl ?_
    refine wp_Vn (pc := 34) dX12_lends_34 cl_X12_277 (sp_Ref_goLoan K hI (by repeat (first | assumption | exact upA_eq | (apply upA_ne; first | decide | omega) | (apply SA_at; assumption; first | decide | (simp; omega)) | exact rfl)) (by omega) (by omega)) rfl rfl K.1 (by rfl) (by decide) (Nat.le_of_ble_eq_true rfl) (fun hp34 e34 => ?_)
    obtain ⟨K, O1⟩ := e34
    replace O := SO.tr O O1
    rw [← eT] at K
    refine wp_aload_n (pc := 37) dX12_lends_37 rfl ?_
    refine wm_get dX12_lends_38 gf_X12_9 K (by rfl) ?_
    refine wp_bipush (pc := 41) (y := 66) dX12_lends_41 (by decide) ?_
    refine wp_iload_n (pc := 43) dX12_lends_43 rfl ?_
    refine wp_iload_n (pc := 44) dX12_lends_44 rfl ?_
    refine wp_Sp (pc := 45) dX12_lends_45 cl_X12_151 sp_Ref_pair rfl rfl (by decide) (Nat.le_of_ble_eq_true rfl) ?_
    refine wp_iadd (pc := 48) dX12_lends_48 ?_
    refine wm_iald dX12_lends_49 K (by first | rfl | assumption) (by first | decide | omega) (by first | decide | omega) (by decide) (by omega) (by omega) (by repeat (first | assumption | exact upA_eq | (apply upA_ne; first | decide | omega) | (apply SA_at; assumption; first | decide | (simp; omega)) | exact rfl)) (by first | exact flat5 (by omega) (by omega) | exact flat3 (by omega) (by omega) | exact flat2 (by omega) (by omega) | exact flat6 (by omega) (by omega) | exact flat4 (by omega) (by omega) | exact flat1 (by omega) (by omega) | exact flat0 (by omega) (by omega) | exact flat7 | exact rfl) ?_
    exact wp_ir (pc := 50) dX12_lends_50 rfl (by decide) (by decide) (by rw [eT, eA]; exact updI_eq) ⟨⟨_, _, _, K, (by repeat (first | assumption | exact pv10 | exact pv11 | (apply pv_o; decide; decide) | exact upN_eq | (apply upN_ne; decide) | (apply SV_at; assumption; decide) | exact rfl)), M.ch (by repeat (first | exact SV.rf | assumption | (apply SV.up1; decide) | (apply SV.tr2; assumption; decide))) (by repeat (first | exact SA.rf | assumption | (apply SA.up1; decide) | (apply SA.tr2; assumption; decide))) (by repeat (first | assumption | exact upA_eq | (apply upA_ne; first | decide | omega) | (apply SA_at; assumption; first | decide | (simp; omega)) | exact rfl)) (by first | assumption | exact MU.tr (by assumption) (by repeat (first | assumption | exact pv10 | exact pv11 | (apply pv_o; decide; decide) | exact upN_eq | (apply upN_ne; decide) | (apply SV_at; assumption; decide) | exact rfl)) (by repeat (first | assumption | exact upA_eq | (apply upA_ne; first | decide | omega) | (apply SA_at; assumption; first | decide | (simp; omega)) | exact rfl))) (by first | assumption | exact Mrw.z (by repeat (first | assumption | exact pv10 | exact pv11 | (apply pv_o; decide; decide) | exact upN_eq | (apply upN_ne; decide) | (apply SV_at; assumption; decide) | exact rfl)) | exact Mrw.tr (by assumption) (by repeat (first | assumption | exact pv10 | exact pv11 | (apply pv_o; decide; decide) | exact upN_eq | (apply upN_ne; decide) | (apply SV_at; assumption; decide) | exact rfl)) (by repeat (first | assumption | exact upA_eq | (apply upA_ne; first | decide | omega) | (apply SA_at; assumption; first | decide | (simp; omega)) | exact rfl)))⟩, O⟩
  ·
    have hv : (if ¬ (0 ≤ x ∧ x < N ∧ 0 ≤ y ∧ y < N ∧ x ≠ y ∧ 1 ≤ z ∧ z ≤ 99) then (-1 : Int) else if ¬ (T 5 x = 0 ∧ T 5 y = 0) then -4 else if T 2 x < z then -2 else if 99 < T 1 (y * 6 + x) + z ∨ 99 < T 2 y + z then -3 else 0) = lenA T N x y z := by unfold lenA; revert c16; (repeat' split) <;> omega
    have hneg : ¬ 0 ≤ lenA T N x y z := by rw [← hv]; exact c16
    have eT : lenT T N x y z = T := if_neg (fun z => by revert hneg; unfold lenA; rw [if_neg (by omega), if_neg (by omega), if_neg (by omega), if_neg (by omega)]; omega)
    rw [eT, if_neg hneg] -- go
    refine wp_iload (pc := 19) dX12_lends_19 rfl ?_
    exact wp_ir (pc := 21) dX12_lends_21 rfl (by decide) (by decide) hv ⟨⟨_, _, _, K, (by repeat (first | assumption | exact pv10 | exact pv11 | (apply pv_o; decide; decide) | exact upN_eq | (apply upN_ne; decide) | (apply SV_at; assumption; decide) | exact rfl)), M.ch (by repeat (first | exact SV.rf | assumption | (apply SV.up1; decide) | (apply SV.tr2; assumption; decide))) (by repeat (first | exact SA.rf | assumption | (apply SA.up1; decide) | (apply SA.tr2; assumption; decide))) (by repeat (first | assumption | exact upA_eq | (apply upA_ne; first | decide | omega) | (apply SA_at; assumption; first | decide | (simp; omega)) | exact rfl)) (by first | assumption | exact MU.tr (by assumption) (by repeat (first | assumption | exact pv10 | exact pv11 | (apply pv_o; decide; decide) | exact upN_eq | (apply upN_ne; decide) | (apply SV_at; assumption; decide) | exact rfl)) (by repeat (first | assumption | exact upA_eq | (apply upA_ne; first | decide | omega) | (apply SA_at; assumption; first | decide | (simp; omega)) | exact rfl))) (by first | assumption | exact Mrw.z (by repeat (first | assumption | exact pv10 | exact pv11 | (apply pv_o; decide; decide) | exact upN_eq | (apply upN_ne; decide) | (apply SV_at; assumption; decide) | exact rfl)) | exact Mrw.tr (by assumption) (by repeat (first | assumption | exact pv10 | exact pv11 | (apply pv_o; decide; decide) | exact upN_eq | (apply upN_ne; decide) | (apply SV_at; assumption; decide) | exact rfl)) (by repeat (first | assumption | exact upA_eq | (apply upA_ne; first | decide | omega) | (apply SA_at; assumption; first | decide | (simp; omega)) | exact rfl)))⟩, O⟩
theorem sp_Ref_pays (hM : MAt hp q th N T U tx rw rt hs ss KT) (hI : TI T N) (rx : InR x) (ry : InR y) (rz : InR z) : Sp g MX12_pays (rm 4 0 0) [.ref q, .int (I x), .int (I y), .int (I z)] hp (Eff (.int (I (payA T N x y z))) (fun hp2 => MAt hp2 q 0 N (payT T N x y z) (if 0 ≤ payA T N x y z then (T :: U).take 12 else U) tx rw rt hs ss KT ∧ SO hp hp2 q (q + 25))) := by
  have hN := hI.men.2
  have h1 := hI.r1 (x * 6 + y)
  refine Sp_mk rfl (Nat.le_of_ble_eq_true rfl) ?_
  show wp g _ _ _ 0 0 0 [some (.ref q), some (.int (I x)), some (.int (I y)), some (.int (I z)), none] [] hp
  have O := SO.rf (hp := hp) (lo := q) (hi := q + 25)
  obtain ⟨V, A, rd, K, hth, M⟩ := hM
  have hu := M.ru (q := q)
  have M2 := M
  obtain ⟨m1, mA, mt, mr, mu, mU, mh, ms, mk⟩ := M2
  refine wp_aload_n (pc := 0) dX12_pays_0 rfl ?_
  refine wp_iconst (pc := 1) dX12_pays_1 ?_
  refine wm_put dX12_pays_2 pf_X12_85 K O (by decide) mset_6 rfl rfl (fun hp K O => ?_)
  refine wp_aload_n (pc := 5) dX12_pays_5 rfl ?_
  refine wp_iload_n (pc := 6) dX12_pays_6 rfl ?_
  refine wp_iload_n (pc := 7) dX12_pays_7 rfl ?_
  refine wp_iload_n (pc := 8) dX12_pays_8 rfl ?_
  refine wp_Vp (pc := 9) dX12_pays_9 cl_X12_281 (sp_Ref_refusesPay K (by repeat (first | assumption | exact pv10 | exact pv11 | (apply pv_o; decide; decide) | exact upN_eq | (apply upN_ne; decide) | (apply SV_at; assumption; decide) | exact rfl)) hI (by repeat (first | assumption | exact upA_eq | (apply upA_ne; first | decide | omega) | (apply SA_at; assumption; first | decide | (simp; omega)) | exact rfl)) rx ry rz) rfl rfl K.1 (by rfl) (by decide) (Nat.le_of_ble_eq_true rfl) ?_
  refine wp_istore (pc := 12) dX12_pays_12 (by decide) ?_
  refine wp_iload (pc := 14) dX12_pays_14 rfl ?_
  refine wp_if_ge (pc := 16) 22 dX12_pays_16 (by decide) (by (repeat' split) <;> omega) (fun c16 => ?_) (fun c16 => ?_)
  ·
    have hc : (0 ≤ x ∧ x < N ∧ 0 ≤ y ∧ y < N ∧ x ≠ y ∧ 1 ≤ z ∧ z ≤ 99) ∧ T 5 x = 0 ∧ T 5 y = 0 ∧ z ≤ T 2 x ∧ z ≤ T 1 (x * 6 + y) ∧ T 2 y + z ≤ 99 := by revert c16; (repeat' split) <;> omega
    have eT : payT T N x y z = up (monT T x y z) 1 (x * 6 + y) (T 1 (x * 6 + y) - z) := if_pos hc
    have eA : payA T N x y z = T 1 (x * 6 + y) - z := by unfold payA; rw [if_neg (by omega), if_neg (by omega), if_neg (by omega), if_neg (by omega)]
    rw [if_pos (by omega)] -- go
    refine wp_aload_n (pc := 22) dX12_pays_22 rfl ?_
    refine wp_aload_n (pc := 23) dX12_pays_23 rfl ?_
    refine wm_get dX12_pays_24 gf_X12_9 K (by rfl) ?_
    refine wp_Vn (pc := 27) dX12_pays_27 cl_X12_246 (sp_Ref_remember K (by first | assumption | exact MU.tr (by assumption) (by repeat (first | assumption | exact pv10 | exact pv11 | (apply pv_o; decide; decide) | exact upN_eq | (apply upN_ne; decide) | (apply SV_at; assumption; decide) | exact rfl)) (by repeat (first | assumption | exact upA_eq | (apply upA_ne; first | decide | omega) | (apply SA_at; assumption; first | decide | (simp; omega)) | exact rfl))) rfl (by decide) (by decide) (by repeat (first | assumption | exact upA_eq | (apply upA_ne; first | decide | omega) | (apply SA_at; assumption; first | decide | (simp; omega)) | exact rfl))) rfl rfl K.1 (by rfl) (by decide) (Nat.le_of_ble_eq_true rfl) (fun hp27 e27 => ?_)
    obtain ⟨⟨V27, A27, K, sV27, sA27, hU27⟩, O1⟩ := e27; replace O := SO.tr O O1
    refine wp_aload_n (pc := 30) dX12_pays_30 rfl ?_
    refine wp_iload_n (pc := 31) dX12_pays_31 rfl ?_
    refine wp_iload_n (pc := 32) dX12_pays_32 rfl ?_
    refine wp_iload_n (pc := 33) dX12_pays_33 rfl ?_
    refine wp_Vn (pc := 34) dX12_pays_34 cl_X12_284 (sp_Ref_goPay K hI (by repeat (first | assumption | exact upA_eq | (apply upA_ne; first | decide | omega) | (apply SA_at; assumption; first | decide | (simp; omega)) | exact rfl)) (by omega) (by omega)) rfl rfl K.1 (by rfl) (by decide) (Nat.le_of_ble_eq_true rfl) (fun hp34 e34 => ?_)
    obtain ⟨K, O1⟩ := e34
    replace O := SO.tr O O1
    rw [← eT] at K
    refine wp_aload_n (pc := 37) dX12_pays_37 rfl ?_
    refine wm_get dX12_pays_38 gf_X12_9 K (by rfl) ?_
    refine wp_bipush (pc := 41) (y := 66) dX12_pays_41 (by decide) ?_
    refine wp_iload_n (pc := 43) dX12_pays_43 rfl ?_
    refine wp_iload_n (pc := 44) dX12_pays_44 rfl ?_
    refine wp_Sp (pc := 45) dX12_pays_45 cl_X12_151 sp_Ref_pair rfl rfl (by decide) (Nat.le_of_ble_eq_true rfl) ?_
    refine wp_iadd (pc := 48) dX12_pays_48 ?_
    refine wm_iald dX12_pays_49 K (by first | rfl | assumption) (by first | decide | omega) (by first | decide | omega) (by decide) (by omega) (by omega) (by repeat (first | assumption | exact upA_eq | (apply upA_ne; first | decide | omega) | (apply SA_at; assumption; first | decide | (simp; omega)) | exact rfl)) (by first | exact flat5 (by omega) (by omega) | exact flat3 (by omega) (by omega) | exact flat2 (by omega) (by omega) | exact flat6 (by omega) (by omega) | exact flat4 (by omega) (by omega) | exact flat1 (by omega) (by omega) | exact flat0 (by omega) (by omega) | exact flat7 | exact rfl) ?_
    exact wp_ir (pc := 50) dX12_pays_50 rfl (by decide) (by decide) (by rw [eT, eA]; exact updI_eq) ⟨⟨_, _, _, K, (by repeat (first | assumption | exact pv10 | exact pv11 | (apply pv_o; decide; decide) | exact upN_eq | (apply upN_ne; decide) | (apply SV_at; assumption; decide) | exact rfl)), M.ch (by repeat (first | exact SV.rf | assumption | (apply SV.up1; decide) | (apply SV.tr2; assumption; decide))) (by repeat (first | exact SA.rf | assumption | (apply SA.up1; decide) | (apply SA.tr2; assumption; decide))) (by repeat (first | assumption | exact upA_eq | (apply upA_ne; first | decide | omega) | (apply SA_at; assumption; first | decide | (simp; omega)) | exact rfl)) (by first | assumption | exact MU.tr (by assumption) (by repeat (first | assumption | exact pv10 | exact pv11 | (apply pv_o; decide; decide) | exact upN_eq | (apply upN_ne; decide) | (apply SV_at; assumption; decide) | exact rfl)) (by repeat (first | assumption | exact upA_eq | (apply upA_ne; first | decide | omega) | (apply SA_at; assumption; first | decide | (simp; omega)) | exact rfl))) (by first | assumption | exact Mrw.z (by repeat (first | assumption | exact pv10 | exact pv11 | (apply pv_o; decide; decide) | exact upN_eq | (apply upN_ne; decide) | (apply SV_at; assumption; decide) | exact rfl)) | exact Mrw.tr (by assumption) (by repeat (first | assumption | exact pv10 | exact pv11 | (apply pv_o; decide; decide) | exact upN_eq | (apply upN_ne; decide) | (apply SV_at; assumption; decide) | exact rfl)) (by repeat (first | assumption | exact upA_eq | (apply upA_ne; first | decide | omega) | (apply SA_at; assumption; first | decide | (simp; omega)) | exact rfl)))⟩, O⟩
  ·
    have hv : (if ¬ (0 ≤ x ∧ x < N ∧ 0 ≤ y ∧ y < N ∧ x ≠ y ∧ 1 ≤ z ∧ z ≤ 99) then (-1 : Int) else if ¬ (T 5 x = 0 ∧ T 5 y = 0) then -4 else if T 2 x < z then -2 else if T 1 (x * 6 + y) < z ∨ 99 < T 2 y + z then -3 else 0) = payA T N x y z := by unfold payA; revert c16; (repeat' split) <;> omega
    have hneg : ¬ 0 ≤ payA T N x y z := by rw [← hv]; exact c16
    have eT : payT T N x y z = T := if_neg (fun z => by revert hneg; unfold payA; rw [if_neg (by omega), if_neg (by omega), if_neg (by omega), if_neg (by omega)]; omega)
    rw [eT, if_neg hneg] -- go
    refine wp_iload (pc := 19) dX12_pays_19 rfl ?_
    exact wp_ir (pc := 21) dX12_pays_21 rfl (by decide) (by decide) hv ⟨⟨_, _, _, K, (by repeat (first | assumption | exact pv10 | exact pv11 | (apply pv_o; decide; decide) | exact upN_eq | (apply upN_ne; decide) | (apply SV_at; assumption; decide) | exact rfl)), M.ch (by repeat (first | exact SV.rf | assumption | (apply SV.up1; decide) | (apply SV.tr2; assumption; decide))) (by repeat (first | exact SA.rf | assumption | (apply SA.up1; decide) | (apply SA.tr2; assumption; decide))) (by repeat (first | assumption | exact upA_eq | (apply upA_ne; first | decide | omega) | (apply SA_at; assumption; first | decide | (simp; omega)) | exact rfl)) (by first | assumption | exact MU.tr (by assumption) (by repeat (first | assumption | exact pv10 | exact pv11 | (apply pv_o; decide; decide) | exact upN_eq | (apply upN_ne; decide) | (apply SV_at; assumption; decide) | exact rfl)) (by repeat (first | assumption | exact upA_eq | (apply upA_ne; first | decide | omega) | (apply SA_at; assumption; first | decide | (simp; omega)) | exact rfl))) (by first | assumption | exact Mrw.z (by repeat (first | assumption | exact pv10 | exact pv11 | (apply pv_o; decide; decide) | exact upN_eq | (apply upN_ne; decide) | (apply SV_at; assumption; decide) | exact rfl)) | exact Mrw.tr (by assumption) (by repeat (first | assumption | exact pv10 | exact pv11 | (apply pv_o; decide; decide) | exact upN_eq | (apply upN_ne; decide) | (apply SV_at; assumption; decide) | exact rfl)) (by repeat (first | assumption | exact upA_eq | (apply upA_ne; first | decide | omega) | (apply SA_at; assumption; first | decide | (simp; omega)) | exact rfl)))⟩, O⟩
/-! hours -/
def hoA (cs : List Int) (T : Nat → Int → Int) (N : Nat) (x : Int) : Int := if 0 ≤ x ∧ x ≤ 60 then dct (runT cs T N x.toNat) N else -1
def hoT (cs : List Int) (T : Nat → Int → Int) (N : Nat) (x : Int) : Nat → Int → Int := if 0 ≤ x ∧ x ≤ 60 then runT cs T N x.toNat else T
def hoR (cs : List Int) (T : Nat → Int → Int) (N : Nat) (rw : List Int) (x : Int) : List Int := if 0 ≤ x ∧ x ≤ 60 then [sm (runT cs T N x.toNat 3) N - sm (T 3) N, ((runW cs T N x.toNat : Nat) : Int)] else rw
theorem runW_le (cs : List Int) (T : Nat → Int → Int) (N : Nat) : ∀ n : Nat, runW cs T N n ≤ N * n
  | 0 => Nat.le_refl _
  | n + 1 => by
    have := runW_le cs T N n
    have h2 : wkc (runT cs T N n) N ≤ N := cnt_le _ _
    unfold runW
    rw [Nat.mul_succ]
    omega
theorem sp_Ref_hours (hM : MAt hp q th N T U tx rw rt hs ss KT) (hI : TI T N) (hH : HS T) (hb : T 7 0 < 1900000000) (rx : InR x) : Sp g MX12_hours (rm 232 0 0) [.ref q, .int (I x)] hp (Eff (.int (I (hoA (stl rt) T N x))) (fun hp2 => MAt hp2 q 0 N (hoT (stl rt) T N x) (if 1 ≤ x ∧ x ≤ 60 then (T :: U).take 12 else U) tx (hoR (stl rt) T N rw x) rt hs ss KT ∧ SO hp hp2 q (q + 25))) := by
  have hN := hI.men.2
  have hs3 := sm_r3 hI
  refine Sp_mk rfl (Nat.le_of_ble_eq_true rfl) ?_
  show wp g _ _ _ 0 0 0 [some (.ref q), some (.int (I x)), none, none] [] hp
  have O := SO.rf (hp := hp) (lo := q) (hi := q + 25)
  obtain ⟨V, A, rd, K, hth, M⟩ := hM
  have hu := M.ru (q := q)
  have M2 := M
  obtain ⟨m1, mA, mt, mr, mu, mU, mh, ms, mk⟩ := M2
  refine wp_aload_n (pc := 0) dX12_hours_0 rfl ?_
  refine wp_iconst (pc := 1) dX12_hours_1 ?_
  refine wm_put dX12_hours_2 pf_X12_85 K O (by decide) mset_6 rfl rfl (fun hp K O => ?_)
  refine wp_iload_n (pc := 5) dX12_hours_5 rfl ?_
  refine wp_iconst (pc := 6) dX12_hours_6 ?_
  refine wp_bipush (pc := 7) (y := 60) dX12_hours_7 (by decide) ?_
  refine wp_Sp (pc := 9) dX12_hours_9 cl_X12_95 (sp_Ref_in (by first | assumption | omega | (repeat (first | assumption | exact pv10 | exact pv11 | (apply pv_o; decide; decide) | exact upN_eq | (apply upN_ne; decide) | (apply SV_at; assumption; decide) | exact upA_eq | (apply upA_ne; first | decide | omega) | (apply SA_at; assumption; first | decide | (simp; omega)) | exact rfl))) (by first | assumption | omega | (repeat (first | assumption | exact pv10 | exact pv11 | (apply pv_o; decide; decide) | exact upN_eq | (apply upN_ne; decide) | (apply SV_at; assumption; decide) | exact upA_eq | (apply upA_ne; first | decide | omega) | (apply SA_at; assumption; first | decide | (simp; omega)) | exact rfl))) (by first | assumption | omega | (repeat (first | assumption | exact pv10 | exact pv11 | (apply pv_o; decide; decide) | exact upN_eq | (apply upN_ne; decide) | (apply SV_at; assumption; decide) | exact upA_eq | (apply upA_ne; first | decide | omega) | (apply SA_at; assumption; first | decide | (simp; omega)) | exact rfl)))) rfl rfl (by decide) (Nat.le_of_ble_eq_true rfl) ?_
  first | refine wp_ifb_ne (pc := 12) 17 dX12_hours_12 (by decide) (fun c12 => ?_) (fun c12 => ?_) | refine wp_if_ne (pc := 12) 17 dX12_hours_12 (by decide) (by first | omega | exact TI.i5 (by assumption) | exact TI.i3 (by assumption) | exact TI.i2 (by assumption) | exact TI.i1 (by assumption) | exact TI.i0 (by assumption) | exact TI.i4 (by assumption) | exact TI.i6 (by assumption) | exact TI.i7 (by assumption)) (fun c12 => ?_) (fun c12 => ?_)
  ·
    obtain ⟨n, rfl⟩ := Int.eq_ofNat_of_zero_le c12.1
    have e1 : hoA (stl rt) T N (n : Int) = dct (runT (stl rt) T N n) N := if_pos c12
    have e2 : hoT (stl rt) T N (n : Int) = runT (stl rt) T N n := if_pos c12
    have e3 : hoR (stl rt) T N rw (n : Int) = [sm (runT (stl rt) T N n 3) N - sm (T 3) N, ((runW (stl rt) T N n : Nat) : Int)] := if_pos c12
    have hI2 := runT_I (cs := stl rt) hI n (by omega)
    have hs4 := sm_r3 hI2
    have hw := runW_le (stl rt) T N n
    have hw2 : N * n ≤ 6 * n := Nat.mul_le_mul_right n hN
    rw [e1, e2, e3] -- go
    refine wp_iload_n (pc := 17) dX12_hours_17 rfl ?_
    refine wp_if_le (pc := 18) 29 dX12_hours_18 (by decide) (by first | omega | exact TI.i5 (by assumption) | exact TI.i3 (by assumption) | exact TI.i2 (by assumption) | exact TI.i1 (by assumption) | exact TI.i0 (by assumption) | exact TI.i4 (by assumption) | exact TI.i6 (by assumption) | exact TI.i7 (by assumption)) (fun c18 => ?_) (fun c18 => ?_)
    ·
      rw [if_neg (by omega)] -- go
      refine wp_aload_n (pc := 29) dX12_hours_29 rfl ?_
      refine wp_aload_n (pc := 30) dX12_hours_30 rfl ?_
      refine wm_get dX12_hours_31 gf_X12_9 K (by rfl) ?_
      refine wp_bipush (pc := 34) (y := 42) dX12_hours_34 (by decide) ?_
      refine wp_Vp (pc := 36) dX12_hours_36 cl_X12_220 (sp_sum3 K (by repeat (first | assumption | exact pv10 | exact pv11 | (apply pv_o; decide; decide) | exact upN_eq | (apply upN_ne; decide) | (apply SV_at; assumption; decide) | exact rfl)) hN (.inl rfl) (by repeat (first | assumption | exact upA_eq | (apply upA_ne; first | decide | omega) | (apply SA_at; assumption; first | decide | (simp; omega)) | exact rfl))) rfl rfl K.1 (by rfl) (by decide) (Nat.le_of_ble_eq_true rfl) ?_
      refine wp_istore_n (pc := 39) dX12_hours_39 (by decide) ?_
      refine wp_aload_n (pc := 40) dX12_hours_40 rfl ?_
      refine wp_aload_n (pc := 41) dX12_hours_41 rfl ?_
      refine wm_get dX12_hours_42 gf_X12_9 K (by rfl) ?_
      refine wp_iload_n (pc := 45) dX12_hours_45 rfl ?_
      refine wp_Vs (pc := 46) dX12_hours_46 cl_X12_250 (sp_Ref_goHours (n := n) K (by repeat (first | assumption | exact pv10 | exact pv11 | (apply pv_o; decide; decide) | exact upN_eq | (apply upN_ne; decide) | (apply SV_at; assumption; decide) | exact rfl)) hI hH (.inl rfl) (by repeat (first | assumption | exact upA_eq | (apply upA_ne; first | decide | omega) | (apply SA_at; assumption; first | decide | (simp; omega)) | exact rfl)) (RuA.cc hu (by repeat (first | assumption | exact pv10 | exact pv11 | (apply pv_o; decide; decide) | exact upN_eq | (apply upN_ne; decide) | (apply SV_at; assumption; decide) | exact rfl)) (by repeat (first | assumption | exact upA_eq | (apply upA_ne; first | decide | omega) | (apply SA_at; assumption; first | decide | (simp; omega)) | exact rfl)) (by repeat (first | assumption | exact upA_eq | (apply upA_ne; first | decide | omega) | (apply SA_at; assumption; first | decide | (simp; omega)) | exact rfl))) (by omega) (by omega)) rfl rfl K.1 (by rfl) (by decide) (Nat.le_of_ble_eq_true rfl) (fun hp46 e46 => ?_)
      obtain ⟨⟨V46, A46, rd46, K, sV46, sA46, hA46⟩, O1⟩ := e46; replace O := SO.tr O O1
      refine wp_istore_n (pc := 49) dX12_hours_49 (by decide) ?_
      refine wp_aload_n (pc := 50) dX12_hours_50 rfl ?_
      refine wp_iconst (pc := 51) dX12_hours_51 ?_
      refine wm_put dX12_hours_52 pf_X12_89 K O (by decide) mset_5 rfl rfl (fun hp K O => ?_)
      refine wp_aload_n (pc := 55) dX12_hours_55 rfl ?_
      refine wp_aload_n (pc := 56) dX12_hours_56 rfl ?_
      refine wp_aload_n (pc := 57) dX12_hours_57 rfl ?_
      refine wm_get dX12_hours_58 gf_X12_9 K (by rfl) ?_
      refine wp_bipush (pc := 61) (y := 42) dX12_hours_61 (by decide) ?_
      refine wp_Vp (pc := 63) dX12_hours_63 cl_X12_220 (sp_sum3 K (by repeat (first | assumption | exact pv10 | exact pv11 | (apply pv_o; decide; decide) | exact upN_eq | (apply upN_ne; decide) | (apply SV_at; assumption; decide) | exact rfl)) hN (.inl rfl) (by repeat (first | assumption | exact upA_eq | (apply upA_ne; first | decide | omega) | (apply SA_at; assumption; first | decide | (simp; omega)) | exact rfl))) rfl rfl K.1 (by rfl) (by decide) (Nat.le_of_ble_eq_true rfl) ?_
      refine wp_iload_n (pc := 66) dX12_hours_66 rfl ?_
      refine wp_isub (pc := 67) dX12_hours_67 ?_
      refine wp_i2l (pc := 68) dX12_hours_68 (by first | omega | exact TI.i5 (by assumption) | exact TI.i3 (by assumption) | exact TI.i2 (by assumption) | exact TI.i1 (by assumption) | exact TI.i0 (by assumption) | exact TI.i4 (by assumption) | exact TI.i6 (by assumption) | exact TI.i7 (by assumption)) ?_
      refine wp_Vn (pc := 69) dX12_hours_69 cl_X12_253 (sp_Ref_tellR K (by first | assumption | exact Mrw.z (by repeat (first | assumption | exact pv10 | exact pv11 | (apply pv_o; decide; decide) | exact upN_eq | (apply upN_ne; decide) | (apply SV_at; assumption; decide) | exact rfl))) (by first | decide | (simp; omega) | simp | omega)) rfl rfl K.1 (by rfl) (by decide) (Nat.le_of_ble_eq_true rfl) (fun hp69 e69 => ?_)
      obtain ⟨⟨V69, A69, K, sV69, sA69, hR69⟩, O1⟩ := e69; replace O := SO.tr O O1
      refine wp_aload_n (pc := 72) dX12_hours_72 rfl ?_
      refine wp_iload_n (pc := 73) dX12_hours_73 rfl ?_
      refine wp_i2l (pc := 74) dX12_hours_74 (by first | omega | exact TI.i5 (by assumption) | exact TI.i3 (by assumption) | exact TI.i2 (by assumption) | exact TI.i1 (by assumption) | exact TI.i0 (by assumption) | exact TI.i4 (by assumption) | exact TI.i6 (by assumption) | exact TI.i7 (by assumption)) ?_
      refine wp_Vn (pc := 75) dX12_hours_75 cl_X12_253 (sp_Ref_tellR K (by first | assumption | exact Mrw.z (by repeat (first | assumption | exact pv10 | exact pv11 | (apply pv_o; decide; decide) | exact upN_eq | (apply upN_ne; decide) | (apply SV_at; assumption; decide) | exact rfl))) (by first | decide | (simp; omega) | simp | omega)) rfl rfl K.1 (by rfl) (by decide) (Nat.le_of_ble_eq_true rfl) (fun hp75 e75 => ?_)
      obtain ⟨⟨V75, A75, K, sV75, sA75, hR75⟩, O1⟩ := e75; replace O := SO.tr O O1
      refine wp_aload_n (pc := 78) dX12_hours_78 rfl ?_
      refine wp_aload_n (pc := 79) dX12_hours_79 rfl ?_
      refine wm_get dX12_hours_80 gf_X12_9 K (by rfl) ?_
      refine wp_Vp (pc := 83) dX12_hours_83 cl_X12_235 (sp_Ref_deadOnes K (by repeat (first | assumption | exact pv10 | exact pv11 | (apply pv_o; decide; decide) | exact upN_eq | (apply upN_ne; decide) | (apply SV_at; assumption; decide) | exact rfl)) hI2 (.inl rfl) (by repeat (first | assumption | exact upA_eq | (apply upA_ne; first | decide | omega) | (apply SA_at; assumption; first | decide | (simp; omega)) | exact rfl))) rfl rfl K.1 (by rfl) (by decide) (Nat.le_of_ble_eq_true rfl) ?_
      refine wp_Sp (pc := 86) dX12_hours_86 cl_X12_257 (sp_Integer_bitCount (bits64 hN)) rfl rfl (by decide) (Nat.le_of_ble_eq_true rfl) ?_
      refine wp_topE (dct_eq hN) ?_
      exact wp_ir (pc := 89) dX12_hours_89 rfl (by decide) (by decide) (by first | rfl | omega) ⟨⟨_, _, _, K, (by repeat (first | assumption | exact pv10 | exact pv11 | (apply pv_o; decide; decide) | exact upN_eq | (apply upN_ne; decide) | (apply SV_at; assumption; decide) | exact rfl)), M.ch (by repeat (first | exact SV.rf | assumption | (apply SV.up1; decide) | (apply SV.tr2; assumption; decide))) (by repeat (first | exact SA.rf | assumption | (apply SA.up1; decide) | (apply SA.tr2; assumption; decide))) (by repeat (first | assumption | exact upA_eq | (apply upA_ne; first | decide | omega) | (apply SA_at; assumption; first | decide | (simp; omega)) | exact rfl)) (by first | assumption | exact MU.tr (by assumption) (by repeat (first | assumption | exact pv10 | exact pv11 | (apply pv_o; decide; decide) | exact upN_eq | (apply upN_ne; decide) | (apply SV_at; assumption; decide) | exact rfl)) (by repeat (first | assumption | exact upA_eq | (apply upA_ne; first | decide | omega) | (apply SA_at; assumption; first | decide | (simp; omega)) | exact rfl))) (by first | assumption | exact Mrw.z (by repeat (first | assumption | exact pv10 | exact pv11 | (apply pv_o; decide; decide) | exact upN_eq | (apply upN_ne; decide) | (apply SV_at; assumption; decide) | exact rfl)) | exact Mrw.tr (by assumption) (by repeat (first | assumption | exact pv10 | exact pv11 | (apply pv_o; decide; decide) | exact upN_eq | (apply upN_ne; decide) | (apply SV_at; assumption; decide) | exact rfl)) (by repeat (first | assumption | exact upA_eq | (apply upA_ne; first | decide | omega) | (apply SA_at; assumption; first | decide | (simp; omega)) | exact rfl)))⟩, O⟩
    ·
      rw [if_pos (by omega)] -- go
      refine wp_aload_n (pc := 21) dX12_hours_21 rfl ?_
      refine wp_aload_n (pc := 22) dX12_hours_22 rfl ?_
      refine wm_get dX12_hours_23 gf_X12_9 K (by rfl) ?_
      refine wp_Vn (pc := 26) dX12_hours_26 cl_X12_246 (sp_Ref_remember K (by first | assumption | exact MU.tr (by assumption) (by repeat (first | assumption | exact pv10 | exact pv11 | (apply pv_o; decide; decide) | exact upN_eq | (apply upN_ne; decide) | (apply SV_at; assumption; decide) | exact rfl)) (by repeat (first | assumption | exact upA_eq | (apply upA_ne; first | decide | omega) | (apply SA_at; assumption; first | decide | (simp; omega)) | exact rfl))) rfl (by decide) (by decide) (by repeat (first | assumption | exact upA_eq | (apply upA_ne; first | decide | omega) | (apply SA_at; assumption; first | decide | (simp; omega)) | exact rfl))) rfl rfl K.1 (by rfl) (by decide) (Nat.le_of_ble_eq_true rfl) (fun hp26 e26 => ?_)
      obtain ⟨⟨V26, A26, K, sV26, sA26, hU26⟩, O1⟩ := e26; replace O := SO.tr O O1
      refine wp_aload_n (pc := 29) dX12_hours_29 rfl ?_
      refine wp_aload_n (pc := 30) dX12_hours_30 rfl ?_
      refine wm_get dX12_hours_31 gf_X12_9 K (by rfl) ?_
      refine wp_bipush (pc := 34) (y := 42) dX12_hours_34 (by decide) ?_
      refine wp_Vp (pc := 36) dX12_hours_36 cl_X12_220 (sp_sum3 K (by repeat (first | assumption | exact pv10 | exact pv11 | (apply pv_o; decide; decide) | exact upN_eq | (apply upN_ne; decide) | (apply SV_at; assumption; decide) | exact rfl)) hN (.inl rfl) (by repeat (first | assumption | exact upA_eq | (apply upA_ne; first | decide | omega) | (apply SA_at; assumption; first | decide | (simp; omega)) | exact rfl))) rfl rfl K.1 (by rfl) (by decide) (Nat.le_of_ble_eq_true rfl) ?_
      refine wp_istore_n (pc := 39) dX12_hours_39 (by decide) ?_
      refine wp_aload_n (pc := 40) dX12_hours_40 rfl ?_
      refine wp_aload_n (pc := 41) dX12_hours_41 rfl ?_
      refine wm_get dX12_hours_42 gf_X12_9 K (by rfl) ?_
      refine wp_iload_n (pc := 45) dX12_hours_45 rfl ?_
      refine wp_Vs (pc := 46) dX12_hours_46 cl_X12_250 (sp_Ref_goHours (n := n) K (by repeat (first | assumption | exact pv10 | exact pv11 | (apply pv_o; decide; decide) | exact upN_eq | (apply upN_ne; decide) | (apply SV_at; assumption; decide) | exact rfl)) hI hH (.inl rfl) (by repeat (first | assumption | exact upA_eq | (apply upA_ne; first | decide | omega) | (apply SA_at; assumption; first | decide | (simp; omega)) | exact rfl)) (RuA.cc hu (by repeat (first | assumption | exact pv10 | exact pv11 | (apply pv_o; decide; decide) | exact upN_eq | (apply upN_ne; decide) | (apply SV_at; assumption; decide) | exact rfl)) (by repeat (first | assumption | exact upA_eq | (apply upA_ne; first | decide | omega) | (apply SA_at; assumption; first | decide | (simp; omega)) | exact rfl)) (by repeat (first | assumption | exact upA_eq | (apply upA_ne; first | decide | omega) | (apply SA_at; assumption; first | decide | (simp; omega)) | exact rfl))) (by omega) (by omega)) rfl rfl K.1 (by rfl) (by decide) (Nat.le_of_ble_eq_true rfl) (fun hp46 e46 => ?_)
      obtain ⟨⟨V46, A46, rd46, K, sV46, sA46, hA46⟩, O1⟩ := e46; replace O := SO.tr O O1
      refine wp_istore_n (pc := 49) dX12_hours_49 (by decide) ?_
      refine wp_aload_n (pc := 50) dX12_hours_50 rfl ?_
      refine wp_iconst (pc := 51) dX12_hours_51 ?_
      refine wm_put dX12_hours_52 pf_X12_89 K O (by decide) mset_5 rfl rfl (fun hp K O => ?_)
      refine wp_aload_n (pc := 55) dX12_hours_55 rfl ?_
      refine wp_aload_n (pc := 56) dX12_hours_56 rfl ?_
      refine wp_aload_n (pc := 57) dX12_hours_57 rfl ?_
      refine wm_get dX12_hours_58 gf_X12_9 K (by rfl) ?_
      refine wp_bipush (pc := 61) (y := 42) dX12_hours_61 (by decide) ?_
      refine wp_Vp (pc := 63) dX12_hours_63 cl_X12_220 (sp_sum3 K (by repeat (first | assumption | exact pv10 | exact pv11 | (apply pv_o; decide; decide) | exact upN_eq | (apply upN_ne; decide) | (apply SV_at; assumption; decide) | exact rfl)) hN (.inl rfl) (by repeat (first | assumption | exact upA_eq | (apply upA_ne; first | decide | omega) | (apply SA_at; assumption; first | decide | (simp; omega)) | exact rfl))) rfl rfl K.1 (by rfl) (by decide) (Nat.le_of_ble_eq_true rfl) ?_
      refine wp_iload_n (pc := 66) dX12_hours_66 rfl ?_
      refine wp_isub (pc := 67) dX12_hours_67 ?_
      refine wp_i2l (pc := 68) dX12_hours_68 (by first | omega | exact TI.i5 (by assumption) | exact TI.i3 (by assumption) | exact TI.i2 (by assumption) | exact TI.i1 (by assumption) | exact TI.i0 (by assumption) | exact TI.i4 (by assumption) | exact TI.i6 (by assumption) | exact TI.i7 (by assumption)) ?_
      refine wp_Vn (pc := 69) dX12_hours_69 cl_X12_253 (sp_Ref_tellR K (by first | assumption | exact Mrw.z (by repeat (first | assumption | exact pv10 | exact pv11 | (apply pv_o; decide; decide) | exact upN_eq | (apply upN_ne; decide) | (apply SV_at; assumption; decide) | exact rfl))) (by first | decide | (simp; omega) | simp | omega)) rfl rfl K.1 (by rfl) (by decide) (Nat.le_of_ble_eq_true rfl) (fun hp69 e69 => ?_)
      obtain ⟨⟨V69, A69, K, sV69, sA69, hR69⟩, O1⟩ := e69; replace O := SO.tr O O1
      refine wp_aload_n (pc := 72) dX12_hours_72 rfl ?_
      refine wp_iload_n (pc := 73) dX12_hours_73 rfl ?_
      refine wp_i2l (pc := 74) dX12_hours_74 (by first | omega | exact TI.i5 (by assumption) | exact TI.i3 (by assumption) | exact TI.i2 (by assumption) | exact TI.i1 (by assumption) | exact TI.i0 (by assumption) | exact TI.i4 (by assumption) | exact TI.i6 (by assumption) | exact TI.i7 (by assumption)) ?_
      refine wp_Vn (pc := 75) dX12_hours_75 cl_X12_253 (sp_Ref_tellR K (by first | assumption | exact Mrw.z (by repeat (first | assumption | exact pv10 | exact pv11 | (apply pv_o; decide; decide) | exact upN_eq | (apply upN_ne; decide) | (apply SV_at; assumption; decide) | exact rfl))) (by first | decide | (simp; omega) | simp | omega)) rfl rfl K.1 (by rfl) (by decide) (Nat.le_of_ble_eq_true rfl) (fun hp75 e75 => ?_)
      obtain ⟨⟨V75, A75, K, sV75, sA75, hR75⟩, O1⟩ := e75; replace O := SO.tr O O1
      refine wp_aload_n (pc := 78) dX12_hours_78 rfl ?_
      refine wp_aload_n (pc := 79) dX12_hours_79 rfl ?_
      refine wm_get dX12_hours_80 gf_X12_9 K (by rfl) ?_
      refine wp_Vp (pc := 83) dX12_hours_83 cl_X12_235 (sp_Ref_deadOnes K (by repeat (first | assumption | exact pv10 | exact pv11 | (apply pv_o; decide; decide) | exact upN_eq | (apply upN_ne; decide) | (apply SV_at; assumption; decide) | exact rfl)) hI2 (.inl rfl) (by repeat (first | assumption | exact upA_eq | (apply upA_ne; first | decide | omega) | (apply SA_at; assumption; first | decide | (simp; omega)) | exact rfl))) rfl rfl K.1 (by rfl) (by decide) (Nat.le_of_ble_eq_true rfl) ?_
      refine wp_Sp (pc := 86) dX12_hours_86 cl_X12_257 (sp_Integer_bitCount (bits64 hN)) rfl rfl (by decide) (Nat.le_of_ble_eq_true rfl) ?_
      refine wp_topE (dct_eq hN) ?_
      exact wp_ir (pc := 89) dX12_hours_89 rfl (by decide) (by decide) (by first | rfl | omega) ⟨⟨_, _, _, K, (by repeat (first | assumption | exact pv10 | exact pv11 | (apply pv_o; decide; decide) | exact upN_eq | (apply upN_ne; decide) | (apply SV_at; assumption; decide) | exact rfl)), M.ch (by repeat (first | exact SV.rf | assumption | (apply SV.up1; decide) | (apply SV.tr2; assumption; decide))) (by repeat (first | exact SA.rf | assumption | (apply SA.up1; decide) | (apply SA.tr2; assumption; decide))) (by repeat (first | assumption | exact upA_eq | (apply upA_ne; first | decide | omega) | (apply SA_at; assumption; first | decide | (simp; omega)) | exact rfl)) (by first | assumption | exact MU.tr (by assumption) (by repeat (first | assumption | exact pv10 | exact pv11 | (apply pv_o; decide; decide) | exact upN_eq | (apply upN_ne; decide) | (apply SV_at; assumption; decide) | exact rfl)) (by repeat (first | assumption | exact upA_eq | (apply upA_ne; first | decide | omega) | (apply SA_at; assumption; first | decide | (simp; omega)) | exact rfl))) (by first | assumption | exact Mrw.z (by repeat (first | assumption | exact pv10 | exact pv11 | (apply pv_o; decide; decide) | exact upN_eq | (apply upN_ne; decide) | (apply SV_at; assumption; decide) | exact rfl)) | exact Mrw.tr (by assumption) (by repeat (first | assumption | exact pv10 | exact pv11 | (apply pv_o; decide; decide) | exact upN_eq | (apply upN_ne; decide) | (apply SV_at; assumption; decide) | exact rfl)) (by repeat (first | assumption | exact upA_eq | (apply upA_ne; first | decide | omega) | (apply SA_at; assumption; first | decide | (simp; omega)) | exact rfl)))⟩, O⟩
  ·
    have e1 : hoA (stl rt) T N x = -1 := if_neg c12
    have e2 : hoT (stl rt) T N x = T := if_neg c12
    have e3 : hoR (stl rt) T N rw x = rw := if_neg c12
    rw [e1, e2, e3, if_neg (by omega)] -- go
    refine wp_iconst (pc := 15) dX12_hours_15 ?_
    exact wp_ir (pc := 16) dX12_hours_16 rfl (by decide) (by decide) (by first | rfl | omega) ⟨⟨_, _, _, K, (by repeat (first | assumption | exact pv10 | exact pv11 | (apply pv_o; decide; decide) | exact upN_eq | (apply upN_ne; decide) | (apply SV_at; assumption; decide) | exact rfl)), M.ch (by repeat (first | exact SV.rf | assumption | (apply SV.up1; decide) | (apply SV.tr2; assumption; decide))) (by repeat (first | exact SA.rf | assumption | (apply SA.up1; decide) | (apply SA.tr2; assumption; decide))) (by repeat (first | assumption | exact upA_eq | (apply upA_ne; first | decide | omega) | (apply SA_at; assumption; first | decide | (simp; omega)) | exact rfl)) (by first | assumption | exact MU.tr (by assumption) (by repeat (first | assumption | exact pv10 | exact pv11 | (apply pv_o; decide; decide) | exact upN_eq | (apply upN_ne; decide) | (apply SV_at; assumption; decide) | exact rfl)) (by repeat (first | assumption | exact upA_eq | (apply upA_ne; first | decide | omega) | (apply SA_at; assumption; first | decide | (simp; omega)) | exact rfl))) (by first | assumption | exact Mrw.z (by repeat (first | assumption | exact pv10 | exact pv11 | (apply pv_o; decide; decide) | exact upN_eq | (apply upN_ne; decide) | (apply SV_at; assumption; decide) | exact rfl)) | exact Mrw.tr (by assumption) (by repeat (first | assumption | exact pv10 | exact pv11 | (apply pv_o; decide; decide) | exact upN_eq | (apply upN_ne; decide) | (apply SV_at; assumption; decide) | exact rfl)) (by repeat (first | assumption | exact upA_eq | (apply upA_ne; first | decide | omega) | (apply SA_at; assumption; first | decide | (simp; omega)) | exact rfl)))⟩, O⟩
/-! undo -/
theorem lp_Ref_undo (hn : n < 12) (hV : V 19 = (n : Int)) (hF : ∀ x : Int, 0 ≤ x → x < 103 → A 8 (103 * (n : Int) + x) = f x) {Q : Option Value → Hp → Prop} (Kn : ∀ hp3, ModAt hp3 q V (upA A 1 f) rd rl → SO hp hp3 q (q + 25) → wp g MX12_undo (rm 0 0 0) Q 0 0 58 [some (.ref q), none] [] hp3) : ∀ (m i : Nat), 103 < i + m → i ≤ 103 → ∀ (hp2 : Hp) (F : Int → Int) (K : ModAt hp2 q V (upA A 1 F) rd rl) (O : SO hp hp2 q (q + 25)) (hF2 : ∀ x : Int, 0 ≤ x → x < i → F x = f x), wp g MX12_undo (rm 0 0 0) Q 0 0 26 [some (.ref q), some (.int (I (i : Int)))] [] hp2 := by
  intro m
  induction m with
  | zero => intro i h1 h2; exact absurd h1 (by omega)
  | succ m ih =>
    intro i h1 h2 hp2 F K O hF2
    refine wp_iload_n (pc := 26) dX12_undo_26 rfl ?_
    refine wp_bipush (pc := 27) (y := 103) dX12_undo_27 (by decide) ?_
    refine wp_icmp_ge (pc := 29) 58 dX12_undo_29 (by decide) (by first | omega | exact TI.i5 (by assumption) | exact TI.i3 (by assumption) | exact TI.i2 (by assumption) | exact TI.i1 (by assumption) | exact TI.i0 (by assumption) | exact TI.i4 (by assumption) | exact TI.i6 (by assumption) | exact TI.i7 (by assumption)) (by first | omega | exact TI.i5 (by assumption) | exact TI.i3 (by assumption) | exact TI.i2 (by assumption) | exact TI.i1 (by assumption) | exact TI.i0 (by assumption) | exact TI.i4 (by assumption) | exact TI.i6 (by assumption) | exact TI.i7 (by assumption)) (fun c29 => ?_) (fun c29 => ?_)
    ·
      have e : i = 103 := by omega
      subst e
      refine wm_re (j := 1) (f2 := f) K O rfl (by decide) (by decide) (fun x z1 z2 => by rw [upA_eq]; exact hF2 x z1 z2) (fun hp3 K3 O3 => ?_)
      rw [upA_upA] at K3
      refine wp_ls ?_ (Kn hp3 K3 O3)
      repeat' (first | exact LE_0 | refine LE_s rfl ?_ | refine LE_s (I_c (by first | omega | (simp only [sm]; omega))) ?_ | refine LE_s (J_c (by first | omega | exact Int.pow_succ _ _ | exact (Int.pow_succ _ _).symm | exact (Int.pow_zero _).symm | (simp only [sm]; omega))) ?_ | refine LE_n ?_)
    ·
      refine wp_aload_n (pc := 32) dX12_undo_32 rfl ?_
      refine wm_get dX12_undo_33 gf_X12_9 K (by rfl) ?_
      refine wp_iload_n (pc := 36) dX12_undo_36 rfl ?_
      refine wp_aload_n (pc := 37) dX12_undo_37 rfl ?_
      refine wm_get dX12_undo_38 gf_X12_33 K (by rfl) ?_
      refine wp_bipush (pc := 41) (y := 103) dX12_undo_41 (by decide) ?_
      refine wp_aload_n (pc := 43) dX12_undo_43 rfl ?_
      refine wm_gets dX12_undo_44 gf_X12_155 K (by rfl) (by repeat (first | assumption | exact pv10 | exact pv11 | (apply pv_o; decide; decide) | exact upN_eq | (apply upN_ne; decide) | (apply SV_at; assumption; decide) | exact rfl)) ?_
      refine wp_imul (pc := 47) dX12_undo_47 ?_
      refine wp_iload_n (pc := 48) dX12_undo_48 rfl ?_
      refine wp_iadd (pc := 49) dX12_undo_49 ?_
      refine wm_iald dX12_undo_50 K (by first | rfl | assumption) (by first | decide | omega) (by first | decide | omega) (by decide) (by omega) (by omega) (by repeat (first | assumption | exact upA_eq | (apply upA_ne; first | decide | omega) | (apply SA_at; assumption; first | decide | (simp; omega)) | exact rfl)) (hF (i : Int) (by omega) (by omega)) ?_
      refine wm_iast dX12_undo_51 K O (by first | rfl | assumption) (by first | decide | omega) (by first | decide | omega) (by decide) (by omega) (by omega) (by repeat (first | assumption | exact upA_eq | (apply upA_ne; first | decide | omega) | (apply SA_at; assumption; first | decide | (simp; omega)) | exact rfl)) rfl (fun hp K O => ?_)
      rw [upA_upA] at K
      refine wp_iinc (pc := 52) dX12_undo_52 rfl (by decide) ?_
      refine wp_goto (pc := 55) 26 dX12_undo_55 (by decide) ?_
      refine wp_ls ?_ (ih (i + 1) (by omega) (by omega) _ _ K O (fun x z1 z2 => ?_))
      · repeat' (first | exact LE_0 | refine LE_s rfl ?_ | refine LE_s (I_c (by first | omega | (simp only [sm]; omega))) ?_ | refine LE_s (J_c (by first | omega | exact Int.pow_succ _ _ | exact (Int.pow_succ _ _).symm | exact (Int.pow_zero _).symm | (simp only [sm]; omega))) ?_ | refine LE_n ?_)
      · by_cases z : x = (i : Int)
        · rw [z, updI_eq]
        · rw [updI_ne z]; exact hF2 x z1 (by omega)
theorem sp_Ref_undo (hM : MAt hp q th N T U tx rw rt hs ss KT) : Sp g MX12_undo (rm 0 0 0) [.ref q] hp (Eff (.int (I (if U.length = 0 then -1 else (U.length : Int) - 1))) (fun hp2 => MAt hp2 q 0 N (U.headD T) U.tail tx rw rt hs ss KT ∧ SO hp hp2 q (q + 25))) := by
  refine Sp_mk rfl (Nat.le_of_ble_eq_true rfl) ?_
  show wp g _ _ _ 0 0 0 [some (.ref q), none] [] hp
  have O := SO.rf (hp := hp) (lo := q) (hi := q + 25)
  obtain ⟨V, A, rd, K, hth, M⟩ := hM
  have hu := M.ru (q := q)
  have M2 := M
  obtain ⟨m1, mA, mt, mr, mu, mU, mh, ms, mk⟩ := M2
  have hU1 := mU.1
  have hU2 := mU.2.1
  refine wp_aload_n (pc := 0) dX12_undo_0 rfl ?_
  refine wp_iconst (pc := 1) dX12_undo_1 ?_
  refine wm_put dX12_undo_2 pf_X12_85 K O (by decide) mset_6 rfl rfl (fun hp K O => ?_)
  refine wp_aload_n (pc := 5) dX12_undo_5 rfl ?_
  refine wm_gets dX12_undo_6 gf_X12_155 K (by rfl) (by repeat (first | assumption | exact pv10 | exact pv11 | (apply pv_o; decide; decide) | exact upN_eq | (apply upN_ne; decide) | (apply SV_at; assumption; decide) | exact rfl)) ?_
  first | refine wp_ifb_ne (pc := 9) 14 dX12_undo_9 (by decide) (fun c9 => ?_) (fun c9 => ?_) | refine wp_if_ne (pc := 9) 14 dX12_undo_9 (by decide) (by first | omega | exact TI.i5 (by assumption) | exact TI.i3 (by assumption) | exact TI.i2 (by assumption) | exact TI.i1 (by assumption) | exact TI.i0 (by assumption) | exact TI.i4 (by assumption) | exact TI.i6 (by assumption) | exact TI.i7 (by assumption)) (fun c9 => ?_) (fun c9 => ?_)
  ·
    obtain ⟨T1, U1, rfl⟩ : ∃ T1 U1, U = T1 :: U1 := by cases U with | nil => exact absurd rfl c9 | cons a b => exact ⟨a, b, rfl⟩
    have hl : (T1 :: U1).length = U1.length + 1 := rfl
    rw [hl] at hU1 hU2
    have hU3 : MU (upN (upN V 6 0) 19 (U1.length : Int)) (upA A 1 (flat T1)) U1 := ⟨upN_eq, by omega, fun i hi x z1 z2 => by have := mU.2.2 (i + 1) (by omega) x z1 z2; rw [upA_ne (by decide) rfl]; rw [hl, show U1.length + 1 - 1 - (i + 1) = U1.length - 1 - i by omega] at this; exact this⟩
    have hF : ∀ x : Int, 0 ≤ x → x < 103 → A 8 (103 * (U1.length : Int) + x) = flat T1 x := fun x z1 z2 => mU.2.2 0 (by omega) x z1 z2
    rw [if_neg (by omega), show ((T1 :: U1).length : Int) - 1 = (U1.length : Int) by omega] -- go
    refine wp_aload_n (pc := 14) dX12_undo_14 rfl ?_
    refine wp_dup (pc := 15) dX12_undo_15 rfl ?_
    refine wm_gets dX12_undo_16 gf_X12_155 K (by rfl) (by repeat (first | assumption | exact pv10 | exact pv11 | (apply pv_o; decide; decide) | exact upN_eq | (apply upN_ne; decide) | (apply SV_at; assumption; decide) | exact rfl)) ?_
    refine wp_iconst (pc := 19) dX12_undo_19 ?_
    refine wp_isub (pc := 20) dX12_undo_20 ?_
    refine wm_put dX12_undo_21 pf_X12_155 K O (by decide) mset_19 rfl rfl (fun hp K O => ?_)
    rw [show ((U1.length + 1 : Nat) : Int) - 1 = (U1.length : Int) by omega] at K
    refine wp_iconst (pc := 24) dX12_undo_24 ?_
    refine wp_istore_n (pc := 25) dX12_undo_25 (by decide) ?_
    refine wp_ls ?_ (lp_Ref_undo (n := U1.length) (V := upN (upN V 6 0) 19 (U1.length : Int)) (A := A) (rd := rd) (f := flat T1) (by omega) upN_eq hF (fun hp3 K3 O3 => ?_) 104 0 (by omega) (by omega) _ (A 1) (by rw [upA_id rfl]; exact K) O (fun x z1 z2 => by omega))
    · repeat' (first | exact LE_0 | refine LE_s rfl ?_ | refine LE_s (I_c (by first | omega | (simp only [sm]; omega))) ?_ | refine LE_s (J_c (by first | omega | exact Int.pow_succ _ _ | exact (Int.pow_succ _ _).symm | exact (Int.pow_zero _).symm | (simp only [sm]; omega))) ?_ | refine LE_n ?_)
    · refine wp_aload_n (pc := 58) dX12_undo_58 rfl ?_
      refine wm_gets (pc := 59) dX12_undo_59 gf_X12_155 K3 (by rfl) upN_eq ?_
      exact wp_ir (pc := 62) dX12_undo_62 rfl (by decide) (by decide) rfl ⟨⟨_, _, _, K3, upN_ne (by decide) upN_eq, M.ch ((SV.rf.up (by decide)).up (by decide)) (SA.rf.up (by decide)) upA_eq hU3 (mr.tr rfl rfl)⟩, O3⟩
  ·
    have e : U = [] := List.eq_nil_of_length_eq_zero (by omega)
    subst e -- go
    refine wp_iconst (pc := 12) dX12_undo_12 ?_
    exact wp_ir (pc := 13) dX12_undo_13 rfl (by decide) (by decide) rfl ⟨⟨_, _, _, K, (by repeat (first | assumption | exact pv10 | exact pv11 | (apply pv_o; decide; decide) | exact upN_eq | (apply upN_ne; decide) | (apply SV_at; assumption; decide) | exact rfl)), M.ch (by repeat (first | exact SV.rf | assumption | (apply SV.up1; decide) | (apply SV.tr2; assumption; decide))) (by repeat (first | exact SA.rf | assumption | (apply SA.up1; decide) | (apply SA.tr2; assumption; decide))) (by repeat (first | assumption | exact upA_eq | (apply upA_ne; first | decide | omega) | (apply SA_at; assumption; first | decide | (simp; omega)) | exact rfl)) (by first | assumption | exact MU.tr (by assumption) (by repeat (first | assumption | exact pv10 | exact pv11 | (apply pv_o; decide; decide) | exact upN_eq | (apply upN_ne; decide) | (apply SV_at; assumption; decide) | exact rfl)) (by repeat (first | assumption | exact upA_eq | (apply upA_ne; first | decide | omega) | (apply SA_at; assumption; first | decide | (simp; omega)) | exact rfl))) (by first | assumption | exact Mrw.z (by repeat (first | assumption | exact pv10 | exact pv11 | (apply pv_o; decide; decide) | exact upN_eq | (apply upN_ne; decide) | (apply SV_at; assumption; decide) | exact rfl)) | exact Mrw.tr (by assumption) (by repeat (first | assumption | exact pv10 | exact pv11 | (apply pv_o; decide; decide) | exact upN_eq | (apply upN_ne; decide) | (apply SV_at; assumption; decide) | exact rfl)) (by repeat (first | assumption | exact upA_eq | (apply upA_ne; first | decide | omega) | (apply SA_at; assumption; first | decide | (simp; omega)) | exact rfl)))⟩, O⟩
/-! the text, and the rule -/
theorem sp_Ref_end (hM : MAt hp q th N T U tx rw rt hs ss KT) (rx : InR x) : Sp g MX12_end (rm 1 0 0) [.ref q, .int (I x)] hp (Eff (.int (B (0 ≤ x ∧ x ≤ tx.length))) (fun hp2 => MAt hp2 q 0 N T U (if 0 ≤ x ∧ x ≤ tx.length then tx.take x.toNat else tx) rw rt hs ss KT ∧ SO hp hp2 q (q + 25))) := by
  refine Sp_mk rfl (Nat.le_of_ble_eq_true rfl) ?_
  show wp g _ _ _ 0 0 0 [some (.ref q), some (.int (I x))] [] hp
  have O := SO.rf (hp := hp) (lo := q) (hi := q + 25)
  obtain ⟨V, A, rd, K, hth, M⟩ := hM
  have hu := M.ru (q := q)
  have M2 := M
  obtain ⟨m1, mA, mt, mr, mu, mU, mh, ms, mk⟩ := M2
  have h3 := mt.1
  have hl := mt.2.1
  refine wp_aload_n (pc := 0) dX12_end_0 rfl ?_
  refine wp_iconst (pc := 1) dX12_end_1 ?_
  refine wm_put dX12_end_2 pf_X12_85 K O (by decide) mset_6 rfl rfl (fun hp K O => ?_)
  refine wp_iload_n (pc := 5) dX12_end_5 rfl ?_
  refine wp_iconst (pc := 6) dX12_end_6 ?_
  refine wp_aload_n (pc := 7) dX12_end_7 rfl ?_
  refine wm_gets dX12_end_8 gf_X12_103 K (by rfl) (by repeat (first | assumption | exact pv10 | exact pv11 | (apply pv_o; decide; decide) | exact upN_eq | (apply upN_ne; decide) | (apply SV_at; assumption; decide) | exact rfl)) ?_
  refine wp_Sp (pc := 11) dX12_end_11 cl_X12_95 (sp_Ref_in (by first | assumption | omega | (repeat (first | assumption | exact pv10 | exact pv11 | (apply pv_o; decide; decide) | exact upN_eq | (apply upN_ne; decide) | (apply SV_at; assumption; decide) | exact upA_eq | (apply upA_ne; first | decide | omega) | (apply SA_at; assumption; first | decide | (simp; omega)) | exact rfl))) (by first | assumption | omega | (repeat (first | assumption | exact pv10 | exact pv11 | (apply pv_o; decide; decide) | exact upN_eq | (apply upN_ne; decide) | (apply SV_at; assumption; decide) | exact upA_eq | (apply upA_ne; first | decide | omega) | (apply SA_at; assumption; first | decide | (simp; omega)) | exact rfl))) (by first | assumption | omega | (repeat (first | assumption | exact pv10 | exact pv11 | (apply pv_o; decide; decide) | exact upN_eq | (apply upN_ne; decide) | (apply SV_at; assumption; decide) | exact upA_eq | (apply upA_ne; first | decide | omega) | (apply SA_at; assumption; first | decide | (simp; omega)) | exact rfl)))) rfl rfl (by decide) (Nat.le_of_ble_eq_true rfl) ?_
  first | refine wp_ifb_ne (pc := 14) 19 dX12_end_14 (by decide) (fun c14 => ?_) (fun c14 => ?_) | refine wp_if_ne (pc := 14) 19 dX12_end_14 (by decide) (by first | omega | exact TI.i5 (by assumption) | exact TI.i3 (by assumption) | exact TI.i2 (by assumption) | exact TI.i1 (by assumption) | exact TI.i0 (by assumption) | exact TI.i4 (by assumption) | exact TI.i6 (by assumption) | exact TI.i7 (by assumption)) (fun c14 => ?_) (fun c14 => ?_)
  ·
    rw [if_pos c14]
    have hlt : (tx.take x.toNat).length = x.toNat := by rw [List.length_take]; omega
    have mt2 : Mtx (upN (upN V 6 0) 3 x) A (tx.take x.toNat) := ⟨by rw [upN_eq, hlt]; omega, by omega, fun v hv => mt.2.2.1 v (List.mem_of_mem_take hv), fun i hi => by rw [mt.2.2.2 i (by omega)]; simp [List.getElem?_take, show i < x.toNat by omega]⟩ -- go
    refine wp_aload_n (pc := 19) dX12_end_19 rfl ?_
    refine wp_iload_n (pc := 20) dX12_end_20 rfl ?_
    refine wm_put dX12_end_21 pf_X12_103 K O (by decide) mset_3 rfl rfl (fun hp K O => ?_)
    refine wp_iconst (pc := 24) dX12_end_24 ?_
    first | exact wp_z1 (pc := 25) dX12_end_25 rfl (by decide) (by decide) c14 ⟨⟨_, _, _, K, upN_ne (by decide) upN_eq, ⟨m1, mA, mt2, mr.tr rfl rfl, mu.tr rfl rfl, mU.tr rfl rfl, mh.tr rfl rfl rfl, ms.tr rfl rfl rfl rfl, mk.tr rfl rfl rfl rfl⟩⟩, O⟩ | exact wp_z0 (pc := 25) dX12_end_25 rfl (by decide) (by decide) c14 ⟨⟨_, _, _, K, upN_ne (by decide) upN_eq, ⟨m1, mA, mt2, mr.tr rfl rfl, mu.tr rfl rfl, mU.tr rfl rfl, mh.tr rfl rfl rfl, ms.tr rfl rfl rfl rfl, mk.tr rfl rfl rfl rfl⟩⟩, O⟩ | exact wp_zb (pc := 25) dX12_end_25 rfl (by decide) (by decide) Iff.rfl ⟨⟨_, _, _, K, upN_ne (by decide) upN_eq, ⟨m1, mA, mt2, mr.tr rfl rfl, mu.tr rfl rfl, mU.tr rfl rfl, mh.tr rfl rfl rfl, ms.tr rfl rfl rfl rfl, mk.tr rfl rfl rfl rfl⟩⟩, O⟩
  ·
    rw [if_neg c14] -- go
    refine wp_iconst (pc := 17) dX12_end_17 ?_
    first | exact wp_z1 (pc := 18) dX12_end_18 rfl (by decide) (by decide) c14 ⟨⟨_, _, _, K, (by repeat (first | assumption | exact pv10 | exact pv11 | (apply pv_o; decide; decide) | exact upN_eq | (apply upN_ne; decide) | (apply SV_at; assumption; decide) | exact rfl)), M.qu (by repeat (first | exact SV.rf | assumption | (apply SV.up1; decide) | (apply SV.tr2; assumption; decide))) (by repeat (first | exact SA.rf | assumption | (apply SA.up1; decide) | (apply SA.tr2; assumption; decide))) (by first | assumption | exact Mrw.z (by repeat (first | assumption | exact pv10 | exact pv11 | (apply pv_o; decide; decide) | exact upN_eq | (apply upN_ne; decide) | (apply SV_at; assumption; decide) | exact rfl)) | exact Mrw.tr (by assumption) (by repeat (first | assumption | exact pv10 | exact pv11 | (apply pv_o; decide; decide) | exact upN_eq | (apply upN_ne; decide) | (apply SV_at; assumption; decide) | exact rfl)) (by repeat (first | assumption | exact upA_eq | (apply upA_ne; first | decide | omega) | (apply SA_at; assumption; first | decide | (simp; omega)) | exact rfl)))⟩, O⟩ | exact wp_z0 (pc := 18) dX12_end_18 rfl (by decide) (by decide) c14 ⟨⟨_, _, _, K, (by repeat (first | assumption | exact pv10 | exact pv11 | (apply pv_o; decide; decide) | exact upN_eq | (apply upN_ne; decide) | (apply SV_at; assumption; decide) | exact rfl)), M.qu (by repeat (first | exact SV.rf | assumption | (apply SV.up1; decide) | (apply SV.tr2; assumption; decide))) (by repeat (first | exact SA.rf | assumption | (apply SA.up1; decide) | (apply SA.tr2; assumption; decide))) (by first | assumption | exact Mrw.z (by repeat (first | assumption | exact pv10 | exact pv11 | (apply pv_o; decide; decide) | exact upN_eq | (apply upN_ne; decide) | (apply SV_at; assumption; decide) | exact rfl)) | exact Mrw.tr (by assumption) (by repeat (first | assumption | exact pv10 | exact pv11 | (apply pv_o; decide; decide) | exact upN_eq | (apply upN_ne; decide) | (apply SV_at; assumption; decide) | exact rfl)) (by repeat (first | assumption | exact upA_eq | (apply upA_ne; first | decide | omega) | (apply SA_at; assumption; first | decide | (simp; omega)) | exact rfl)))⟩, O⟩ | exact wp_zb (pc := 18) dX12_end_18 rfl (by decide) (by decide) Iff.rfl ⟨⟨_, _, _, K, (by repeat (first | assumption | exact pv10 | exact pv11 | (apply pv_o; decide; decide) | exact upN_eq | (apply upN_ne; decide) | (apply SV_at; assumption; decide) | exact rfl)), M.qu (by repeat (first | exact SV.rf | assumption | (apply SV.up1; decide) | (apply SV.tr2; assumption; decide))) (by repeat (first | exact SA.rf | assumption | (apply SA.up1; decide) | (apply SA.tr2; assumption; decide))) (by first | assumption | exact Mrw.z (by repeat (first | assumption | exact pv10 | exact pv11 | (apply pv_o; decide; decide) | exact upN_eq | (apply upN_ne; decide) | (apply SV_at; assumption; decide) | exact rfl)) | exact Mrw.tr (by assumption) (by repeat (first | assumption | exact pv10 | exact pv11 | (apply pv_o; decide; decide) | exact upN_eq | (apply upN_ne; decide) | (apply SV_at; assumption; decide) | exact rfl)) (by repeat (first | assumption | exact upA_eq | (apply upA_ne; first | decide | omega) | (apply SA_at; assumption; first | decide | (simp; omega)) | exact rfl)))⟩, O⟩
theorem sp_rule (hM : MAt hp q th N T U tx rw rt hs ss KT) : Sp g MX12_rule (rm 230 0 0) [.ref q] hp (Eff (.int (I (if rdv tx = -1 then 0 else -1 - rdv tx))) (fun hp2 => MAt hp2 q 0 N T U [] rw (if rdv tx = -1 then tx else rt) hs ss KT ∧ SO hp hp2 q (q + 25))) := by
  obtain ⟨V, A, rd, K, hth, M⟩ := hM
  obtain ⟨m1, mA, mt, mr, mu, mU, mh, ms, mk⟩ := M
  refine Sp_post (sp_Ref_rule K mt.1 mt.2.2 mt.2.1) (fun v hp3 hv => ?_)
  obtain ⟨hv, ⟨V2, A2, rd2, K2, sV, e3, e6, sA, h1, h2⟩, O⟩ := hv
  have v : ∀ k, k ∉ [3, 6, 8, 9, 10, 11, 15, 16] → V2 k = V k := sV
  have w : ∀ k, k ∉ [5] → A2 k = A k := sA
  refine ⟨hv, ⟨V2, A2, rd2, K2, e6, (v 1 (by decide)).trans m1, (w 1 (by decide)).trans mA, ⟨e3, by decide, fun _ h => (by cases h), fun _ h => (by cases h)⟩, mr.tr (v 5 (by decide)) (w 3 (by decide)), ?_, mU.tr (v 19 (by decide)) (w 8 (by decide)), mh.tr (v 28 (by decide)) (w 15 (by decide)) (w 16 (by decide)), ms.tr (v 32 (by decide)) (w 17 (by decide)) (w 18 (by decide)) (w 19 (by decide)), mk.tr (v 36 (by decide)) (w 22 (by decide)) (w 23 (by decide)) (w 24 (by decide))⟩, O⟩
  by_cases z : rdv tx = -1
  · rw [if_pos z]; exact ⟨(h1 z).1, (h1 z).2, z⟩
  · rw [if_neg z]; exact mu.tr (h2 z).1 (h2 z).2
/-! one, and between two -/
def psA (T : Nat → Int → Int) (N : Nat) (x y : Int) : Int := if y = 0 then T 2 x else if y = 1 then T 3 x else if y = 2 then T 4 x else if y = 3 then T 5 x else if y = 4 then T 6 x else if y = 5 then oby T x N else oto T x N
abbrev psO (N : Nat) (x y : Int) : Prop := 0 ≤ x ∧ x < N ∧ 0 ≤ y ∧ y ≤ 6
theorem sp_Ref_person (hM : MAt hp q th N T U tx rw rt hs ss KT) (hI : TI T N) (rx : InR x) (ry : InR y) : Sp g MX12_person (rm 2 0 0) [.ref q, .int (I x), .int (I y)] hp (Eff (.int (I (if psO N x y then psA T N x y else 0))) (fun hp2 => MAt hp2 q (if psO N x y then 0 else 1) N T U tx rw rt hs ss KT ∧ SO hp hp2 q (q + 25))) := by
  have hN := hI.men.2
  refine Sp_mk rfl (Nat.le_of_ble_eq_true rfl) ?_
  show wp g _ _ _ 0 0 0 [some (.ref q), some (.int (I x)), some (.int (I y))] [] hp
  have O := SO.rf (hp := hp) (lo := q) (hi := q + 25)
  obtain ⟨V, A, rd, K, hth, M⟩ := hM
  have hu := M.ru (q := q)
  have M2 := M
  obtain ⟨m1, mA, mt, mr, mu, mU, mh, ms, mk⟩ := M2
  refine wp_aload_n (pc := 0) dX12_person_0 rfl ?_
  refine wp_iconst (pc := 1) dX12_person_1 ?_
  refine wm_put dX12_person_2 pf_X12_85 K O (by decide) mset_6 rfl rfl (fun hp K O => ?_)
  refine wp_aload_n (pc := 5) dX12_person_5 rfl ?_
  refine wp_iload_n (pc := 6) dX12_person_6 rfl ?_
  refine wp_Vp (pc := 7) dX12_person_7 cl_X12_99 (sp_Ref_isMan (by first | assumption | omega | (repeat (first | assumption | exact pv10 | exact pv11 | (apply pv_o; decide; decide) | exact upN_eq | (apply upN_ne; decide) | (apply SV_at; assumption; decide) | exact upA_eq | (apply upA_ne; first | decide | omega) | (apply SA_at; assumption; first | decide | (simp; omega)) | exact rfl))) (by first | assumption | omega | (repeat (first | assumption | exact pv10 | exact pv11 | (apply pv_o; decide; decide) | exact upN_eq | (apply upN_ne; decide) | (apply SV_at; assumption; decide) | exact upA_eq | (apply upA_ne; first | decide | omega) | (apply SA_at; assumption; first | decide | (simp; omega)) | exact rfl))) (by first | assumption | omega | (repeat (first | assumption | exact pv10 | exact pv11 | (apply pv_o; decide; decide) | exact upN_eq | (apply upN_ne; decide) | (apply SV_at; assumption; decide) | exact upA_eq | (apply upA_ne; first | decide | omega) | (apply SA_at; assumption; first | decide | (simp; omega)) | exact rfl))) (by first | assumption | omega | (repeat (first | assumption | exact pv10 | exact pv11 | (apply pv_o; decide; decide) | exact upN_eq | (apply upN_ne; decide) | (apply SV_at; assumption; decide) | exact upA_eq | (apply upA_ne; first | decide | omega) | (apply SA_at; assumption; first | decide | (simp; omega)) | exact rfl)))) rfl rfl K.1 (by rfl) (by decide) (Nat.le_of_ble_eq_true rfl) ?_
  first | refine wp_ifb_eq (pc := 10) 23 dX12_person_10 (by decide) (fun c10 => ?_) (fun c10 => ?_) | refine wp_if_eq (pc := 10) 23 dX12_person_10 (by decide) (by first | omega | exact TI.i5 (by assumption) | exact TI.i3 (by assumption) | exact TI.i2 (by assumption) | exact TI.i1 (by assumption) | exact TI.i0 (by assumption) | exact TI.i4 (by assumption) | exact TI.i6 (by assumption) | exact TI.i7 (by assumption)) (fun c10 => ?_) (fun c10 => ?_)
  ·
    rw [if_neg (by omega), if_neg (by omega)] -- go
    refine wp_aload_n (pc := 23) dX12_person_23 rfl ?_
    refine wp_Vs (pc := 24) dX12_person_24 cl_X12_202 (sp_Ref_lost (by first | assumption | omega | (repeat (first | assumption | exact pv10 | exact pv11 | (apply pv_o; decide; decide) | exact upN_eq | (apply upN_ne; decide) | (apply SV_at; assumption; decide) | exact upA_eq | (apply upA_ne; first | decide | omega) | (apply SA_at; assumption; first | decide | (simp; omega)) | exact rfl)))) rfl rfl K.1 (by rfl) (by decide) (Nat.le_of_ble_eq_true rfl) (fun hp24 e24 => ?_)
    obtain ⟨K, O1⟩ := e24
    replace O := SO.tr O O1
    exact wp_ir (pc := 27) dX12_person_27 rfl (by decide) (by decide) (by first | rfl | omega) ⟨⟨_, _, _, K, (by repeat (first | assumption | exact pv10 | exact pv11 | (apply pv_o; decide; decide) | exact upN_eq | (apply upN_ne; decide) | (apply SV_at; assumption; decide) | exact rfl)), M.qu (by repeat (first | exact SV.rf | assumption | (apply SV.up1; decide) | (apply SV.tr2; assumption; decide))) (by repeat (first | exact SA.rf | assumption | (apply SA.up1; decide) | (apply SA.tr2; assumption; decide))) (by first | assumption | exact Mrw.z (by repeat (first | assumption | exact pv10 | exact pv11 | (apply pv_o; decide; decide) | exact upN_eq | (apply upN_ne; decide) | (apply SV_at; assumption; decide) | exact rfl)) | exact Mrw.tr (by assumption) (by repeat (first | assumption | exact pv10 | exact pv11 | (apply pv_o; decide; decide) | exact upN_eq | (apply upN_ne; decide) | (apply SV_at; assumption; decide) | exact rfl)) (by repeat (first | assumption | exact upA_eq | (apply upA_ne; first | decide | omega) | (apply SA_at; assumption; first | decide | (simp; omega)) | exact rfl)))⟩, O⟩
  ·
    refine wp_iload_n (pc := 13) dX12_person_13 rfl ?_
    refine wp_iconst (pc := 14) dX12_person_14 ?_
    refine wp_bipush (pc := 15) (y := 6) dX12_person_15 (by decide) ?_
    refine wp_Sp (pc := 17) dX12_person_17 cl_X12_95 (sp_Ref_in (by first | assumption | omega | (repeat (first | assumption | exact pv10 | exact pv11 | (apply pv_o; decide; decide) | exact upN_eq | (apply upN_ne; decide) | (apply SV_at; assumption; decide) | exact upA_eq | (apply upA_ne; first | decide | omega) | (apply SA_at; assumption; first | decide | (simp; omega)) | exact rfl))) (by first | assumption | omega | (repeat (first | assumption | exact pv10 | exact pv11 | (apply pv_o; decide; decide) | exact upN_eq | (apply upN_ne; decide) | (apply SV_at; assumption; decide) | exact upA_eq | (apply upA_ne; first | decide | omega) | (apply SA_at; assumption; first | decide | (simp; omega)) | exact rfl))) (by first | assumption | omega | (repeat (first | assumption | exact pv10 | exact pv11 | (apply pv_o; decide; decide) | exact upN_eq | (apply upN_ne; decide) | (apply SV_at; assumption; decide) | exact upA_eq | (apply upA_ne; first | decide | omega) | (apply SA_at; assumption; first | decide | (simp; omega)) | exact rfl)))) rfl rfl (by decide) (Nat.le_of_ble_eq_true rfl) ?_
    first | refine wp_ifb_ne (pc := 20) 28 dX12_person_20 (by decide) (fun c20 => ?_) (fun c20 => ?_) | refine wp_if_ne (pc := 20) 28 dX12_person_20 (by decide) (by first | omega | exact TI.i5 (by assumption) | exact TI.i3 (by assumption) | exact TI.i2 (by assumption) | exact TI.i1 (by assumption) | exact TI.i0 (by assumption) | exact TI.i4 (by assumption) | exact TI.i6 (by assumption) | exact TI.i7 (by assumption)) (fun c20 => ?_) (fun c20 => ?_)
    ·
      rw [if_pos (by omega), if_pos (by omega)] -- go
      refine wp_iload_n (pc := 28) dX12_person_28 rfl ?_
      have hy : y = 0 ∨ y = 1 ∨ y = 2 ∨ y = 3 ∨ y = 4 ∨ y = 5 ∨ y = 6 := by omega
      rcases hy with rfl | rfl | rfl | rfl | rfl | rfl | rfl
      · refine wp_tswIn (pc := 29) 68 dX12_person_29 (by decide) (by decide) (by decide) rfl (by decide) ?_
        refine wp_aload_n (pc := 68) dX12_person_68 rfl ?_
        refine wm_get dX12_person_69 gf_X12_9 K (by rfl) ?_
        refine wp_bipush (pc := 72) (y := 36) dX12_person_72 (by decide) ?_
        refine wp_iload_n (pc := 74) dX12_person_74 rfl ?_
        refine wp_iadd (pc := 75) dX12_person_75 ?_
        refine wm_iald dX12_person_76 K (by first | rfl | assumption) (by first | decide | omega) (by first | decide | omega) (by decide) (by omega) (by omega) (by repeat (first | assumption | exact upA_eq | (apply upA_ne; first | decide | omega) | (apply SA_at; assumption; first | decide | (simp; omega)) | exact rfl)) (by first | exact flat5 (by omega) (by omega) | exact flat3 (by omega) (by omega) | exact flat2 (by omega) (by omega) | exact flat6 (by omega) (by omega) | exact flat4 (by omega) (by omega) | exact flat1 (by omega) (by omega) | exact flat0 (by omega) (by omega) | exact flat7 | exact rfl) ?_
        exact wp_ir (pc := 77) dX12_person_77 rfl (by decide) (by decide) (by first | rfl | omega) ⟨⟨_, _, _, K, (by repeat (first | assumption | exact pv10 | exact pv11 | (apply pv_o; decide; decide) | exact upN_eq | (apply upN_ne; decide) | (apply SV_at; assumption; decide) | exact rfl)), M.qu (by repeat (first | exact SV.rf | assumption | (apply SV.up1; decide) | (apply SV.tr2; assumption; decide))) (by repeat (first | exact SA.rf | assumption | (apply SA.up1; decide) | (apply SA.tr2; assumption; decide))) (by first | assumption | exact Mrw.z (by repeat (first | assumption | exact pv10 | exact pv11 | (apply pv_o; decide; decide) | exact upN_eq | (apply upN_ne; decide) | (apply SV_at; assumption; decide) | exact rfl)) | exact Mrw.tr (by assumption) (by repeat (first | assumption | exact pv10 | exact pv11 | (apply pv_o; decide; decide) | exact upN_eq | (apply upN_ne; decide) | (apply SV_at; assumption; decide) | exact rfl)) (by repeat (first | assumption | exact upA_eq | (apply upA_ne; first | decide | omega) | (apply SA_at; assumption; first | decide | (simp; omega)) | exact rfl)))⟩, O⟩
      · refine wp_tswIn (pc := 29) 78 dX12_person_29 (by decide) (by decide) (by decide) rfl (by decide) ?_
        refine wp_aload_n (pc := 78) dX12_person_78 rfl ?_
        refine wm_get dX12_person_79 gf_X12_9 K (by rfl) ?_
        refine wp_bipush (pc := 82) (y := 42) dX12_person_82 (by decide) ?_
        refine wp_iload_n (pc := 84) dX12_person_84 rfl ?_
        refine wp_iadd (pc := 85) dX12_person_85 ?_
        refine wm_iald dX12_person_86 K (by first | rfl | assumption) (by first | decide | omega) (by first | decide | omega) (by decide) (by omega) (by omega) (by repeat (first | assumption | exact upA_eq | (apply upA_ne; first | decide | omega) | (apply SA_at; assumption; first | decide | (simp; omega)) | exact rfl)) (by first | exact flat5 (by omega) (by omega) | exact flat3 (by omega) (by omega) | exact flat2 (by omega) (by omega) | exact flat6 (by omega) (by omega) | exact flat4 (by omega) (by omega) | exact flat1 (by omega) (by omega) | exact flat0 (by omega) (by omega) | exact flat7 | exact rfl) ?_
        exact wp_ir (pc := 87) dX12_person_87 rfl (by decide) (by decide) (by first | rfl | omega) ⟨⟨_, _, _, K, (by repeat (first | assumption | exact pv10 | exact pv11 | (apply pv_o; decide; decide) | exact upN_eq | (apply upN_ne; decide) | (apply SV_at; assumption; decide) | exact rfl)), M.qu (by repeat (first | exact SV.rf | assumption | (apply SV.up1; decide) | (apply SV.tr2; assumption; decide))) (by repeat (first | exact SA.rf | assumption | (apply SA.up1; decide) | (apply SA.tr2; assumption; decide))) (by first | assumption | exact Mrw.z (by repeat (first | assumption | exact pv10 | exact pv11 | (apply pv_o; decide; decide) | exact upN_eq | (apply upN_ne; decide) | (apply SV_at; assumption; decide) | exact rfl)) | exact Mrw.tr (by assumption) (by repeat (first | assumption | exact pv10 | exact pv11 | (apply pv_o; decide; decide) | exact upN_eq | (apply upN_ne; decide) | (apply SV_at; assumption; decide) | exact rfl)) (by repeat (first | assumption | exact upA_eq | (apply upA_ne; first | decide | omega) | (apply SA_at; assumption; first | decide | (simp; omega)) | exact rfl)))⟩, O⟩
      · refine wp_tswIn (pc := 29) 88 dX12_person_29 (by decide) (by decide) (by decide) rfl (by decide) ?_
        refine wp_aload_n (pc := 88) dX12_person_88 rfl ?_
        refine wm_get dX12_person_89 gf_X12_9 K (by rfl) ?_
        refine wp_bipush (pc := 92) (y := 48) dX12_person_92 (by decide) ?_
        refine wp_iload_n (pc := 94) dX12_person_94 rfl ?_
        refine wp_iadd (pc := 95) dX12_person_95 ?_
        refine wm_iald dX12_person_96 K (by first | rfl | assumption) (by first | decide | omega) (by first | decide | omega) (by decide) (by omega) (by omega) (by repeat (first | assumption | exact upA_eq | (apply upA_ne; first | decide | omega) | (apply SA_at; assumption; first | decide | (simp; omega)) | exact rfl)) (by first | exact flat5 (by omega) (by omega) | exact flat3 (by omega) (by omega) | exact flat2 (by omega) (by omega) | exact flat6 (by omega) (by omega) | exact flat4 (by omega) (by omega) | exact flat1 (by omega) (by omega) | exact flat0 (by omega) (by omega) | exact flat7 | exact rfl) ?_
        exact wp_ir (pc := 97) dX12_person_97 rfl (by decide) (by decide) (by first | rfl | omega) ⟨⟨_, _, _, K, (by repeat (first | assumption | exact pv10 | exact pv11 | (apply pv_o; decide; decide) | exact upN_eq | (apply upN_ne; decide) | (apply SV_at; assumption; decide) | exact rfl)), M.qu (by repeat (first | exact SV.rf | assumption | (apply SV.up1; decide) | (apply SV.tr2; assumption; decide))) (by repeat (first | exact SA.rf | assumption | (apply SA.up1; decide) | (apply SA.tr2; assumption; decide))) (by first | assumption | exact Mrw.z (by repeat (first | assumption | exact pv10 | exact pv11 | (apply pv_o; decide; decide) | exact upN_eq | (apply upN_ne; decide) | (apply SV_at; assumption; decide) | exact rfl)) | exact Mrw.tr (by assumption) (by repeat (first | assumption | exact pv10 | exact pv11 | (apply pv_o; decide; decide) | exact upN_eq | (apply upN_ne; decide) | (apply SV_at; assumption; decide) | exact rfl)) (by repeat (first | assumption | exact upA_eq | (apply upA_ne; first | decide | omega) | (apply SA_at; assumption; first | decide | (simp; omega)) | exact rfl)))⟩, O⟩
      · refine wp_tswIn (pc := 29) 98 dX12_person_29 (by decide) (by decide) (by decide) rfl (by decide) ?_
        refine wp_aload_n (pc := 98) dX12_person_98 rfl ?_
        refine wm_get dX12_person_99 gf_X12_9 K (by rfl) ?_
        refine wp_bipush (pc := 102) (y := 54) dX12_person_102 (by decide) ?_
        refine wp_iload_n (pc := 104) dX12_person_104 rfl ?_
        refine wp_iadd (pc := 105) dX12_person_105 ?_
        refine wm_iald dX12_person_106 K (by first | rfl | assumption) (by first | decide | omega) (by first | decide | omega) (by decide) (by omega) (by omega) (by repeat (first | assumption | exact upA_eq | (apply upA_ne; first | decide | omega) | (apply SA_at; assumption; first | decide | (simp; omega)) | exact rfl)) (by first | exact flat5 (by omega) (by omega) | exact flat3 (by omega) (by omega) | exact flat2 (by omega) (by omega) | exact flat6 (by omega) (by omega) | exact flat4 (by omega) (by omega) | exact flat1 (by omega) (by omega) | exact flat0 (by omega) (by omega) | exact flat7 | exact rfl) ?_
        exact wp_ir (pc := 107) dX12_person_107 rfl (by decide) (by decide) (by first | rfl | omega) ⟨⟨_, _, _, K, (by repeat (first | assumption | exact pv10 | exact pv11 | (apply pv_o; decide; decide) | exact upN_eq | (apply upN_ne; decide) | (apply SV_at; assumption; decide) | exact rfl)), M.qu (by repeat (first | exact SV.rf | assumption | (apply SV.up1; decide) | (apply SV.tr2; assumption; decide))) (by repeat (first | exact SA.rf | assumption | (apply SA.up1; decide) | (apply SA.tr2; assumption; decide))) (by first | assumption | exact Mrw.z (by repeat (first | assumption | exact pv10 | exact pv11 | (apply pv_o; decide; decide) | exact upN_eq | (apply upN_ne; decide) | (apply SV_at; assumption; decide) | exact rfl)) | exact Mrw.tr (by assumption) (by repeat (first | assumption | exact pv10 | exact pv11 | (apply pv_o; decide; decide) | exact upN_eq | (apply upN_ne; decide) | (apply SV_at; assumption; decide) | exact rfl)) (by repeat (first | assumption | exact upA_eq | (apply upA_ne; first | decide | omega) | (apply SA_at; assumption; first | decide | (simp; omega)) | exact rfl)))⟩, O⟩
      · refine wp_tswIn (pc := 29) 108 dX12_person_29 (by decide) (by decide) (by decide) rfl (by decide) ?_
        refine wp_aload_n (pc := 108) dX12_person_108 rfl ?_
        refine wm_get dX12_person_109 gf_X12_9 K (by rfl) ?_
        refine wp_bipush (pc := 112) (y := 60) dX12_person_112 (by decide) ?_
        refine wp_iload_n (pc := 114) dX12_person_114 rfl ?_
        refine wp_iadd (pc := 115) dX12_person_115 ?_
        refine wm_iald dX12_person_116 K (by first | rfl | assumption) (by first | decide | omega) (by first | decide | omega) (by decide) (by omega) (by omega) (by repeat (first | assumption | exact upA_eq | (apply upA_ne; first | decide | omega) | (apply SA_at; assumption; first | decide | (simp; omega)) | exact rfl)) (by first | exact flat5 (by omega) (by omega) | exact flat3 (by omega) (by omega) | exact flat2 (by omega) (by omega) | exact flat6 (by omega) (by omega) | exact flat4 (by omega) (by omega) | exact flat1 (by omega) (by omega) | exact flat0 (by omega) (by omega) | exact flat7 | exact rfl) ?_
        exact wp_ir (pc := 117) dX12_person_117 rfl (by decide) (by decide) (by first | rfl | omega) ⟨⟨_, _, _, K, (by repeat (first | assumption | exact pv10 | exact pv11 | (apply pv_o; decide; decide) | exact upN_eq | (apply upN_ne; decide) | (apply SV_at; assumption; decide) | exact rfl)), M.qu (by repeat (first | exact SV.rf | assumption | (apply SV.up1; decide) | (apply SV.tr2; assumption; decide))) (by repeat (first | exact SA.rf | assumption | (apply SA.up1; decide) | (apply SA.tr2; assumption; decide))) (by first | assumption | exact Mrw.z (by repeat (first | assumption | exact pv10 | exact pv11 | (apply pv_o; decide; decide) | exact upN_eq | (apply upN_ne; decide) | (apply SV_at; assumption; decide) | exact rfl)) | exact Mrw.tr (by assumption) (by repeat (first | assumption | exact pv10 | exact pv11 | (apply pv_o; decide; decide) | exact upN_eq | (apply upN_ne; decide) | (apply SV_at; assumption; decide) | exact rfl)) (by repeat (first | assumption | exact upA_eq | (apply upA_ne; first | decide | omega) | (apply SA_at; assumption; first | decide | (simp; omega)) | exact rfl)))⟩, O⟩
      · refine wp_tswIn (pc := 29) 118 dX12_person_29 (by decide) (by decide) (by decide) rfl (by decide) ?_
        refine wp_aload_n (pc := 118) dX12_person_118 rfl ?_
        refine wp_aload_n (pc := 119) dX12_person_119 rfl ?_
        refine wm_get dX12_person_120 gf_X12_9 K (by rfl) ?_
        refine wp_iload_n (pc := 123) dX12_person_123 rfl ?_
        refine wp_Vp (pc := 124) dX12_person_124 cl_X12_205 (sp_Ref_owesAll K (by repeat (first | assumption | exact pv10 | exact pv11 | (apply pv_o; decide; decide) | exact upN_eq | (apply upN_ne; decide) | (apply SV_at; assumption; decide) | exact rfl)) hN (.inl rfl) (by repeat (first | assumption | exact upA_eq | (apply upA_ne; first | decide | omega) | (apply SA_at; assumption; first | decide | (simp; omega)) | exact rfl)) (by omega)) rfl rfl K.1 (by rfl) (by decide) (Nat.le_of_ble_eq_true rfl) ?_
        exact wp_ir (pc := 127) dX12_person_127 rfl (by decide) (by decide) (by first | rfl | omega) ⟨⟨_, _, _, K, (by repeat (first | assumption | exact pv10 | exact pv11 | (apply pv_o; decide; decide) | exact upN_eq | (apply upN_ne; decide) | (apply SV_at; assumption; decide) | exact rfl)), M.qu (by repeat (first | exact SV.rf | assumption | (apply SV.up1; decide) | (apply SV.tr2; assumption; decide))) (by repeat (first | exact SA.rf | assumption | (apply SA.up1; decide) | (apply SA.tr2; assumption; decide))) (by first | assumption | exact Mrw.z (by repeat (first | assumption | exact pv10 | exact pv11 | (apply pv_o; decide; decide) | exact upN_eq | (apply upN_ne; decide) | (apply SV_at; assumption; decide) | exact rfl)) | exact Mrw.tr (by assumption) (by repeat (first | assumption | exact pv10 | exact pv11 | (apply pv_o; decide; decide) | exact upN_eq | (apply upN_ne; decide) | (apply SV_at; assumption; decide) | exact rfl)) (by repeat (first | assumption | exact upA_eq | (apply upA_ne; first | decide | omega) | (apply SA_at; assumption; first | decide | (simp; omega)) | exact rfl)))⟩, O⟩
      · refine wp_tswOut (pc := 29) 128 dX12_person_29 (by decide) (by decide) (by decide) ?_
        refine wp_aload_n (pc := 128) dX12_person_128 rfl ?_
        refine wp_aload_n (pc := 129) dX12_person_129 rfl ?_
        refine wm_get dX12_person_130 gf_X12_9 K (by rfl) ?_
        refine wp_iload_n (pc := 133) dX12_person_133 rfl ?_
        refine wp_Vp (pc := 134) dX12_person_134 cl_X12_209 (sp_Ref_owedAll K (by repeat (first | assumption | exact pv10 | exact pv11 | (apply pv_o; decide; decide) | exact upN_eq | (apply upN_ne; decide) | (apply SV_at; assumption; decide) | exact rfl)) hN (.inl rfl) (by repeat (first | assumption | exact upA_eq | (apply upA_ne; first | decide | omega) | (apply SA_at; assumption; first | decide | (simp; omega)) | exact rfl)) (by omega)) rfl rfl K.1 (by rfl) (by decide) (Nat.le_of_ble_eq_true rfl) ?_
        exact wp_ir (pc := 137) dX12_person_137 rfl (by decide) (by decide) (by first | rfl | omega) ⟨⟨_, _, _, K, (by repeat (first | assumption | exact pv10 | exact pv11 | (apply pv_o; decide; decide) | exact upN_eq | (apply upN_ne; decide) | (apply SV_at; assumption; decide) | exact rfl)), M.qu (by repeat (first | exact SV.rf | assumption | (apply SV.up1; decide) | (apply SV.tr2; assumption; decide))) (by repeat (first | exact SA.rf | assumption | (apply SA.up1; decide) | (apply SA.tr2; assumption; decide))) (by first | assumption | exact Mrw.z (by repeat (first | assumption | exact pv10 | exact pv11 | (apply pv_o; decide; decide) | exact upN_eq | (apply upN_ne; decide) | (apply SV_at; assumption; decide) | exact rfl)) | exact Mrw.tr (by assumption) (by repeat (first | assumption | exact pv10 | exact pv11 | (apply pv_o; decide; decide) | exact upN_eq | (apply upN_ne; decide) | (apply SV_at; assumption; decide) | exact rfl)) (by repeat (first | assumption | exact upA_eq | (apply upA_ne; first | decide | omega) | (apply SA_at; assumption; first | decide | (simp; omega)) | exact rfl)))⟩, O⟩
    ·
      rw [if_neg (by omega), if_neg (by omega)] -- go
      refine wp_aload_n (pc := 23) dX12_person_23 rfl ?_
      refine wp_Vs (pc := 24) dX12_person_24 cl_X12_202 (sp_Ref_lost (by first | assumption | omega | (repeat (first | assumption | exact pv10 | exact pv11 | (apply pv_o; decide; decide) | exact upN_eq | (apply upN_ne; decide) | (apply SV_at; assumption; decide) | exact upA_eq | (apply upA_ne; first | decide | omega) | (apply SA_at; assumption; first | decide | (simp; omega)) | exact rfl)))) rfl rfl K.1 (by rfl) (by decide) (Nat.le_of_ble_eq_true rfl) (fun hp24 e24 => ?_)
      obtain ⟨K, O1⟩ := e24
      replace O := SO.tr O O1
      exact wp_ir (pc := 27) dX12_person_27 rfl (by decide) (by decide) (by first | rfl | omega) ⟨⟨_, _, _, K, (by repeat (first | assumption | exact pv10 | exact pv11 | (apply pv_o; decide; decide) | exact upN_eq | (apply upN_ne; decide) | (apply SV_at; assumption; decide) | exact rfl)), M.qu (by repeat (first | exact SV.rf | assumption | (apply SV.up1; decide) | (apply SV.tr2; assumption; decide))) (by repeat (first | exact SA.rf | assumption | (apply SA.up1; decide) | (apply SA.tr2; assumption; decide))) (by first | assumption | exact Mrw.z (by repeat (first | assumption | exact pv10 | exact pv11 | (apply pv_o; decide; decide) | exact upN_eq | (apply upN_ne; decide) | (apply SV_at; assumption; decide) | exact rfl)) | exact Mrw.tr (by assumption) (by repeat (first | assumption | exact pv10 | exact pv11 | (apply pv_o; decide; decide) | exact upN_eq | (apply upN_ne; decide) | (apply SV_at; assumption; decide) | exact rfl)) (by repeat (first | assumption | exact upA_eq | (apply upA_ne; first | decide | omega) | (apply SA_at; assumption; first | decide | (simp; omega)) | exact rfl)))⟩, O⟩
end MJ

