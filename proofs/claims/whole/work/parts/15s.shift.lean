/-! the reference: what was listened to -/
section MS_
variable {g : GT} {hp hp0 : Hp} {q N n a b s k p : Nat} {V V2 V3 : Nat → Int} {A A2 A3 : Nat → Int → Int} {rd rl : Value} {i j x v c y z w th o d : Int} {T T2 : Nat → Int → Int} {l t cs tx rw rw2 rt : List Int} {G f F D : Int → Int} {U U2 : List (Nat → Int → Int)} {hs : List (Int × Int)} {ss : List (Int × Int × Int)} {KT : Nat → Option (Nat → Int → Int)} {L L2 : List Nat}
theorem Mss.ad (h : Mss V A ss) (hl : ss.length < 12) (h32 : V2 32 = (ss.length : Int) + 1) (h17 : A2 17 = updI (A 17) (ss.length : Int) x) (h18 : A2 18 = updI (A 18) (ss.length : Int) y) (h19 : A2 19 = updI (A 19) (ss.length : Int) z) : Mss V2 A2 (ss ++ [(x, y, z)]) := by
  refine ⟨by rw [h32, List.length_append]; rfl, by rw [List.length_append]; exact hl, fun i hi => ?_⟩
  rw [h17, h18, h19, getD_ap hi]
  rw [List.length_append] at hi
  have hi' : i < ss.length + 1 := hi
  by_cases z : i = ss.length
  · rw [if_pos z, z, updI_eq, updI_eq, updI_eq]; exact ⟨rfl, rfl, rfl⟩
  · rw [if_neg z, updI_ne (by omega), updI_ne (by omega), updI_ne (by omega)]; exact h.2.2 i (by omega)
abbrev liO (ss : List (Int × Int × Int)) (x y z : Int) : Prop := (0 ≤ x ∧ x ≤ 9) ∧ (y = 0 ∨ y = 1) ∧ (0 ≤ z ∧ z ≤ 9) ∧ ss.length < 12
theorem sp_Ref_listens (hM : MAt hp q th N T U tx rw rt hs ss KT) (rx : InR x) (ry : InR y) (rz : InR z) : Sp g MX12_listens (rm 1 0 0) [.ref q, .int (I x), .int (I y), .int (I z)] hp (Eff (.int (I (if liO ss x y z then (ss.length : Int) + 1 else -1))) (fun hp2 => MAt hp2 q 0 N T U tx rw rt hs (if liO ss x y z then ss ++ [(x, y, z)] else ss) KT ∧ SO hp hp2 q (q + 25))) := by
  refine Sp_mk rfl (Nat.le_of_ble_eq_true rfl) ?_
  show wp g _ _ _ 0 0 0 [some (.ref q), some (.int (I x)), some (.int (I y)), some (.int (I z))] [] hp
  have O := SO.rf (hp := hp) (lo := q) (hi := q + 25)
  obtain ⟨V, A, rd, K, hth, M⟩ := hM
  have hu := M.ru (q := q)
  have M2 := M
  obtain ⟨m1, mA, mt, mr, mu, mU, mh, ms, mk⟩ := M2
  have e32 := ms.1
  have e12 := ms.2.1
  refine wp_aload_n (pc := 0) dX12_listens_0 rfl ?_
  refine wp_iconst (pc := 1) dX12_listens_1 ?_
  refine wm_put dX12_listens_2 pf_X12_85 K O (by decide) mset_6 rfl rfl (fun hp K O => ?_)
  refine wp_iload_n (pc := 5) dX12_listens_5 rfl ?_
  refine wp_iconst (pc := 6) dX12_listens_6 ?_
  refine wp_bipush (pc := 7) (y := 9) dX12_listens_7 (by decide) ?_
  refine wp_Sp (pc := 9) dX12_listens_9 cl_X12_95 (sp_Ref_in (by first | assumption | omega | (repeat (first | assumption | exact pv10 | exact pv11 | (apply pv_o; decide; decide) | exact upN_eq | (apply upN_ne; decide) | (apply SV_at; assumption; decide) | exact upA_eq | (apply upA_ne; first | decide | omega) | (apply SA_at; assumption; first | decide | (simp; omega)) | exact rfl))) (by first | assumption | omega | (repeat (first | assumption | exact pv10 | exact pv11 | (apply pv_o; decide; decide) | exact upN_eq | (apply upN_ne; decide) | (apply SV_at; assumption; decide) | exact upA_eq | (apply upA_ne; first | decide | omega) | (apply SA_at; assumption; first | decide | (simp; omega)) | exact rfl))) (by first | assumption | omega | (repeat (first | assumption | exact pv10 | exact pv11 | (apply pv_o; decide; decide) | exact upN_eq | (apply upN_ne; decide) | (apply SV_at; assumption; decide) | exact upA_eq | (apply upA_ne; first | decide | omega) | (apply SA_at; assumption; first | decide | (simp; omega)) | exact rfl)))) rfl rfl (by decide) (Nat.le_of_ble_eq_true rfl) ?_
  first | refine wp_ifb_eq (pc := 12) 43 dX12_listens_12 (by decide) (fun c12 => ?_) (fun c12 => ?_) | refine wp_if_eq (pc := 12) 43 dX12_listens_12 (by decide) (by first | omega | exact TI.i5 (by assumption) | exact TI.i3 (by assumption) | exact TI.i2 (by assumption) | exact TI.i1 (by assumption) | exact TI.i0 (by assumption) | exact TI.i4 (by assumption) | exact TI.i6 (by assumption) | exact TI.i7 (by assumption)) (fun c12 => ?_) (fun c12 => ?_)
  ·
    rw [if_neg (show ¬ liO ss x y z by omega), if_neg (show ¬ liO ss x y z by omega)] -- go
    refine wp_iconst (pc := 43) dX12_listens_43 ?_
    exact wp_ir (pc := 44) dX12_listens_44 rfl (by decide) (by decide) (by first | rfl | omega) ⟨⟨_, _, _, K, (by repeat (first | assumption | exact pv10 | exact pv11 | (apply pv_o; decide; decide) | exact upN_eq | (apply upN_ne; decide) | (apply SV_at; assumption; decide) | exact rfl)), M.qu (by repeat (first | exact SV.rf | assumption | (apply SV.up1; decide) | (apply SV.tr2; assumption; decide))) (by repeat (first | exact SA.rf | assumption | (apply SA.up1; decide) | (apply SA.tr2; assumption; decide))) (by first | assumption | exact Mrw.z (by repeat (first | assumption | exact pv10 | exact pv11 | (apply pv_o; decide; decide) | exact upN_eq | (apply upN_ne; decide) | (apply SV_at; assumption; decide) | exact rfl)) | exact Mrw.tr (by assumption) (by repeat (first | assumption | exact pv10 | exact pv11 | (apply pv_o; decide; decide) | exact upN_eq | (apply upN_ne; decide) | (apply SV_at; assumption; decide) | exact rfl)) (by repeat (first | assumption | exact upA_eq | (apply upA_ne; first | decide | omega) | (apply SA_at; assumption; first | decide | (simp; omega)) | exact rfl)))⟩, O⟩
  ·
    refine wp_iload_n (pc := 15) dX12_listens_15 rfl ?_
    refine wp_iconst (pc := 16) dX12_listens_16 ?_
    refine wp_iconst (pc := 17) dX12_listens_17 ?_
    refine wp_Sp (pc := 18) dX12_listens_18 cl_X12_95 (sp_Ref_in (by first | assumption | omega | (repeat (first | assumption | exact pv10 | exact pv11 | (apply pv_o; decide; decide) | exact upN_eq | (apply upN_ne; decide) | (apply SV_at; assumption; decide) | exact upA_eq | (apply upA_ne; first | decide | omega) | (apply SA_at; assumption; first | decide | (simp; omega)) | exact rfl))) (by first | assumption | omega | (repeat (first | assumption | exact pv10 | exact pv11 | (apply pv_o; decide; decide) | exact upN_eq | (apply upN_ne; decide) | (apply SV_at; assumption; decide) | exact upA_eq | (apply upA_ne; first | decide | omega) | (apply SA_at; assumption; first | decide | (simp; omega)) | exact rfl))) (by first | assumption | omega | (repeat (first | assumption | exact pv10 | exact pv11 | (apply pv_o; decide; decide) | exact upN_eq | (apply upN_ne; decide) | (apply SV_at; assumption; decide) | exact upA_eq | (apply upA_ne; first | decide | omega) | (apply SA_at; assumption; first | decide | (simp; omega)) | exact rfl)))) rfl rfl (by decide) (Nat.le_of_ble_eq_true rfl) ?_
    first | refine wp_ifb_eq (pc := 21) 43 dX12_listens_21 (by decide) (fun c21 => ?_) (fun c21 => ?_) | refine wp_if_eq (pc := 21) 43 dX12_listens_21 (by decide) (by first | omega | exact TI.i5 (by assumption) | exact TI.i3 (by assumption) | exact TI.i2 (by assumption) | exact TI.i1 (by assumption) | exact TI.i0 (by assumption) | exact TI.i4 (by assumption) | exact TI.i6 (by assumption) | exact TI.i7 (by assumption)) (fun c21 => ?_) (fun c21 => ?_)
    ·
      rw [if_neg (show ¬ liO ss x y z by omega), if_neg (show ¬ liO ss x y z by omega)] -- go
      refine wp_iconst (pc := 43) dX12_listens_43 ?_
      exact wp_ir (pc := 44) dX12_listens_44 rfl (by decide) (by decide) (by first | rfl | omega) ⟨⟨_, _, _, K, (by repeat (first | assumption | exact pv10 | exact pv11 | (apply pv_o; decide; decide) | exact upN_eq | (apply upN_ne; decide) | (apply SV_at; assumption; decide) | exact rfl)), M.qu (by repeat (first | exact SV.rf | assumption | (apply SV.up1; decide) | (apply SV.tr2; assumption; decide))) (by repeat (first | exact SA.rf | assumption | (apply SA.up1; decide) | (apply SA.tr2; assumption; decide))) (by first | assumption | exact Mrw.z (by repeat (first | assumption | exact pv10 | exact pv11 | (apply pv_o; decide; decide) | exact upN_eq | (apply upN_ne; decide) | (apply SV_at; assumption; decide) | exact rfl)) | exact Mrw.tr (by assumption) (by repeat (first | assumption | exact pv10 | exact pv11 | (apply pv_o; decide; decide) | exact upN_eq | (apply upN_ne; decide) | (apply SV_at; assumption; decide) | exact rfl)) (by repeat (first | assumption | exact upA_eq | (apply upA_ne; first | decide | omega) | (apply SA_at; assumption; first | decide | (simp; omega)) | exact rfl)))⟩, O⟩
    ·
      refine wp_iload_n (pc := 24) dX12_listens_24 rfl ?_
      refine wp_iconst (pc := 25) dX12_listens_25 ?_
      refine wp_bipush (pc := 26) (y := 9) dX12_listens_26 (by decide) ?_
      refine wp_Sp (pc := 28) dX12_listens_28 cl_X12_95 (sp_Ref_in (by first | assumption | omega | (repeat (first | assumption | exact pv10 | exact pv11 | (apply pv_o; decide; decide) | exact upN_eq | (apply upN_ne; decide) | (apply SV_at; assumption; decide) | exact upA_eq | (apply upA_ne; first | decide | omega) | (apply SA_at; assumption; first | decide | (simp; omega)) | exact rfl))) (by first | assumption | omega | (repeat (first | assumption | exact pv10 | exact pv11 | (apply pv_o; decide; decide) | exact upN_eq | (apply upN_ne; decide) | (apply SV_at; assumption; decide) | exact upA_eq | (apply upA_ne; first | decide | omega) | (apply SA_at; assumption; first | decide | (simp; omega)) | exact rfl))) (by first | assumption | omega | (repeat (first | assumption | exact pv10 | exact pv11 | (apply pv_o; decide; decide) | exact upN_eq | (apply upN_ne; decide) | (apply SV_at; assumption; decide) | exact upA_eq | (apply upA_ne; first | decide | omega) | (apply SA_at; assumption; first | decide | (simp; omega)) | exact rfl)))) rfl rfl (by decide) (Nat.le_of_ble_eq_true rfl) ?_
      first | refine wp_ifb_eq (pc := 31) 43 dX12_listens_31 (by decide) (fun c31 => ?_) (fun c31 => ?_) | refine wp_if_eq (pc := 31) 43 dX12_listens_31 (by decide) (by first | omega | exact TI.i5 (by assumption) | exact TI.i3 (by assumption) | exact TI.i2 (by assumption) | exact TI.i1 (by assumption) | exact TI.i0 (by assumption) | exact TI.i4 (by assumption) | exact TI.i6 (by assumption) | exact TI.i7 (by assumption)) (fun c31 => ?_) (fun c31 => ?_)
      ·
        rw [if_neg (show ¬ liO ss x y z by omega), if_neg (show ¬ liO ss x y z by omega)] -- go
        refine wp_iconst (pc := 43) dX12_listens_43 ?_
        exact wp_ir (pc := 44) dX12_listens_44 rfl (by decide) (by decide) (by first | rfl | omega) ⟨⟨_, _, _, K, (by repeat (first | assumption | exact pv10 | exact pv11 | (apply pv_o; decide; decide) | exact upN_eq | (apply upN_ne; decide) | (apply SV_at; assumption; decide) | exact rfl)), M.qu (by repeat (first | exact SV.rf | assumption | (apply SV.up1; decide) | (apply SV.tr2; assumption; decide))) (by repeat (first | exact SA.rf | assumption | (apply SA.up1; decide) | (apply SA.tr2; assumption; decide))) (by first | assumption | exact Mrw.z (by repeat (first | assumption | exact pv10 | exact pv11 | (apply pv_o; decide; decide) | exact upN_eq | (apply upN_ne; decide) | (apply SV_at; assumption; decide) | exact rfl)) | exact Mrw.tr (by assumption) (by repeat (first | assumption | exact pv10 | exact pv11 | (apply pv_o; decide; decide) | exact upN_eq | (apply upN_ne; decide) | (apply SV_at; assumption; decide) | exact rfl)) (by repeat (first | assumption | exact upA_eq | (apply upA_ne; first | decide | omega) | (apply SA_at; assumption; first | decide | (simp; omega)) | exact rfl)))⟩, O⟩
      ·
        refine wp_aload_n (pc := 34) dX12_listens_34 rfl ?_
        refine wm_gets dX12_listens_35 gf_X12_328 K (by rfl) (by repeat (first | assumption | exact pv10 | exact pv11 | (apply pv_o; decide; decide) | exact upN_eq | (apply upN_ne; decide) | (apply SV_at; assumption; decide) | exact rfl)) ?_
        refine wp_bipush (pc := 38) (y := 12) dX12_listens_38 (by decide) ?_
        refine wp_icmp_ne (pc := 40) 45 dX12_listens_40 (by decide) (by first | omega | exact TI.i5 (by assumption) | exact TI.i3 (by assumption) | exact TI.i2 (by assumption) | exact TI.i1 (by assumption) | exact TI.i0 (by assumption) | exact TI.i4 (by assumption) | exact TI.i6 (by assumption) | exact TI.i7 (by assumption)) (by first | omega | exact TI.i5 (by assumption) | exact TI.i3 (by assumption) | exact TI.i2 (by assumption) | exact TI.i1 (by assumption) | exact TI.i0 (by assumption) | exact TI.i4 (by assumption) | exact TI.i6 (by assumption) | exact TI.i7 (by assumption)) (fun c40 => ?_) (fun c40 => ?_)
        ·
          rw [if_pos (show liO ss x y z by omega), if_pos (show liO ss x y z by omega)] -- go
          refine wp_aload_n (pc := 45) dX12_listens_45 rfl ?_
          refine wm_get dX12_listens_46 gf_X12_60 K (by rfl) ?_
          refine wp_aload_n (pc := 49) dX12_listens_49 rfl ?_
          refine wm_gets dX12_listens_50 gf_X12_328 K (by rfl) (by repeat (first | assumption | exact pv10 | exact pv11 | (apply pv_o; decide; decide) | exact upN_eq | (apply upN_ne; decide) | (apply SV_at; assumption; decide) | exact rfl)) ?_
          refine wp_iload_n (pc := 53) dX12_listens_53 rfl ?_
          refine wm_iast dX12_listens_54 K O (by first | rfl | assumption) (by first | decide | omega) (by first | decide | omega) (by decide) (by omega) (by omega) (by repeat (first | assumption | exact upA_eq | (apply upA_ne; first | decide | omega) | (apply SA_at; assumption; first | decide | (simp; omega)) | exact rfl)) rfl (fun hp K O => ?_)
          refine wp_aload_n (pc := 55) dX12_listens_55 rfl ?_
          refine wm_get dX12_listens_56 gf_X12_63 K (by rfl) ?_
          refine wp_aload_n (pc := 59) dX12_listens_59 rfl ?_
          refine wm_gets dX12_listens_60 gf_X12_328 K (by rfl) (by repeat (first | assumption | exact pv10 | exact pv11 | (apply pv_o; decide; decide) | exact upN_eq | (apply upN_ne; decide) | (apply SV_at; assumption; decide) | exact rfl)) ?_
          refine wp_iload_n (pc := 63) dX12_listens_63 rfl ?_
          refine wm_iast dX12_listens_64 K O (by first | rfl | assumption) (by first | decide | omega) (by first | decide | omega) (by decide) (by omega) (by omega) (by repeat (first | assumption | exact upA_eq | (apply upA_ne; first | decide | omega) | (apply SA_at; assumption; first | decide | (simp; omega)) | exact rfl)) rfl (fun hp K O => ?_)
          refine wp_aload_n (pc := 65) dX12_listens_65 rfl ?_
          refine wm_get dX12_listens_66 gf_X12_66 K (by rfl) ?_
          refine wp_aload_n (pc := 69) dX12_listens_69 rfl ?_
          refine wm_gets dX12_listens_70 gf_X12_328 K (by rfl) (by repeat (first | assumption | exact pv10 | exact pv11 | (apply pv_o; decide; decide) | exact upN_eq | (apply upN_ne; decide) | (apply SV_at; assumption; decide) | exact rfl)) ?_
          refine wp_iload_n (pc := 73) dX12_listens_73 rfl ?_
          refine wm_iast dX12_listens_74 K O (by first | rfl | assumption) (by first | decide | omega) (by first | decide | omega) (by decide) (by omega) (by omega) (by repeat (first | assumption | exact upA_eq | (apply upA_ne; first | decide | omega) | (apply SA_at; assumption; first | decide | (simp; omega)) | exact rfl)) rfl (fun hp K O => ?_)
          refine wp_aload_n (pc := 75) dX12_listens_75 rfl ?_
          refine wp_dup (pc := 76) dX12_listens_76 rfl ?_
          refine wm_gets dX12_listens_77 gf_X12_328 K (by rfl) (by repeat (first | assumption | exact pv10 | exact pv11 | (apply pv_o; decide; decide) | exact upN_eq | (apply upN_ne; decide) | (apply SV_at; assumption; decide) | exact rfl)) ?_
          refine wp_iconst (pc := 80) dX12_listens_80 ?_
          refine wp_iadd (pc := 81) dX12_listens_81 ?_
          refine wm_put dX12_listens_82 pf_X12_328 K O (by decide) mset_32 rfl rfl (fun hp K O => ?_)
          refine wp_aload_n (pc := 85) dX12_listens_85 rfl ?_
          refine wm_gets dX12_listens_86 gf_X12_328 K (by rfl) (by repeat (first | assumption | exact pv10 | exact pv11 | (apply pv_o; decide; decide) | exact upN_eq | (apply upN_ne; decide) | (apply SV_at; assumption; decide) | exact rfl)) ?_
          exact wp_ir (pc := 89) dX12_listens_89 rfl (by decide) (by decide) (by first | rfl | omega) ⟨⟨_, _, _, K, upN_ne (by decide) upN_eq, ⟨m1, mA, mt.tr rfl rfl, mr.tr rfl rfl, mu.tr rfl rfl, mU.tr rfl rfl, mh.tr rfl rfl rfl, ms.ad (by omega) upN_eq rfl rfl rfl, mk.tr rfl rfl rfl rfl⟩⟩, O⟩
        ·
          rw [if_neg (show ¬ liO ss x y z by omega), if_neg (show ¬ liO ss x y z by omega)] -- go
          refine wp_iconst (pc := 43) dX12_listens_43 ?_
          exact wp_ir (pc := 44) dX12_listens_44 rfl (by decide) (by decide) (by first | rfl | omega) ⟨⟨_, _, _, K, (by repeat (first | assumption | exact pv10 | exact pv11 | (apply pv_o; decide; decide) | exact upN_eq | (apply upN_ne; decide) | (apply SV_at; assumption; decide) | exact rfl)), M.qu (by repeat (first | exact SV.rf | assumption | (apply SV.up1; decide) | (apply SV.tr2; assumption; decide))) (by repeat (first | exact SA.rf | assumption | (apply SA.up1; decide) | (apply SA.tr2; assumption; decide))) (by first | assumption | exact Mrw.z (by repeat (first | assumption | exact pv10 | exact pv11 | (apply pv_o; decide; decide) | exact upN_eq | (apply upN_ne; decide) | (apply SV_at; assumption; decide) | exact rfl)) | exact Mrw.tr (by assumption) (by repeat (first | assumption | exact pv10 | exact pv11 | (apply pv_o; decide; decide) | exact upN_eq | (apply upN_ne; decide) | (apply SV_at; assumption; decide) | exact rfl)) (by repeat (first | assumption | exact upA_eq | (apply upA_ne; first | decide | omega) | (apply SA_at; assumption; first | decide | (simp; omega)) | exact rfl)))⟩, O⟩
theorem sp_Ref_doubts (hM : MAt hp q th N T U tx rw rt hs ss KT) : Sp g MX12_doubts (rm 0 0 0) [.ref q] hp (Eff (.int (I (ss.length : Int))) (fun hp2 => MAt hp2 q 0 N T U tx rw rt hs [] KT ∧ SO hp hp2 q (q + 25))) := by
  refine Sp_mk rfl (Nat.le_of_ble_eq_true rfl) ?_
  show wp g _ _ _ 0 0 0 [some (.ref q), none] [] hp
  have O := SO.rf (hp := hp) (lo := q) (hi := q + 25)
  obtain ⟨V, A, rd, K, hth, M⟩ := hM
  have hu := M.ru (q := q)
  have M2 := M
  obtain ⟨m1, mA, mt, mr, mu, mU, mh, ms, mk⟩ := M2
  have e32 := ms.1
  refine wp_aload_n (pc := 0) dX12_doubts_0 rfl ?_
  refine wp_iconst (pc := 1) dX12_doubts_1 ?_
  refine wm_put dX12_doubts_2 pf_X12_85 K O (by decide) mset_6 rfl rfl (fun hp K O => ?_)
  refine wp_aload_n (pc := 5) dX12_doubts_5 rfl ?_
  refine wm_gets dX12_doubts_6 gf_X12_328 K (by rfl) (by repeat (first | assumption | exact pv10 | exact pv11 | (apply pv_o; decide; decide) | exact upN_eq | (apply upN_ne; decide) | (apply SV_at; assumption; decide) | exact rfl)) ?_
  refine wp_istore_n (pc := 9) dX12_doubts_9 (by decide) ?_
  refine wp_aload_n (pc := 10) dX12_doubts_10 rfl ?_
  refine wp_iconst (pc := 11) dX12_doubts_11 ?_
  refine wm_put dX12_doubts_12 pf_X12_328 K O (by decide) mset_32 rfl rfl (fun hp K O => ?_)
  refine wp_iload_n (pc := 15) dX12_doubts_15 rfl ?_
  exact wp_ir (pc := 16) dX12_doubts_16 rfl (by decide) (by decide) (by first | rfl | omega) ⟨⟨_, _, _, K, upN_ne (by decide) upN_eq, ⟨m1, mA, mt.tr rfl rfl, mr.tr rfl rfl, mu.tr rfl rfl, mU.tr rfl rfl, mh.tr rfl rfl rfl, ⟨upN_eq, by decide, fun i hi => (by cases hi)⟩, mk.tr rfl rfl rfl rfl⟩⟩, O⟩
theorem sp_Ref_saysBy (rx : -100 ≤ x ∧ x ≤ 100) (ry : -100 ≤ y ∧ y ≤ 100) : Sp g MX12_saysBy (rm 1 0 0) [.int (I x), .int (I y)] hp (Pur (.int (I (sy x y))) hp) := by
  have hm : InR (mi 9 (x + y)) := by unfold mi; split <;> omega
  refine Sp_mk rfl (Nat.le_of_ble_eq_true rfl) ?_
  show wp g _ _ _ 0 0 0 [some (.int (I x)), some (.int (I y))] [] hp
  refine wp_iconst (pc := 0) dX12_saysBy_0 ?_
  refine wp_bipush (pc := 1) (y := 9) dX12_saysBy_1 (by decide) ?_
  refine wp_iload_n (pc := 3) dX12_saysBy_3 rfl ?_
  refine wp_iload_n (pc := 4) dX12_saysBy_4 rfl ?_
  refine wp_iadd (pc := 5) dX12_saysBy_5 ?_
  refine wp_min (pc := 6) dX12_saysBy_6 ml_X12_194 ma_min_s ma_ini ma_min_c (by decide) (by decide) (by decide) (by decide) (Nat.le_of_ble_eq_true rfl) (by first | omega | exact TI.i5 (by assumption) | exact TI.i3 (by assumption) | exact TI.i2 (by assumption) | exact TI.i1 (by assumption) | exact TI.i0 (by assumption) | exact TI.i4 (by assumption) | exact TI.i6 (by assumption) | exact TI.i7 (by assumption)) (by first | omega | exact TI.i5 (by assumption) | exact TI.i3 (by assumption) | exact TI.i2 (by assumption) | exact TI.i1 (by assumption) | exact TI.i0 (by assumption) | exact TI.i4 (by assumption) | exact TI.i6 (by assumption) | exact TI.i7 (by assumption)) ?_
  refine wp_max (pc := 9) dX12_saysBy_9 ml_X12_199 ma_max_s ma_ini ma_max_c (by decide) (by decide) (by decide) (by decide) (Nat.le_of_ble_eq_true rfl) (by first | omega | exact hm) (by first | omega | exact hm) ?_
  exact wp_ir (pc := 12) dX12_saysBy_12 rfl (by decide) (by decide) (by first | rfl | omega) (by first | exact ⟨K, O⟩ | rfl)
abbrev ssO (ss : List (Int × Int × Int)) : Prop := ∀ i, i < ss.length → (0 ≤ (ss.getD i (0, 0, 0)).1 ∧ (ss.getD i (0, 0, 0)).1 ≤ 9) ∧ (0 ≤ (ss.getD i (0, 0, 0)).2.1 ∧ (ss.getD i (0, 0, 0)).2.1 ≤ 1) ∧ 0 ≤ (ss.getD i (0, 0, 0)).2.2 ∧ (ss.getD i (0, 0, 0)).2.2 ≤ 9
/-- the shift y fits what was listened to of kind b -/
def fitL (ss : List (Int × Int × Int)) (b y : Int) (i : Nat) : Bool := !(decide ((ss.getD i (0, 0, 0)).2.1 = b)) || decide (sy (ss.getD i (0, 0, 0)).1 y = (ss.getD i (0, 0, 0)).2.2)
def psL (ss : List (Int × Int × Int)) (b : Int) (k : Nat) : Bool := allb (fitL ss b ((k : Int) - 9)) ss.length
theorem allb_f {P : Nat → Bool} {i : Nat} : ∀ n, i < n → P i = false → allb P n = false
  | n + 1, h, hf => by
    show (allb P n && P n) = false
    by_cases z : i = n
    · rw [← z, hf]; simp
    · rw [allb_f n (by omega) hf]; rfl
theorem lp_Ref_isRight (K : ModAt hp q V A rd rl) (ms : Mss V A ss) (so : ssO ss) (rb : 0 ≤ c ∧ c ≤ 1) (ry : -9 ≤ y ∧ y ≤ 9) : ∀ (m i : Nat), ss.length < i + m → i ≤ ss.length → ∀ (hl : allb (fitL ss c y) i = true), wp g MX12_isRight (rm 2 0 0) (Pur (.int (B (allb (fitL ss c y) ss.length = true))) hp) 0 0 2 [some (.ref q), some (.int (I c)), some (.int (I y)), some (.int (I (i : Int)))] [] hp := by
  intro m
  induction m with
  | zero => intro i h1 h2; exact absurd h1 (by omega)
  | succ m ih =>
    intro i h1 h2 hl
    have e32 := ms.1
    have e12 := ms.2.1
    have st : allb (fitL ss c y) (i + 1) = (allb (fitL ss c y) i && fitL ss c y i) := rfl
    refine wp_iload_n (pc := 2) dX12_isRight_2 rfl ?_
    refine wp_aload_n (pc := 3) dX12_isRight_3 rfl ?_
    refine wm_gets dX12_isRight_4 gf_X12_328 K (by rfl) (by repeat (first | assumption | exact pv10 | exact pv11 | (apply pv_o; decide; decide) | exact upN_eq | (apply upN_ne; decide) | (apply SV_at; assumption; decide) | exact rfl)) ?_
    refine wp_icmp_ge (pc := 7) 47 dX12_isRight_7 (by decide) (by first | omega | exact TI.i5 (by assumption) | exact TI.i3 (by assumption) | exact TI.i2 (by assumption) | exact TI.i1 (by assumption) | exact TI.i0 (by assumption) | exact TI.i4 (by assumption) | exact TI.i6 (by assumption) | exact TI.i7 (by assumption)) (by first | omega | exact TI.i5 (by assumption) | exact TI.i3 (by assumption) | exact TI.i2 (by assumption) | exact TI.i1 (by assumption) | exact TI.i0 (by assumption) | exact TI.i4 (by assumption) | exact TI.i6 (by assumption) | exact TI.i7 (by assumption)) (fun c7 => ?_) (fun c7 => ?_)
    ·
      have e : i = ss.length := by omega
      subst e -- go
      refine wp_iconst (pc := 47) dX12_isRight_47 ?_
      first | exact wp_z1 (pc := 48) dX12_isRight_48 rfl (by decide) (by decide) (by first | exact hl | (rw [hff]; decide)) (by first | exact ⟨K, O⟩ | rfl) | exact wp_z0 (pc := 48) dX12_isRight_48 rfl (by decide) (by decide) (by first | exact hl | (rw [hff]; decide)) (by first | exact ⟨K, O⟩ | rfl) | exact wp_zb (pc := 48) dX12_isRight_48 rfl (by decide) (by decide) Iff.rfl (by first | exact ⟨K, O⟩ | rfl)
    ·
      have hhi := ms.2.2 i (by omega)
      have hoi := so i (by omega)
      have hsy := sy_in (ss.getD i (0, 0, 0)).1 y -- go
      refine wp_aload_n (pc := 10) dX12_isRight_10 rfl ?_
      refine wm_get dX12_isRight_11 gf_X12_63 K (by rfl) ?_
      refine wp_iload_n (pc := 14) dX12_isRight_14 rfl ?_
      refine wm_iald dX12_isRight_15 K (by first | rfl | assumption) (by first | decide | omega) (by first | decide | omega) (by decide) (by omega) (by omega) (by repeat (first | assumption | exact upA_eq | (apply upA_ne; first | decide | omega) | (apply SA_at; assumption; first | decide | (simp; omega)) | exact rfl)) hhi.2.1 ?_
      refine wp_iload_n (pc := 16) dX12_isRight_16 rfl ?_
      refine wp_icmp_ne (pc := 17) 41 dX12_isRight_17 (by decide) (by first | omega | exact TI.i5 (by assumption) | exact TI.i3 (by assumption) | exact TI.i2 (by assumption) | exact TI.i1 (by assumption) | exact TI.i0 (by assumption) | exact TI.i4 (by assumption) | exact TI.i6 (by assumption) | exact TI.i7 (by assumption)) (by first | omega | exact TI.i5 (by assumption) | exact TI.i3 (by assumption) | exact TI.i2 (by assumption) | exact TI.i1 (by assumption) | exact TI.i0 (by assumption) | exact TI.i4 (by assumption) | exact TI.i6 (by assumption) | exact TI.i7 (by assumption)) (fun c17 => ?_) (fun c17 => ?_)
      ·
        have hfi : fitL ss c y i = true := by unfold fitL; rw [decide_eq_false c17]; rfl
        have hl2 : allb (fitL ss c y) (i + 1) = true := by rw [st, hl, hfi]; rfl
        skip -- go
        refine wp_iinc (pc := 41) dX12_isRight_41 rfl (by decide) ?_
        refine wp_goto (pc := 44) 2 dX12_isRight_44 (by decide) ?_
        refine wp_ls ?_ (ih (i + 1) (by omega) (by omega) hl2)
        repeat' (first | exact LE_0 | refine LE_s rfl ?_ | refine LE_s (I_c (by first | omega | (simp only [sm]; omega))) ?_ | refine LE_s (J_c (by first | omega | exact Int.pow_succ _ _ | exact (Int.pow_succ _ _).symm | exact (Int.pow_zero _).symm | (simp only [sm]; omega))) ?_ | refine LE_n ?_)
      ·
        refine wp_aload_n (pc := 20) dX12_isRight_20 rfl ?_
        refine wm_get dX12_isRight_21 gf_X12_60 K (by rfl) ?_
        refine wp_iload_n (pc := 24) dX12_isRight_24 rfl ?_
        refine wm_iald dX12_isRight_25 K (by first | rfl | assumption) (by first | decide | omega) (by first | decide | omega) (by decide) (by omega) (by omega) (by repeat (first | assumption | exact upA_eq | (apply upA_ne; first | decide | omega) | (apply SA_at; assumption; first | decide | (simp; omega)) | exact rfl)) hhi.1 ?_
        refine wp_iload_n (pc := 26) dX12_isRight_26 rfl ?_
        refine wp_Sp (pc := 27) dX12_isRight_27 cl_X12_331 (sp_Ref_saysBy (by omega) (by omega)) rfl rfl (by decide) (Nat.le_of_ble_eq_true rfl) ?_
        refine wp_aload_n (pc := 30) dX12_isRight_30 rfl ?_
        refine wm_get dX12_isRight_31 gf_X12_66 K (by rfl) ?_
        refine wp_iload_n (pc := 34) dX12_isRight_34 rfl ?_
        refine wm_iald dX12_isRight_35 K (by first | rfl | assumption) (by first | decide | omega) (by first | decide | omega) (by decide) (by omega) (by omega) (by repeat (first | assumption | exact upA_eq | (apply upA_ne; first | decide | omega) | (apply SA_at; assumption; first | decide | (simp; omega)) | exact rfl)) hhi.2.2 ?_
        refine wp_icmp_eq (pc := 36) 41 dX12_isRight_36 (by decide) (by first | omega | exact TI.i5 (by assumption) | exact TI.i3 (by assumption) | exact TI.i2 (by assumption) | exact TI.i1 (by assumption) | exact TI.i0 (by assumption) | exact TI.i4 (by assumption) | exact TI.i6 (by assumption) | exact TI.i7 (by assumption)) (by first | omega | exact TI.i5 (by assumption) | exact TI.i3 (by assumption) | exact TI.i2 (by assumption) | exact TI.i1 (by assumption) | exact TI.i0 (by assumption) | exact TI.i4 (by assumption) | exact TI.i6 (by assumption) | exact TI.i7 (by assumption)) (fun c36 => ?_) (fun c36 => ?_)
        ·
          have hfi : fitL ss c y i = true := by unfold fitL; rw [decide_eq_true c36]; simp
          have hl2 : allb (fitL ss c y) (i + 1) = true := by rw [st, hl, hfi]; rfl
          skip -- go
          refine wp_iinc (pc := 41) dX12_isRight_41 rfl (by decide) ?_
          refine wp_goto (pc := 44) 2 dX12_isRight_44 (by decide) ?_
          refine wp_ls ?_ (ih (i + 1) (by omega) (by omega) hl2)
          repeat' (first | exact LE_0 | refine LE_s rfl ?_ | refine LE_s (I_c (by first | omega | (simp only [sm]; omega))) ?_ | refine LE_s (J_c (by first | omega | exact Int.pow_succ _ _ | exact (Int.pow_succ _ _).symm | exact (Int.pow_zero _).symm | (simp only [sm]; omega))) ?_ | refine LE_n ?_)
        ·
          have hfi : fitL ss c y i = false := by unfold fitL; rw [decide_eq_false c36, decide_eq_true c17]; rfl
          have hff : allb (fitL ss c y) ss.length = false := allb_f ss.length (by omega) hfi
          skip -- go
          refine wp_iconst (pc := 39) dX12_isRight_39 ?_
          first | exact wp_z1 (pc := 40) dX12_isRight_40 rfl (by decide) (by decide) (by first | exact hl | (rw [hff]; decide)) (by first | exact ⟨K, O⟩ | rfl) | exact wp_z0 (pc := 40) dX12_isRight_40 rfl (by decide) (by decide) (by first | exact hl | (rw [hff]; decide)) (by first | exact ⟨K, O⟩ | rfl) | exact wp_zb (pc := 40) dX12_isRight_40 rfl (by decide) (by decide) Iff.rfl (by first | exact ⟨K, O⟩ | rfl)
theorem sp_Ref_isRight (K : ModAt hp q V A rd rl) (ms : Mss V A ss) (so : ssO ss) (rb : 0 ≤ c ∧ c ≤ 1) (ry : -9 ≤ y ∧ y ≤ 9) : Sp g MX12_isRight (rm 2 0 0) [.ref q, .int (I c), .int (I y)] hp (Pur (.int (B (allb (fitL ss c y) ss.length = true))) hp) := by
  refine Sp_mk rfl (Nat.le_of_ble_eq_true rfl) ?_
  show wp g _ _ _ 0 0 0 [some (.ref q), some (.int (I c)), some (.int (I y)), none] [] hp
  have O := SO.rf (hp := hp) (lo := q) (hi := q + 25)
  refine wp_iconst (pc := 0) dX12_isRight_0 ?_
  refine wp_istore_n (pc := 1) dX12_isRight_1 (by decide) ?_
  refine wp_ls ?_ (lp_Ref_isRight K ms so rb ry (ss.length + 1) 0 (by omega) (by omega) rfl)
  repeat' (first | exact LE_0 | refine LE_s rfl ?_ | refine LE_s (I_c (by first | omega | (simp only [sm]; omega))) ?_ | refine LE_s (J_c (by first | omega | exact Int.pow_succ _ _ | exact (Int.pow_succ _ _).symm | exact (Int.pow_zero _).symm | (simp only [sm]; omega))) ?_ | refine LE_n ?_)
/-- how many shifts are right, and say w where w is not -1 -/
def rmB (ss : List (Int × Int × Int)) (b o w : Int) (k : Nat) : Bool := psL ss b k && (decide (w = -1) || decide (sy o ((k : Int) - 9) = w))
def rmC (ss : List (Int × Int × Int)) (b o w : Int) : Nat := cnt (rmB ss b o w) 19
theorem lp_Ref_rightMany (K : ModAt hp q V A rd rl) (ms : Mss V A ss) (so : ssO ss) (rb : 0 ≤ c ∧ c ≤ 1) (ro : 0 ≤ o ∧ o ≤ 9) (rw' : -1 ≤ w ∧ w ≤ 9) : ∀ (m i : Nat), 19 < i + m → i ≤ 19 → wp g MX12_rightMany (rm 3 0 0) (Pur (.int (I ((rmC ss c o w : Nat) : Int))) hp) 0 0 7 [some (.ref q), some (.int (I c)), some (.int (I o)), some (.int (I w)), some (.int (I ((cnt (rmB ss c o w) i : Nat) : Int))), some (.int (I ((i : Int) - 9)))] [] hp := by
  intro m
  induction m with
  | zero => intro i h1 h2; exact absurd h1 (by omega)
  | succ m ih =>
    intro i h1 h2
    have st : cnt (rmB ss c o w) (i + 1) = cnt (rmB ss c o w) i + if rmB ss c o w i = true then 1 else 0 := rfl
    have hsy := sy_in o ((i : Int) - 9)
    refine wp_iload (pc := 7) dX12_rightMany_7 rfl ?_
    refine wp_bipush (pc := 9) (y := 9) dX12_rightMany_9 (by decide) ?_
    refine wp_icmp_gt (pc := 11) 55 dX12_rightMany_11 (by decide) (by first | omega | exact TI.i5 (by assumption) | exact TI.i3 (by assumption) | exact TI.i2 (by assumption) | exact TI.i1 (by assumption) | exact TI.i0 (by assumption) | exact TI.i4 (by assumption) | exact TI.i6 (by assumption) | exact TI.i7 (by assumption)) (by first | omega | exact TI.i5 (by assumption) | exact TI.i3 (by assumption) | exact TI.i2 (by assumption) | exact TI.i1 (by assumption) | exact TI.i0 (by assumption) | exact TI.i4 (by assumption) | exact TI.i6 (by assumption) | exact TI.i7 (by assumption)) (fun c11 => ?_) (fun c11 => ?_)
    ·
      have e : i = 19 := by omega
      subst e -- go
      refine wp_iload (pc := 55) dX12_rightMany_55 rfl ?_
      exact wp_ir (pc := 57) dX12_rightMany_57 rfl (by decide) (by decide) (by first | rfl | omega) (by first | exact ⟨K, O⟩ | rfl)
    ·
      refine wp_iload (pc := 14) dX12_rightMany_14 rfl ?_
      refine wp_aload_n (pc := 16) dX12_rightMany_16 rfl ?_
      refine wp_iload_n (pc := 17) dX12_rightMany_17 rfl ?_
      refine wp_iload (pc := 18) dX12_rightMany_18 rfl ?_
      refine wp_Vp (pc := 20) dX12_rightMany_20 cl_X12_334 (sp_Ref_isRight K ms so rb (by omega)) rfl rfl K.1 (by rfl) (by decide) (Nat.le_of_ble_eq_true rfl) ?_
      first | refine wp_ifb_eq (pc := 23) 45 dX12_rightMany_23 (by decide) (fun c23 => ?_) (fun c23 => ?_) | refine wp_if_eq (pc := 23) 45 dX12_rightMany_23 (by decide) (by first | omega | exact TI.i5 (by assumption) | exact TI.i3 (by assumption) | exact TI.i2 (by assumption) | exact TI.i1 (by assumption) | exact TI.i0 (by assumption) | exact TI.i4 (by assumption) | exact TI.i6 (by assumption) | exact TI.i7 (by assumption)) (fun c23 => ?_) (fun c23 => ?_)
      ·
        have e1 : cnt (rmB ss c o w) (i + 1) = cnt (rmB ss c o w) i := by rw [st, if_neg (fun z => c23 (by unfold rmB at z; rw [Bool.and_eq_true] at z; exact z.1))]; rfl
        skip -- go
        refine wp_iconst (pc := 45) dX12_rightMany_45 ?_
        refine wp_iadd (pc := 46) dX12_rightMany_46 ?_
        refine wp_istore (pc := 47) dX12_rightMany_47 (by decide) ?_
        refine wp_iinc (pc := 49) dX12_rightMany_49 rfl (by decide) ?_
        refine wp_goto (pc := 52) 7 dX12_rightMany_52 (by decide) ?_
        refine wp_ls ?_ (ih (i + 1) (by omega) (by omega))
        rw [e1]
        repeat' (first | exact LE_0 | refine LE_s rfl ?_ | refine LE_s (I_c (by first | omega | (simp only [sm]; omega))) ?_ | refine LE_s (J_c (by first | omega | exact Int.pow_succ _ _ | exact (Int.pow_succ _ _).symm | exact (Int.pow_zero _).symm | (simp only [sm]; omega))) ?_ | refine LE_n ?_)
      ·
        refine wp_iload_n (pc := 26) dX12_rightMany_26 rfl ?_
        refine wp_iconst (pc := 27) dX12_rightMany_27 ?_
        refine wp_icmp_eq (pc := 28) 41 dX12_rightMany_28 (by decide) (by first | omega | exact TI.i5 (by assumption) | exact TI.i3 (by assumption) | exact TI.i2 (by assumption) | exact TI.i1 (by assumption) | exact TI.i0 (by assumption) | exact TI.i4 (by assumption) | exact TI.i6 (by assumption) | exact TI.i7 (by assumption)) (by first | omega | exact TI.i5 (by assumption) | exact TI.i3 (by assumption) | exact TI.i2 (by assumption) | exact TI.i1 (by assumption) | exact TI.i0 (by assumption) | exact TI.i4 (by assumption) | exact TI.i6 (by assumption) | exact TI.i7 (by assumption)) (fun c28 => ?_) (fun c28 => ?_)
        ·
          have e1 : cnt (rmB ss c o w) (i + 1) = cnt (rmB ss c o w) i + 1 := by rw [st, if_pos (by unfold rmB; rw [Bool.and_eq_true]; exact ⟨c23, by rw [decide_eq_true c28]; rfl⟩)]
          skip -- go
          refine wp_iconst (pc := 41) dX12_rightMany_41 ?_
          refine wp_goto (pc := 42) 46 dX12_rightMany_42 (by decide) ?_
          refine wp_iadd (pc := 46) dX12_rightMany_46 ?_
          refine wp_istore (pc := 47) dX12_rightMany_47 (by decide) ?_
          refine wp_iinc (pc := 49) dX12_rightMany_49 rfl (by decide) ?_
          refine wp_goto (pc := 52) 7 dX12_rightMany_52 (by decide) ?_
          refine wp_ls ?_ (ih (i + 1) (by omega) (by omega))
          rw [e1]
          repeat' (first | exact LE_0 | refine LE_s rfl ?_ | refine LE_s (I_c (by first | omega | (simp only [sm]; omega))) ?_ | refine LE_s (J_c (by first | omega | exact Int.pow_succ _ _ | exact (Int.pow_succ _ _).symm | exact (Int.pow_zero _).symm | (simp only [sm]; omega))) ?_ | refine LE_n ?_)
        ·
          refine wp_iload_n (pc := 31) dX12_rightMany_31 rfl ?_
          refine wp_iload (pc := 32) dX12_rightMany_32 rfl ?_
          refine wp_Sp (pc := 34) dX12_rightMany_34 cl_X12_331 (sp_Ref_saysBy (by omega) (by omega)) rfl rfl (by decide) (Nat.le_of_ble_eq_true rfl) ?_
          refine wp_iload_n (pc := 37) dX12_rightMany_37 rfl ?_
          refine wp_icmp_ne (pc := 38) 45 dX12_rightMany_38 (by decide) (by first | omega | exact TI.i5 (by assumption) | exact TI.i3 (by assumption) | exact TI.i2 (by assumption) | exact TI.i1 (by assumption) | exact TI.i0 (by assumption) | exact TI.i4 (by assumption) | exact TI.i6 (by assumption) | exact TI.i7 (by assumption)) (by first | omega | exact TI.i5 (by assumption) | exact TI.i3 (by assumption) | exact TI.i2 (by assumption) | exact TI.i1 (by assumption) | exact TI.i0 (by assumption) | exact TI.i4 (by assumption) | exact TI.i6 (by assumption) | exact TI.i7 (by assumption)) (fun c38 => ?_) (fun c38 => ?_)
          ·
            have e1 : cnt (rmB ss c o w) (i + 1) = cnt (rmB ss c o w) i := by rw [st, if_neg (fun z => by unfold rmB at z; rw [Bool.and_eq_true, decide_eq_false c28, decide_eq_false c38] at z; cases z.2)]; rfl
            skip -- go
            refine wp_iconst (pc := 45) dX12_rightMany_45 ?_
            refine wp_iadd (pc := 46) dX12_rightMany_46 ?_
            refine wp_istore (pc := 47) dX12_rightMany_47 (by decide) ?_
            refine wp_iinc (pc := 49) dX12_rightMany_49 rfl (by decide) ?_
            refine wp_goto (pc := 52) 7 dX12_rightMany_52 (by decide) ?_
            refine wp_ls ?_ (ih (i + 1) (by omega) (by omega))
            rw [e1]
            repeat' (first | exact LE_0 | refine LE_s rfl ?_ | refine LE_s (I_c (by first | omega | (simp only [sm]; omega))) ?_ | refine LE_s (J_c (by first | omega | exact Int.pow_succ _ _ | exact (Int.pow_succ _ _).symm | exact (Int.pow_zero _).symm | (simp only [sm]; omega))) ?_ | refine LE_n ?_)
          ·
            have e1 : cnt (rmB ss c o w) (i + 1) = cnt (rmB ss c o w) i + 1 := by rw [st, if_pos (by unfold rmB; rw [Bool.and_eq_true]; exact ⟨c23, by rw [decide_eq_true c38]; simp⟩)]
            skip -- go
            refine wp_iconst (pc := 41) dX12_rightMany_41 ?_
            refine wp_goto (pc := 42) 46 dX12_rightMany_42 (by decide) ?_
            refine wp_iadd (pc := 46) dX12_rightMany_46 ?_
            refine wp_istore (pc := 47) dX12_rightMany_47 (by decide) ?_
            refine wp_iinc (pc := 49) dX12_rightMany_49 rfl (by decide) ?_
            refine wp_goto (pc := 52) 7 dX12_rightMany_52 (by decide) ?_
            refine wp_ls ?_ (ih (i + 1) (by omega) (by omega))
            rw [e1]
            repeat' (first | exact LE_0 | refine LE_s rfl ?_ | refine LE_s (I_c (by first | omega | (simp only [sm]; omega))) ?_ | refine LE_s (J_c (by first | omega | exact Int.pow_succ _ _ | exact (Int.pow_succ _ _).symm | exact (Int.pow_zero _).symm | (simp only [sm]; omega))) ?_ | refine LE_n ?_)
theorem sp_Ref_rightMany (K : ModAt hp q V A rd rl) (ms : Mss V A ss) (so : ssO ss) (rb : 0 ≤ c ∧ c ≤ 1) (ro : 0 ≤ o ∧ o ≤ 9) (rw' : -1 ≤ w ∧ w ≤ 9) : Sp g MX12_rightMany (rm 3 0 0) [.ref q, .int (I c), .int (I o), .int (I w)] hp (Pur (.int (I ((rmC ss c o w : Nat) : Int))) hp) := by
  refine Sp_mk rfl (Nat.le_of_ble_eq_true rfl) ?_
  show wp g _ _ _ 0 0 0 [some (.ref q), some (.int (I c)), some (.int (I o)), some (.int (I w)), none, none] [] hp
  have O := SO.rf (hp := hp) (lo := q) (hi := q + 25)
  refine wp_iconst (pc := 0) dX12_rightMany_0 ?_
  refine wp_istore (pc := 1) dX12_rightMany_1 (by decide) ?_
  refine wp_bipush (pc := 3) (y := (-9)) dX12_rightMany_3 (by decide) ?_
  refine wp_istore (pc := 5) dX12_rightMany_5 (by decide) ?_
  refine wp_ls ?_ (lp_Ref_rightMany K ms so rb ro rw' 20 0 (by omega) (by omega))
  repeat' (first | exact LE_0 | refine LE_s rfl ?_ | refine LE_s (I_c (by first | omega | (simp only [sm]; omega))) ?_ | refine LE_s (J_c (by first | omega | exact Int.pow_succ _ _ | exact (Int.pow_succ _ _).symm | exact (Int.pow_zero _).symm | (simp only [sm]; omega))) ?_ | refine LE_n ?_)
theorem rmC_all (ss : List (Int × Int × Int)) (b o : Int) : rmC ss b o (-1) = cnt (psL ss b) 19 := by
  unfold rmC
  exact cnt_congr fun i _ => by unfold rmB; simp
theorem cnt_pos {P : Nat → Bool} : ∀ n, 0 < cnt P n → ∃ k, k < n ∧ P k = true
  | n + 1, h => by
    by_cases z : P n = true
    · exact ⟨n, by omega, z⟩
    · have e : cnt P (n + 1) = cnt P n := by show _ + _ = _; rw [if_neg z]; rfl
      obtain ⟨k, a, b⟩ := cnt_pos n (by rw [e] at h; exact h)
      exact ⟨k, by omega, b⟩
theorem fst_ge {P : Nat → Bool} {k : Nat} (h : ∀ i, i < k → P i = false) : ∀ n, k ≤ n → k ≤ fst P n := fun n hn => by
  by_cases z : ∃ j, j < n ∧ P j = true
  · obtain ⟨j, hj, hp⟩ := z
    obtain ⟨m, h1, h2, h3⟩ := least_t hp
    rw [fst_at P h2 h3 n (by omega)]
    apply Classical.byContradiction
    intro y
    have := h m (by omega)
    rw [h2] at this
    cases this
  · rw [fst_no P n (fun i hi => by cases hz : P i with | false => rfl | true => exact absurd ⟨i, hi, hz⟩ z)]
    exact hn
theorem lp_Ref_firstRight (K : ModAt hp q V A rd rl) (ms : Mss V A ss) (so : ssO ss) (rb : 0 ≤ c ∧ c ≤ 1) (hex : 0 < cnt (psL ss c) 19) : ∀ (m i : Nat), 18 < i + m → i ≤ 18 → ∀ (hno : ∀ j, j < i → psL ss c j = false), wp g MX12_firstRight (rm 3 0 0) (Pur (.int (I (((fst (psL ss c) 18 : Nat) : Int) - 9))) hp) 0 0 3 [some (.ref q), some (.int (I c)), some (.int (I ((i : Int) - 9)))] [] hp := by
  intro m
  induction m with
  | zero => intro i h1 h2; exact absurd h1 (by omega)
  | succ m ih =>
    intro i h1 h2 hno
    refine wp_aload_n (pc := 3) dX12_firstRight_3 rfl ?_
    refine wp_iload_n (pc := 4) dX12_firstRight_4 rfl ?_
    refine wp_iload_n (pc := 5) dX12_firstRight_5 rfl ?_
    refine wp_Vp (pc := 6) dX12_firstRight_6 cl_X12_334 (sp_Ref_isRight K ms so rb (by omega)) rfl rfl K.1 (by rfl) (by decide) (Nat.le_of_ble_eq_true rfl) ?_
    first | refine wp_ifb_ne (pc := 9) 18 dX12_firstRight_9 (by decide) (fun c9 => ?_) (fun c9 => ?_) | refine wp_if_ne (pc := 9) 18 dX12_firstRight_9 (by decide) (by first | omega | exact TI.i5 (by assumption) | exact TI.i3 (by assumption) | exact TI.i2 (by assumption) | exact TI.i1 (by assumption) | exact TI.i0 (by assumption) | exact TI.i4 (by assumption) | exact TI.i6 (by assumption) | exact TI.i7 (by assumption)) (fun c9 => ?_) (fun c9 => ?_)
    ·
      have hp1 : psL ss c i = true := c9
      have ef : fst (psL ss c) 18 = i := by
        by_cases z : i = 18
        · rw [z]; exact fst_no _ 18 (by rw [← z]; exact hno)
        · exact fst_at _ hp1 hno 18 (by omega)
      rw [ef] -- go
      refine wp_iload_n (pc := 18) dX12_firstRight_18 rfl ?_
      exact wp_ir (pc := 19) dX12_firstRight_19 rfl (by decide) (by decide) (by first | rfl | omega) (by first | exact ⟨K, O⟩ | rfl)
    ·
      have hp1 : psL ss c i = false := by cases hz : psL ss c i with | false => rfl | true => exact absurd hz c9
      have hi18 : i < 18 := Classical.byContradiction fun z => by
        obtain ⟨k, hk1, hk2⟩ := cnt_pos 19 hex
        by_cases y : k = i
        · rw [y, hp1] at hk2; cases hk2
        · rw [hno k (by omega)] at hk2; cases hk2
      skip -- go
      refine wp_iinc (pc := 12) dX12_firstRight_12 rfl (by decide) ?_
      refine wp_goto (pc := 15) 3 dX12_firstRight_15 (by decide) ?_
      refine wp_ls ?_ (ih (i + 1) (by omega) (by omega) (fun j hj => if z : j = i then by rw [z]; exact hp1 else hno j (by omega)))
      repeat' (first | exact LE_0 | refine LE_s rfl ?_ | refine LE_s (I_c (by first | omega | (simp only [sm]; omega))) ?_ | refine LE_s (J_c (by first | omega | exact Int.pow_succ _ _ | exact (Int.pow_succ _ _).symm | exact (Int.pow_zero _).symm | (simp only [sm]; omega))) ?_ | refine LE_n ?_)
theorem sp_Ref_firstRight (K : ModAt hp q V A rd rl) (ms : Mss V A ss) (so : ssO ss) (rb : 0 ≤ c ∧ c ≤ 1) (hex : 0 < cnt (psL ss c) 19) : Sp g MX12_firstRight (rm 3 0 0) [.ref q, .int (I c)] hp (Pur (.int (I (((fst (psL ss c) 18 : Nat) : Int) - 9))) hp) := by
  refine Sp_mk rfl (Nat.le_of_ble_eq_true rfl) ?_
  show wp g _ _ _ 0 0 0 [some (.ref q), some (.int (I c)), none] [] hp
  have O := SO.rf (hp := hp) (lo := q) (hi := q + 25)
  refine wp_bipush (pc := 0) (y := (-9)) dX12_firstRight_0 (by decide) ?_
  refine wp_istore_n (pc := 2) dX12_firstRight_2 (by decide) ?_
  refine wp_ls ?_ (lp_Ref_firstRight K ms so rb hex 19 0 (by omega) (by omega) (fun j hj => by omega))
  repeat' (first | exact LE_0 | refine LE_s rfl ?_ | refine LE_s (I_c (by first | omega | (simp only [sm]; omega))) ?_ | refine LE_s (J_c (by first | omega | exact Int.pow_succ _ _ | exact (Int.pow_succ _ _).symm | exact (Int.pow_zero _).symm | (simp only [sm]; omega))) ?_ | refine LE_n ?_)
def lwC (ss : List (Int × Int × Int)) : Int := ((cnt (psL ss 0) 19 : Nat) : Int) * ((cnt (psL ss 1) 19 : Nat) : Int)
theorem lwC_in (ss : List (Int × Int × Int)) : 0 ≤ lwC ss ∧ lwC ss ≤ 361 ∧ (lwC ss ≠ 0 → 0 < cnt (psL ss 0) 19 ∧ 0 < cnt (psL ss 1) 19) := by
  have h0 := cnt_le (psL ss 0) 19
  have h1 := cnt_le (psL ss 1) 19
  have h2 : cnt (psL ss 0) 19 * cnt (psL ss 1) 19 ≤ 19 * 19 := Nat.mul_le_mul h0 h1
  have e : lwC ss = ((cnt (psL ss 0) 19 * cnt (psL ss 1) 19 : Nat) : Int) := by unfold lwC; rw [Int.natCast_mul]
  refine ⟨by omega, by omega, fun z => ?_⟩
  rw [e] at z
  constructor
  · apply Nat.pos_of_ne_zero; intro y; rw [y, Nat.zero_mul] at z; exact z rfl
  · apply Nat.pos_of_ne_zero; intro y; rw [y, Nat.mul_zero] at z; exact z rfl
theorem sp_Ref_laws (hM : MAt hp q th N T U tx rw rt hs ss KT) (so : ssO ss) : Sp g MX12_laws (rm 4 0 0) [.ref q] hp (Eff (.int (I (lwC ss))) (fun hp2 => MAt hp2 q 0 N T U tx (if lwC ss = 0 then [] else [((fst (psL ss 0) 18 : Nat) : Int) - 9, ((fst (psL ss 1) 18 : Nat) : Int) - 9]) rt hs ss KT ∧ SO hp hp2 q (q + 25))) := by
  have hw := lwC_in ss
  have f0 := fst_le (psL ss 0) 18
  have f1 := fst_le (psL ss 1) 18
  have er : ((rmC ss 0 0 (-1) : Nat) : Int) * ((rmC ss 1 0 (-1) : Nat) : Int) = lwC ss := by rw [rmC_all, rmC_all]; rfl
  refine Sp_mk rfl (Nat.le_of_ble_eq_true rfl) ?_
  show wp g _ _ _ 0 0 0 [some (.ref q), none] [] hp
  have O := SO.rf (hp := hp) (lo := q) (hi := q + 25)
  obtain ⟨V, A, rd, K, hth, M⟩ := hM
  have hu := M.ru (q := q)
  have M2 := M
  obtain ⟨m1, mA, mt, mr, mu, mU, mh, ms, mk⟩ := M2
  refine wp_aload_n (pc := 0) dX12_laws_0 rfl ?_
  refine wp_iconst (pc := 1) dX12_laws_1 ?_
  refine wm_put dX12_laws_2 pf_X12_85 K O (by decide) mset_6 rfl rfl (fun hp K O => ?_)
  refine wp_aload_n (pc := 5) dX12_laws_5 rfl ?_
  refine wp_iconst (pc := 6) dX12_laws_6 ?_
  refine wp_iconst (pc := 7) dX12_laws_7 ?_
  refine wp_iconst (pc := 8) dX12_laws_8 ?_
  refine wp_Vp (pc := 9) dX12_laws_9 cl_X12_337 (sp_Ref_rightMany K (Mss.tr ms (by repeat (first | assumption | exact pv10 | exact pv11 | (apply pv_o; decide; decide) | exact upN_eq | (apply upN_ne; decide) | (apply SV_at; assumption; decide) | exact rfl)) (by repeat (first | assumption | exact upA_eq | (apply upA_ne; first | decide | omega) | (apply SA_at; assumption; first | decide | (simp; omega)) | exact rfl)) (by repeat (first | assumption | exact upA_eq | (apply upA_ne; first | decide | omega) | (apply SA_at; assumption; first | decide | (simp; omega)) | exact rfl)) (by repeat (first | assumption | exact upA_eq | (apply upA_ne; first | decide | omega) | (apply SA_at; assumption; first | decide | (simp; omega)) | exact rfl))) so (by decide) (by decide) (by decide)) rfl rfl K.1 (by rfl) (by decide) (Nat.le_of_ble_eq_true rfl) ?_
  refine wp_aload_n (pc := 12) dX12_laws_12 rfl ?_
  refine wp_iconst (pc := 13) dX12_laws_13 ?_
  refine wp_iconst (pc := 14) dX12_laws_14 ?_
  refine wp_iconst (pc := 15) dX12_laws_15 ?_
  refine wp_Vp (pc := 16) dX12_laws_16 cl_X12_337 (sp_Ref_rightMany K (Mss.tr ms (by repeat (first | assumption | exact pv10 | exact pv11 | (apply pv_o; decide; decide) | exact upN_eq | (apply upN_ne; decide) | (apply SV_at; assumption; decide) | exact rfl)) (by repeat (first | assumption | exact upA_eq | (apply upA_ne; first | decide | omega) | (apply SA_at; assumption; first | decide | (simp; omega)) | exact rfl)) (by repeat (first | assumption | exact upA_eq | (apply upA_ne; first | decide | omega) | (apply SA_at; assumption; first | decide | (simp; omega)) | exact rfl)) (by repeat (first | assumption | exact upA_eq | (apply upA_ne; first | decide | omega) | (apply SA_at; assumption; first | decide | (simp; omega)) | exact rfl))) so (by decide) (by decide) (by decide)) rfl rfl K.1 (by rfl) (by decide) (Nat.le_of_ble_eq_true rfl) ?_
  refine wp_imul (pc := 19) dX12_laws_19 ?_
  refine wp_topE er ?_
  refine wp_istore_n (pc := 20) dX12_laws_20 (by decide) ?_
  refine wp_aload_n (pc := 21) dX12_laws_21 rfl ?_
  refine wp_iconst (pc := 22) dX12_laws_22 ?_
  refine wm_put dX12_laws_23 pf_X12_89 K O (by decide) mset_5 rfl rfl (fun hp K O => ?_)
  refine wp_iload_n (pc := 26) dX12_laws_26 rfl ?_
  first | refine wp_ifb_ne (pc := 27) 32 dX12_laws_27 (by decide) (fun c27 => ?_) (fun c27 => ?_) | refine wp_if_ne (pc := 27) 32 dX12_laws_27 (by decide) (by first | omega | exact TI.i5 (by assumption) | exact TI.i3 (by assumption) | exact TI.i2 (by assumption) | exact TI.i1 (by assumption) | exact TI.i0 (by assumption) | exact TI.i4 (by assumption) | exact TI.i6 (by assumption) | exact TI.i7 (by assumption)) (fun c27 => ?_) (fun c27 => ?_)
  ·
    rw [if_neg c27]
    have hpp := hw.2.2 c27 -- go
    refine wp_aload_n (pc := 32) dX12_laws_32 rfl ?_
    refine wp_aload_n (pc := 33) dX12_laws_33 rfl ?_
    refine wp_iconst (pc := 34) dX12_laws_34 ?_
    refine wp_Vp (pc := 35) dX12_laws_35 cl_X12_340 (sp_Ref_firstRight K (Mss.tr ms (by repeat (first | assumption | exact pv10 | exact pv11 | (apply pv_o; decide; decide) | exact upN_eq | (apply upN_ne; decide) | (apply SV_at; assumption; decide) | exact rfl)) (by repeat (first | assumption | exact upA_eq | (apply upA_ne; first | decide | omega) | (apply SA_at; assumption; first | decide | (simp; omega)) | exact rfl)) (by repeat (first | assumption | exact upA_eq | (apply upA_ne; first | decide | omega) | (apply SA_at; assumption; first | decide | (simp; omega)) | exact rfl)) (by repeat (first | assumption | exact upA_eq | (apply upA_ne; first | decide | omega) | (apply SA_at; assumption; first | decide | (simp; omega)) | exact rfl))) so (by decide) hpp.1) rfl rfl K.1 (by rfl) (by decide) (Nat.le_of_ble_eq_true rfl) ?_
    refine wp_i2l (pc := 38) dX12_laws_38 (by first | omega | exact TI.i5 (by assumption) | exact TI.i3 (by assumption) | exact TI.i2 (by assumption) | exact TI.i1 (by assumption) | exact TI.i0 (by assumption) | exact TI.i4 (by assumption) | exact TI.i6 (by assumption) | exact TI.i7 (by assumption)) ?_
    refine wp_Vn (pc := 39) dX12_laws_39 cl_X12_253 (sp_Ref_tellR K (by first | assumption | exact Mrw.z (by repeat (first | assumption | exact pv10 | exact pv11 | (apply pv_o; decide; decide) | exact upN_eq | (apply upN_ne; decide) | (apply SV_at; assumption; decide) | exact rfl))) (by first | decide | (simp; omega) | simp | omega)) rfl rfl K.1 (by rfl) (by decide) (Nat.le_of_ble_eq_true rfl) (fun hp39 e39 => ?_)
    obtain ⟨⟨V39, A39, K, sV39, sA39, hR39⟩, O1⟩ := e39; replace O := SO.tr O O1
    refine wp_aload_n (pc := 42) dX12_laws_42 rfl ?_
    refine wp_aload_n (pc := 43) dX12_laws_43 rfl ?_
    refine wp_iconst (pc := 44) dX12_laws_44 ?_
    refine wp_Vp (pc := 45) dX12_laws_45 cl_X12_340 (sp_Ref_firstRight K (Mss.tr ms (by repeat (first | assumption | exact pv10 | exact pv11 | (apply pv_o; decide; decide) | exact upN_eq | (apply upN_ne; decide) | (apply SV_at; assumption; decide) | exact rfl)) (by repeat (first | assumption | exact upA_eq | (apply upA_ne; first | decide | omega) | (apply SA_at; assumption; first | decide | (simp; omega)) | exact rfl)) (by repeat (first | assumption | exact upA_eq | (apply upA_ne; first | decide | omega) | (apply SA_at; assumption; first | decide | (simp; omega)) | exact rfl)) (by repeat (first | assumption | exact upA_eq | (apply upA_ne; first | decide | omega) | (apply SA_at; assumption; first | decide | (simp; omega)) | exact rfl))) so (by decide) hpp.2) rfl rfl K.1 (by rfl) (by decide) (Nat.le_of_ble_eq_true rfl) ?_
    refine wp_i2l (pc := 48) dX12_laws_48 (by first | omega | exact TI.i5 (by assumption) | exact TI.i3 (by assumption) | exact TI.i2 (by assumption) | exact TI.i1 (by assumption) | exact TI.i0 (by assumption) | exact TI.i4 (by assumption) | exact TI.i6 (by assumption) | exact TI.i7 (by assumption)) ?_
    refine wp_Vn (pc := 49) dX12_laws_49 cl_X12_253 (sp_Ref_tellR K (by first | assumption | exact Mrw.z (by repeat (first | assumption | exact pv10 | exact pv11 | (apply pv_o; decide; decide) | exact upN_eq | (apply upN_ne; decide) | (apply SV_at; assumption; decide) | exact rfl))) (by first | decide | (simp; omega) | simp | omega)) rfl rfl K.1 (by rfl) (by decide) (Nat.le_of_ble_eq_true rfl) (fun hp49 e49 => ?_)
    obtain ⟨⟨V49, A49, K, sV49, sA49, hR49⟩, O1⟩ := e49; replace O := SO.tr O O1
    refine wp_iload_n (pc := 52) dX12_laws_52 rfl ?_
    exact wp_ir (pc := 53) dX12_laws_53 rfl (by decide) (by decide) (by first | rfl | omega) ⟨⟨_, _, _, K, (by repeat (first | assumption | exact pv10 | exact pv11 | (apply pv_o; decide; decide) | exact upN_eq | (apply upN_ne; decide) | (apply SV_at; assumption; decide) | exact rfl)), M.qu (by repeat (first | exact SV.rf | assumption | (apply SV.up1; decide) | (apply SV.tr2; assumption; decide))) (by repeat (first | exact SA.rf | assumption | (apply SA.up1; decide) | (apply SA.tr2; assumption; decide))) (by first | assumption | exact Mrw.z (by repeat (first | assumption | exact pv10 | exact pv11 | (apply pv_o; decide; decide) | exact upN_eq | (apply upN_ne; decide) | (apply SV_at; assumption; decide) | exact rfl)) | exact Mrw.tr (by assumption) (by repeat (first | assumption | exact pv10 | exact pv11 | (apply pv_o; decide; decide) | exact upN_eq | (apply upN_ne; decide) | (apply SV_at; assumption; decide) | exact rfl)) (by repeat (first | assumption | exact upA_eq | (apply upA_ne; first | decide | omega) | (apply SA_at; assumption; first | decide | (simp; omega)) | exact rfl)))⟩, O⟩
  ·
    rw [if_pos c27] -- go
    refine wp_iconst (pc := 30) dX12_laws_30 ?_
    exact wp_ir (pc := 31) dX12_laws_31 rfl (by decide) (by decide) c27.symm ⟨⟨_, _, _, K, (by repeat (first | assumption | exact pv10 | exact pv11 | (apply pv_o; decide; decide) | exact upN_eq | (apply upN_ne; decide) | (apply SV_at; assumption; decide) | exact rfl)), M.qu (by repeat (first | exact SV.rf | assumption | (apply SV.up1; decide) | (apply SV.tr2; assumption; decide))) (by repeat (first | exact SA.rf | assumption | (apply SA.up1; decide) | (apply SA.tr2; assumption; decide))) (by first | assumption | exact Mrw.z (by repeat (first | assumption | exact pv10 | exact pv11 | (apply pv_o; decide; decide) | exact upN_eq | (apply upN_ne; decide) | (apply SV_at; assumption; decide) | exact rfl)) | exact Mrw.tr (by assumption) (by repeat (first | assumption | exact pv10 | exact pv11 | (apply pv_o; decide; decide) | exact upN_eq | (apply upN_ne; decide) | (apply SV_at; assumption; decide) | exact rfl)) (by repeat (first | assumption | exact upA_eq | (apply upA_ne; first | decide | omega) | (apply SA_at; assumption; first | decide | (simp; omega)) | exact rfl)))⟩, O⟩
/-! what to listen for -/
def mw (t : Nat → Int) : Nat → Int
  | 0 => 0
  | n + 1 => mx (mw t n) (t n)
def trf (ss : List (Int × Int × Int)) (k : Nat) : Int := mw (fun w => ((rmC ss ((k / 10 : Nat) : Int) ((k % 10 : Nat) : Int) (w : Int) : Nat) : Int)) 10 * ((cnt (psL ss (1 - ((k / 10 : Nat) : Int))) 19 : Nat) : Int)
theorem mw_in {t : Nat → Int} (h : ∀ n, 0 ≤ t n ∧ t n ≤ 19) : ∀ n, 0 ≤ mw t n ∧ mw t n ≤ 19
  | 0 => by unfold mw; omega
  | n + 1 => by have := mw_in h n; have := h n; unfold mw mx; split <;> omega
theorem trf_in (ss : List (Int × Int × Int)) (k : Nat) : 0 ≤ trf ss k ∧ trf ss k ≤ 1000 := by
  have h1 := mw_in (t := fun w => ((rmC ss ((k / 10 : Nat) : Int) ((k % 10 : Nat) : Int) (w : Int) : Nat) : Int)) (fun n => by have := cnt_le (rmB ss ((k / 10 : Nat) : Int) ((k % 10 : Nat) : Int) (n : Int)) 19; unfold rmC; omega) 10
  have h2 := cnt_le (psL ss (1 - ((k / 10 : Nat) : Int))) 19
  unfold trf
  generalize mw (fun w => ((rmC ss ((k / 10 : Nat) : Int) ((k % 10 : Nat) : Int) (w : Int) : Nat) : Int)) 10 = a at h1 ⊢
  generalize cnt (psL ss (1 - ((k / 10 : Nat) : Int))) 19 = b at h2 ⊢
  obtain ⟨a', rfl⟩ := Int.eq_ofNat_of_zero_le h1.1
  have : a' * b ≤ 19 * 19 := Nat.mul_le_mul (by omega) h2
  rw [← Int.natCast_mul]
  omega
theorem lp_try2 (K : ModAt hp q V A rd rl) (ms : Mss V A ss) (so : ssO ss) (hn : n < 20) {Q : Option Value → Hp → Prop} {v1 v2 : Int} (Kn : wp g MX12_tries (rm 4 0 0) Q 0 0 80 [some (.ref q), some (.int (I v1)), some (.int (I v2)), some (.int (I (n : Int))), some (.int (I (mw (fun w => ((rmC ss ((n / 10 : Nat) : Int) ((n % 10 : Nat) : Int) (w : Int) : Nat) : Int)) 10))), none] [] hp) : ∀ (m i : Nat), 10 < i + m → i ≤ 10 → wp g MX12_tries (rm 4 0 0) Q 0 0 46 [some (.ref q), some (.int (I v1)), some (.int (I v2)), some (.int (I (n : Int))), some (.int (I (mw (fun w => ((rmC ss ((n / 10 : Nat) : Int) ((n % 10 : Nat) : Int) (w : Int) : Nat) : Int)) i))), some (.int (I (i : Int)))] [] hp := by
  intro m
  induction m with
  | zero => intro i h1 h2; exact absurd h1 (by omega)
  | succ m ih =>
    intro i h1 h2
    have q1 := mw_in (t := fun w => ((rmC ss ((n / 10 : Nat) : Int) ((n % 10 : Nat) : Int) (w : Int) : Nat) : Int)) (fun k => by have := cnt_le (rmB ss ((n / 10 : Nat) : Int) ((n % 10 : Nat) : Int) (k : Int)) 19; unfold rmC; omega) i
    have q2 : rmC ss ((n / 10 : Nat) : Int) ((n % 10 : Nat) : Int) (i : Int) ≤ 19 := cnt_le _ _
    refine wp_iload (pc := 46) dX12_tries_46 rfl ?_
    refine wp_bipush (pc := 48) (y := 9) dX12_tries_48 (by decide) ?_
    refine wp_icmp_gt (pc := 50) 80 dX12_tries_50 (by decide) (by first | omega | exact TI.i5 (by assumption) | exact TI.i3 (by assumption) | exact TI.i2 (by assumption) | exact TI.i1 (by assumption) | exact TI.i0 (by assumption) | exact TI.i4 (by assumption) | exact TI.i6 (by assumption) | exact TI.i7 (by assumption)) (by first | omega | exact TI.i5 (by assumption) | exact TI.i3 (by assumption) | exact TI.i2 (by assumption) | exact TI.i1 (by assumption) | exact TI.i0 (by assumption) | exact TI.i4 (by assumption) | exact TI.i6 (by assumption) | exact TI.i7 (by assumption)) (fun c50 => ?_) (fun c50 => ?_)
    ·
      have e : i = 10 := by omega
      subst e
      refine wp_ls ?_ Kn
      repeat' (first | exact LE_0 | refine LE_s rfl ?_ | refine LE_s (I_c (by first | omega | (simp only [sm]; omega))) ?_ | refine LE_s (J_c (by first | omega | exact Int.pow_succ _ _ | exact (Int.pow_succ _ _).symm | exact (Int.pow_zero _).symm | (simp only [sm]; omega))) ?_ | refine LE_n ?_)
    ·
      refine wp_iload (pc := 53) dX12_tries_53 rfl ?_
      refine wp_aload_n (pc := 55) dX12_tries_55 rfl ?_
      refine wp_iload_n (pc := 56) dX12_tries_56 rfl ?_
      refine wp_bipush (pc := 57) (y := 10) dX12_tries_57 (by decide) ?_
      refine wp_idiv (pc := 59) dX12_tries_59 (by decide) (show I (n : Int) / I 10 = I ((n / 10 : Nat) : Int) by rw [I_div (by omega) (by omega) (by omega) (by omega)]; rfl) ?_
      refine wp_iload_n (pc := 60) dX12_tries_60 rfl ?_
      refine wp_bipush (pc := 61) (y := 10) dX12_tries_61 (by decide) ?_
      refine wp_irem (pc := 63) dX12_tries_63 (by decide) (show _ = I ((n % 10 : Nat) : Int) by rw [I_rem (by omega) (by omega) (by omega) (by omega)]; rfl) ?_
      refine wp_iload (pc := 64) dX12_tries_64 rfl ?_
      refine wp_Vp (pc := 66) dX12_tries_66 cl_X12_337 (sp_Ref_rightMany K ms so (by omega) (by omega) (by omega)) rfl rfl K.1 (by rfl) (by decide) (Nat.le_of_ble_eq_true rfl) ?_
      refine wp_max (pc := 69) dX12_tries_69 ml_X12_199 ma_max_s ma_ini ma_max_c (by decide) (by decide) (by decide) (by decide) (Nat.le_of_ble_eq_true rfl) (by first | omega | exact TI.i5 (by assumption) | exact TI.i3 (by assumption) | exact TI.i2 (by assumption) | exact TI.i1 (by assumption) | exact TI.i0 (by assumption) | exact TI.i4 (by assumption) | exact TI.i6 (by assumption) | exact TI.i7 (by assumption)) (by first | omega | exact TI.i5 (by assumption) | exact TI.i3 (by assumption) | exact TI.i2 (by assumption) | exact TI.i1 (by assumption) | exact TI.i0 (by assumption) | exact TI.i4 (by assumption) | exact TI.i6 (by assumption) | exact TI.i7 (by assumption)) ?_
      refine wp_istore (pc := 72) dX12_tries_72 (by decide) ?_
      refine wp_iinc (pc := 74) dX12_tries_74 rfl (by decide) ?_
      refine wp_goto (pc := 77) 46 dX12_tries_77 (by decide) ?_
      refine wp_ls ?_ (ih (i + 1) (by omega) (by omega))
      repeat' (first | exact LE_0 | refine LE_s rfl ?_ | refine LE_s (I_c (by first | omega | (simp only [sm]; omega))) ?_ | refine LE_s (J_c (by first | omega | exact Int.pow_succ _ _ | exact (Int.pow_succ _ _).symm | exact (Int.pow_zero _).symm | (simp only [sm]; omega))) ?_ | refine LE_n ?_)
theorem try_80 (K : ModAt hp q V A rd rl) (ms : Mss V A ss) (so : ssO ss) (hn : n < 20) {Q : Option Value → Hp → Prop} {v1 v2 : Int} (r2 : 0 ≤ v2 ∧ v2 ≤ 1000000) (Kn : wp g MX12_tries (rm 4 0 0) Q 0 0 34 [some (.ref q), some (.int (I (if trf ss n < v2 then (n : Int) else v1))), some (.int (I (if trf ss n < v2 then trf ss n else v2))), some (.int (I ((n : Int) + 1))), none, none] [] hp) : wp g MX12_tries (rm 4 0 0) Q 0 0 40 [some (.ref q), some (.int (I v1)), some (.int (I v2)), some (.int (I (n : Int))), none, none] [] hp := by
  have hin := trf_in ss n
  refine wp_iconst (pc := 40) dX12_tries_40 ?_
  refine wp_istore (pc := 41) dX12_tries_41 (by decide) ?_
  refine wp_iconst (pc := 43) dX12_tries_43 ?_
  refine wp_istore (pc := 44) dX12_tries_44 (by decide) ?_
  refine wp_ls ?_ (lp_try2 (n := n) (v1 := v1) (v2 := v2) K ms so hn ?_ 11 0 (by omega) (by omega))
  · repeat' (first | exact LE_0 | refine LE_s rfl ?_ | refine LE_s (I_c (by first | omega | (simp only [sm]; omega))) ?_ | refine LE_s (J_c (by first | omega | exact Int.pow_succ _ _ | exact (Int.pow_succ _ _).symm | exact (Int.pow_zero _).symm | (simp only [sm]; omega))) ?_ | refine LE_n ?_)
  ·
    refine wp_iload (pc := 80) dX12_tries_80 rfl ?_
    refine wp_aload_n (pc := 82) dX12_tries_82 rfl ?_
    refine wp_iconst (pc := 83) dX12_tries_83 ?_
    refine wp_iload_n (pc := 84) dX12_tries_84 rfl ?_
    refine wp_bipush (pc := 85) (y := 10) dX12_tries_85 (by decide) ?_
    refine wp_idiv (pc := 87) dX12_tries_87 (by decide) (show I (n : Int) / I 10 = I ((n / 10 : Nat) : Int) by rw [I_div (by omega) (by omega) (by omega) (by omega)]; rfl) ?_
    refine wp_isub (pc := 88) dX12_tries_88 ?_
    refine wp_iconst (pc := 89) dX12_tries_89 ?_
    refine wp_iconst (pc := 90) dX12_tries_90 ?_
    refine wp_Vp (pc := 91) dX12_tries_91 cl_X12_337 (sp_Ref_rightMany K ms so (by omega) (by decide) (by decide)) rfl rfl K.1 (by rfl) (by decide) (Nat.le_of_ble_eq_true rfl) ?_
    refine wp_imul (pc := 94) dX12_tries_94 ?_
    refine wp_topE (show mw (fun w => ((rmC ss ((n / 10 : Nat) : Int) ((n % 10 : Nat) : Int) (w : Int) : Nat) : Int)) 10 * ((rmC ss (1 - ((n / 10 : Nat) : Int)) 0 (-1) : Nat) : Int) = trf ss n by rw [rmC_all]; rfl) ?_
    refine wp_istore (pc := 95) dX12_tries_95 (by decide) ?_
    refine wp_iload (pc := 97) dX12_tries_97 rfl ?_
    refine wp_iload_n (pc := 99) dX12_tries_99 rfl ?_
    refine wp_icmp_lt (pc := 100) 106 dX12_tries_100 (by decide) (by first | omega | exact TI.i5 (by assumption) | exact TI.i3 (by assumption) | exact TI.i2 (by assumption) | exact TI.i1 (by assumption) | exact TI.i0 (by assumption) | exact TI.i4 (by assumption) | exact TI.i6 (by assumption) | exact TI.i7 (by assumption)) (by first | omega | exact TI.i5 (by assumption) | exact TI.i3 (by assumption) | exact TI.i2 (by assumption) | exact TI.i1 (by assumption) | exact TI.i0 (by assumption) | exact TI.i4 (by assumption) | exact TI.i6 (by assumption) | exact TI.i7 (by assumption)) (fun c100 => ?_) (fun c100 => ?_)
    ·
      rw [if_pos c100, if_pos c100] at Kn -- go
      refine wp_iload_n (pc := 106) dX12_tries_106 rfl ?_
      refine wp_istore_n (pc := 107) dX12_tries_107 (by decide) ?_
      refine wp_iload (pc := 108) dX12_tries_108 rfl ?_
      refine wp_istore_n (pc := 110) dX12_tries_110 (by decide) ?_
      refine wp_iinc (pc := 111) dX12_tries_111 rfl (by decide) ?_
      refine wp_goto (pc := 114) 34 dX12_tries_114 (by decide) ?_
      refine wp_ls ?_ Kn
      repeat' (first | exact LE_0 | refine LE_s rfl ?_ | refine LE_s (I_c (by first | omega | (simp only [sm]; omega))) ?_ | refine LE_s (J_c (by first | omega | exact Int.pow_succ _ _ | exact (Int.pow_succ _ _).symm | exact (Int.pow_zero _).symm | (simp only [sm]; omega))) ?_ | refine LE_n ?_)
    ·
      rw [if_neg c100, if_neg c100] at Kn -- go
      refine wp_goto (pc := 103) 111 dX12_tries_103 (by decide) ?_
      refine wp_iinc (pc := 111) dX12_tries_111 rfl (by decide) ?_
      refine wp_goto (pc := 114) 34 dX12_tries_114 (by decide) ?_
      refine wp_ls ?_ Kn
      repeat' (first | exact LE_0 | refine LE_s rfl ?_ | refine LE_s (I_c (by first | omega | (simp only [sm]; omega))) ?_ | refine LE_s (J_c (by first | omega | exact Int.pow_succ _ _ | exact (Int.pow_succ _ _).symm | exact (Int.pow_zero _).symm | (simp only [sm]; omega))) ?_ | refine LE_n ?_)
theorem lp_try1 (M : MX V A N T U tx rw rt hs ss KT) (so : ssO ss) (K : ModAt hp q V2 A2 rd (.ref (q + 5))) (O : SO hp0 hp q (q + 25)) (h6 : V2 6 = 0) (sV : SV qV V V2) (sA : SA qA A A2) : ∀ (m i : Nat), 19 < i + m → i ≤ 19 → wp g MX12_tries (rm 4 0 0) (Eff (.int (I ((akb (trf ss) 19).1 : Nat))) (fun hp3 => MAt hp3 q 0 N T U tx [(akb (trf ss) 19).2] rt hs ss KT ∧ SO hp0 hp3 q (q + 25))) 0 0 34 [some (.ref q), some (.int (I ((akb (trf ss) i).1 : Nat))), some (.int (I (akb (trf ss) i).2)), some (.int (I ((i + 1 : Nat) : Int))), none, none] [] hp := by
  intro m
  induction m with
  | zero => intro i h1 h2; exact absurd h1 (by omega)
  | succ m ih =>
    intro i h1 h2
    have q1 := akb_in (trf ss) (trf_in ss) i
    have ms : Mss V2 A2 ss := Mss.tr M.2.2.2.2.2.2.2.1 (sV 32 (by decide)) (sA 17 (by decide)) (sA 18 (by decide)) (sA 19 (by decide))
    refine wp_iload_n (pc := 34) dX12_tries_34 rfl ?_
    refine wp_bipush (pc := 35) (y := 20) dX12_tries_35 (by decide) ?_
    refine wp_icmp_ge (pc := 37) 117 dX12_tries_37 (by decide) (by first | omega | exact TI.i5 (by assumption) | exact TI.i3 (by assumption) | exact TI.i2 (by assumption) | exact TI.i1 (by assumption) | exact TI.i0 (by assumption) | exact TI.i4 (by assumption) | exact TI.i6 (by assumption) | exact TI.i7 (by assumption)) (by first | omega | exact TI.i5 (by assumption) | exact TI.i3 (by assumption) | exact TI.i2 (by assumption) | exact TI.i1 (by assumption) | exact TI.i0 (by assumption) | exact TI.i4 (by assumption) | exact TI.i6 (by assumption) | exact TI.i7 (by assumption)) (fun c37 => ?_) (fun c37 => ?_)
    ·
      have e : i = 19 := by omega
      subst e -- go
      refine wp_aload_n (pc := 117) dX12_tries_117 rfl ?_
      refine wp_iconst (pc := 118) dX12_tries_118 ?_
      refine wm_put dX12_tries_119 pf_X12_89 K O (by decide) mset_5 rfl rfl (fun hp K O => ?_)
      refine wp_aload_n (pc := 122) dX12_tries_122 rfl ?_
      refine wp_iload_n (pc := 123) dX12_tries_123 rfl ?_
      refine wp_i2l (pc := 124) dX12_tries_124 (by first | omega | exact TI.i5 (by assumption) | exact TI.i3 (by assumption) | exact TI.i2 (by assumption) | exact TI.i1 (by assumption) | exact TI.i0 (by assumption) | exact TI.i4 (by assumption) | exact TI.i6 (by assumption) | exact TI.i7 (by assumption)) ?_
      refine wp_Vn (pc := 125) dX12_tries_125 cl_X12_253 (sp_Ref_tellR K (by first | assumption | exact Mrw.z (by repeat (first | assumption | exact pv10 | exact pv11 | (apply pv_o; decide; decide) | exact upN_eq | (apply upN_ne; decide) | (apply SV_at; assumption; decide) | exact rfl))) (by first | decide | (simp; omega) | simp | omega)) rfl rfl K.1 (by rfl) (by decide) (Nat.le_of_ble_eq_true rfl) (fun hp125 e125 => ?_)
      obtain ⟨⟨V125, A125, K, sV125, sA125, hR125⟩, O1⟩ := e125; replace O := SO.tr O O1
      refine wp_iload_n (pc := 128) dX12_tries_128 rfl ?_
      exact wp_ir (pc := 129) dX12_tries_129 rfl (by decide) (by decide) (by first | rfl | omega) ⟨⟨_, _, _, K, (by repeat (first | assumption | exact pv10 | exact pv11 | (apply pv_o; decide; decide) | exact upN_eq | (apply upN_ne; decide) | (apply SV_at; assumption; decide) | exact rfl)), M.qu (by repeat (first | exact SV.rf | assumption | (apply SV.up1; decide) | (apply SV.tr2; assumption; decide))) (by repeat (first | exact SA.rf | assumption | (apply SA.up1; decide) | (apply SA.tr2; assumption; decide))) (by first | assumption | exact Mrw.z (by repeat (first | assumption | exact pv10 | exact pv11 | (apply pv_o; decide; decide) | exact upN_eq | (apply upN_ne; decide) | (apply SV_at; assumption; decide) | exact rfl)) | exact Mrw.tr (by assumption) (by repeat (first | assumption | exact pv10 | exact pv11 | (apply pv_o; decide; decide) | exact upN_eq | (apply upN_ne; decide) | (apply SV_at; assumption; decide) | exact rfl)) (by repeat (first | assumption | exact upA_eq | (apply upA_ne; first | decide | omega) | (apply SA_at; assumption; first | decide | (simp; omega)) | exact rfl)))⟩, O⟩
    ·
      refine try_80 (n := i + 1) K ms so (by omega) (by omega) (wp_ls ?_ (ih (i + 1) (by omega) (by omega)))
      have e1 : akb (trf ss) (i + 1) = if trf ss (i + 1) < (akb (trf ss) i).2 then (i + 1, trf ss (i + 1)) else akb (trf ss) i := rfl
      rw [e1]
      by_cases z : trf ss (i + 1) < (akb (trf ss) i).2
      · rw [if_pos z, if_pos z, if_pos z]
        repeat' (first | exact LE_0 | refine LE_s rfl ?_ | refine LE_s (I_c (by first | omega | (simp only [sm]; omega))) ?_ | refine LE_s (J_c (by first | omega | exact Int.pow_succ _ _ | exact (Int.pow_succ _ _).symm | exact (Int.pow_zero _).symm | (simp only [sm]; omega))) ?_ | refine LE_n ?_)
      · rw [if_neg z, if_neg z, if_neg z]
        repeat' (first | exact LE_0 | refine LE_s rfl ?_ | refine LE_s (I_c (by first | omega | (simp only [sm]; omega))) ?_ | refine LE_s (J_c (by first | omega | exact Int.pow_succ _ _ | exact (Int.pow_succ _ _).symm | exact (Int.pow_zero _).symm | (simp only [sm]; omega))) ?_ | refine LE_n ?_)
theorem sp_Ref_tries (hM : MAt hp q th N T U tx rw rt hs ss KT) (so : ssO ss) : Sp g MX12_tries (rm 4 0 0) [.ref q] hp (Eff (.int (I (if lwC ss = 0 then -2 else ((akb (trf ss) 19).1 : Int)))) (fun hp2 => MAt hp2 q 0 N T U tx (if lwC ss = 0 then rw else [(akb (trf ss) 19).2]) rt hs ss KT ∧ SO hp hp2 q (q + 25))) := by
  have hw := lwC_in ss
  have er : ((rmC ss 0 0 (-1) : Nat) : Int) * ((rmC ss 1 0 (-1) : Nat) : Int) = lwC ss := by rw [rmC_all, rmC_all]; rfl
  have ht0 := trf_in ss 0
  refine Sp_mk rfl (Nat.le_of_ble_eq_true rfl) ?_
  show wp g _ _ _ 0 0 0 [some (.ref q), none, none, none, none, none] [] hp
  have O := SO.rf (hp := hp) (lo := q) (hi := q + 25)
  obtain ⟨V, A, rd, K, hth, M⟩ := hM
  have hu := M.ru (q := q)
  have M2 := M
  obtain ⟨m1, mA, mt, mr, mu, mU, mh, ms, mk⟩ := M2
  refine wp_aload_n (pc := 0) dX12_tries_0 rfl ?_
  refine wp_iconst (pc := 1) dX12_tries_1 ?_
  refine wm_put dX12_tries_2 pf_X12_85 K O (by decide) mset_6 rfl rfl (fun hp K O => ?_)
  refine wp_aload_n (pc := 5) dX12_tries_5 rfl ?_
  refine wp_iconst (pc := 6) dX12_tries_6 ?_
  refine wp_iconst (pc := 7) dX12_tries_7 ?_
  refine wp_iconst (pc := 8) dX12_tries_8 ?_
  refine wp_Vp (pc := 9) dX12_tries_9 cl_X12_337 (sp_Ref_rightMany K (Mss.tr ms (by repeat (first | assumption | exact pv10 | exact pv11 | (apply pv_o; decide; decide) | exact upN_eq | (apply upN_ne; decide) | (apply SV_at; assumption; decide) | exact rfl)) (by repeat (first | assumption | exact upA_eq | (apply upA_ne; first | decide | omega) | (apply SA_at; assumption; first | decide | (simp; omega)) | exact rfl)) (by repeat (first | assumption | exact upA_eq | (apply upA_ne; first | decide | omega) | (apply SA_at; assumption; first | decide | (simp; omega)) | exact rfl)) (by repeat (first | assumption | exact upA_eq | (apply upA_ne; first | decide | omega) | (apply SA_at; assumption; first | decide | (simp; omega)) | exact rfl))) so (by decide) (by decide) (by decide)) rfl rfl K.1 (by rfl) (by decide) (Nat.le_of_ble_eq_true rfl) ?_
  refine wp_aload_n (pc := 12) dX12_tries_12 rfl ?_
  refine wp_iconst (pc := 13) dX12_tries_13 ?_
  refine wp_iconst (pc := 14) dX12_tries_14 ?_
  refine wp_iconst (pc := 15) dX12_tries_15 ?_
  refine wp_Vp (pc := 16) dX12_tries_16 cl_X12_337 (sp_Ref_rightMany K (Mss.tr ms (by repeat (first | assumption | exact pv10 | exact pv11 | (apply pv_o; decide; decide) | exact upN_eq | (apply upN_ne; decide) | (apply SV_at; assumption; decide) | exact rfl)) (by repeat (first | assumption | exact upA_eq | (apply upA_ne; first | decide | omega) | (apply SA_at; assumption; first | decide | (simp; omega)) | exact rfl)) (by repeat (first | assumption | exact upA_eq | (apply upA_ne; first | decide | omega) | (apply SA_at; assumption; first | decide | (simp; omega)) | exact rfl)) (by repeat (first | assumption | exact upA_eq | (apply upA_ne; first | decide | omega) | (apply SA_at; assumption; first | decide | (simp; omega)) | exact rfl))) so (by decide) (by decide) (by decide)) rfl rfl K.1 (by rfl) (by decide) (Nat.le_of_ble_eq_true rfl) ?_
  refine wp_imul (pc := 19) dX12_tries_19 ?_
  refine wp_topE er ?_
  first | refine wp_ifb_ne (pc := 20) 26 dX12_tries_20 (by decide) (fun c20 => ?_) (fun c20 => ?_) | refine wp_if_ne (pc := 20) 26 dX12_tries_20 (by decide) (by first | omega | exact TI.i5 (by assumption) | exact TI.i3 (by assumption) | exact TI.i2 (by assumption) | exact TI.i1 (by assumption) | exact TI.i0 (by assumption) | exact TI.i4 (by assumption) | exact TI.i6 (by assumption) | exact TI.i7 (by assumption)) (fun c20 => ?_) (fun c20 => ?_)
  ·
    rw [if_neg c20, if_neg c20] -- go
    refine wp_iconst (pc := 26) dX12_tries_26 ?_
    refine wp_istore_n (pc := 27) dX12_tries_27 (by decide) ?_
    refine wp_ldcw (pc := 28) (y := 1000000) dX12_tries_28 kc_X12_327 ?_
    refine wp_istore_n (pc := 31) dX12_tries_31 (by decide) ?_
    refine wp_iconst (pc := 32) dX12_tries_32 ?_
    refine wp_istore_n (pc := 33) dX12_tries_33 (by decide) ?_
    refine wp_iload_n (pc := 34) dX12_tries_34 rfl ?_
    refine wp_bipush (pc := 35) (y := 20) dX12_tries_35 (by decide) ?_
    refine wp_icmp_ge (pc := 37) 117 dX12_tries_37 (by decide) (by decide) (by decide) (fun c => absurd c (by decide)) (fun _ => ?_)
    refine try_80 (n := 0) K (Mss.tr ms (by repeat (first | assumption | exact pv10 | exact pv11 | (apply pv_o; decide; decide) | exact upN_eq | (apply upN_ne; decide) | (apply SV_at; assumption; decide) | exact rfl)) (by repeat (first | assumption | exact upA_eq | (apply upA_ne; first | decide | omega) | (apply SA_at; assumption; first | decide | (simp; omega)) | exact rfl)) (by repeat (first | assumption | exact upA_eq | (apply upA_ne; first | decide | omega) | (apply SA_at; assumption; first | decide | (simp; omega)) | exact rfl)) (by repeat (first | assumption | exact upA_eq | (apply upA_ne; first | decide | omega) | (apply SA_at; assumption; first | decide | (simp; omega)) | exact rfl))) so (by decide) (by decide) (wp_ls ?_ (lp_try1 (V := V) (A := A) M so K O (by repeat (first | assumption | exact pv10 | exact pv11 | (apply pv_o; decide; decide) | exact upN_eq | (apply upN_ne; decide) | (apply SV_at; assumption; decide) | exact rfl)) (by repeat (first | exact SV.rf | assumption | (apply SV.up1; decide) | (apply SV.tr2; assumption; decide))) (by repeat (first | exact SA.rf | assumption | (apply SA.up1; decide) | (apply SA.tr2; assumption; decide))) 20 0 (by omega) (by omega)))
    rw [if_pos (by omega), if_pos (by omega)]
    repeat' (first | exact LE_0 | refine LE_s rfl ?_ | refine LE_s (I_c (by first | omega | (simp only [sm]; omega))) ?_ | refine LE_s (J_c (by first | omega | exact Int.pow_succ _ _ | exact (Int.pow_succ _ _).symm | exact (Int.pow_zero _).symm | (simp only [sm]; omega))) ?_ | refine LE_n ?_)
  ·
    rw [if_pos c20, if_pos c20] -- go
    refine wp_bipush (pc := 23) (y := (-2)) dX12_tries_23 (by decide) ?_
    exact wp_ir (pc := 25) dX12_tries_25 rfl (by decide) (by decide) (by first | rfl | omega) ⟨⟨_, _, _, K, (by repeat (first | assumption | exact pv10 | exact pv11 | (apply pv_o; decide; decide) | exact upN_eq | (apply upN_ne; decide) | (apply SV_at; assumption; decide) | exact rfl)), M.qu (by repeat (first | exact SV.rf | assumption | (apply SV.up1; decide) | (apply SV.tr2; assumption; decide))) (by repeat (first | exact SA.rf | assumption | (apply SA.up1; decide) | (apply SA.tr2; assumption; decide))) (by first | assumption | exact Mrw.z (by repeat (first | assumption | exact pv10 | exact pv11 | (apply pv_o; decide; decide) | exact upN_eq | (apply upN_ne; decide) | (apply SV_at; assumption; decide) | exact rfl)) | exact Mrw.tr (by assumption) (by repeat (first | assumption | exact pv10 | exact pv11 | (apply pv_o; decide; decide) | exact upN_eq | (apply upN_ne; decide) | (apply SV_at; assumption; decide) | exact rfl)) (by repeat (first | assumption | exact upA_eq | (apply upA_ne; first | decide | omega) | (apply SA_at; assumption; first | decide | (simp; omega)) | exact rfl)))⟩, O⟩
end MS_

