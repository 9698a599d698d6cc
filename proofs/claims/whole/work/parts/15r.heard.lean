/-! the reference: what was heard, what was listened to -/
section MR_
variable {g : GT} {hp hp0 : Hp} {q N n a b s k p : Nat} {V V2 V3 : Nat → Int} {A A2 A3 : Nat → Int → Int} {rd rl : Value} {i j x v c y z w th : Int} {T T2 : Nat → Int → Int} {l t cs tx rw rw2 rt : List Int} {G f F D : Int → Int} {U U2 : List (Nat → Int → Int)} {hs : List (Int × Int)} {ss : List (Int × Int × Int)} {KT : Nat → Option (Nat → Int → Int)} {L L2 : List Nat}
theorem getD_ap {α : Type} {l : List α} {e d : α} {i : Nat} (hi : i < (l ++ [e]).length) : (l ++ [e]).getD i d = if i = l.length then e else l.getD i d := by
  rw [List.length_append] at hi
  have hi' : i < l.length + 1 := hi
  by_cases z : i = l.length
  · rw [if_pos z, z]; simp
  · rw [if_neg z]; simp [List.getElem?_append_left (show i < l.length by omega)]
theorem Mhs.ad (h : Mhs V A hs) (hl : hs.length < 12) (h28 : V2 28 = (hs.length : Int) + 1) (h15 : A2 15 = updI (A 15) (hs.length : Int) x) (h16 : A2 16 = updI (A 16) (hs.length : Int) y) : Mhs V2 A2 (hs ++ [(x, y)]) := by
  refine ⟨by rw [h28, List.length_append]; rfl, by rw [List.length_append]; exact hl, fun i hi => ?_⟩
  rw [h15, h16, getD_ap hi]
  rw [List.length_append] at hi
  have hi' : i < hs.length + 1 := hi
  by_cases z : i = hs.length
  · rw [if_pos z, z, updI_eq, updI_eq]; exact ⟨rfl, rfl⟩
  · rw [if_neg z, updI_ne (by omega), updI_ne (by omega)]; exact h.2.2 i (by omega)
abbrev heO2 (hs : List (Int × Int)) (x y : Int) : Prop := hs.length < 12 ∧ 0 ≤ y ∧ y ≤ mof x
theorem sp_Ref_heard (hM : MAt hp q th N T U tx rw rt hs ss KT) (rx : InR x) (ry : InR y) : Sp g MX12_heard (rm 1 0 0) [.ref q, .int (I x), .int (I y)] hp (Eff (.int (I (if heO2 hs x y then (hs.length : Int) + 1 else -1))) (fun hp2 => MAt hp2 q 0 N T U tx rw rt (if heO2 hs x y then hs ++ [(x, y)] else hs) ss KT ∧ SO hp hp2 q (q + 25))) := by
  have hmo : mof x = if x = 0 then 99 else if x = 1 ∨ x = 3 then 1 else if x = 2 then 9 else if x = 4 then 99 else -1 := rfl
  refine Sp_mk rfl (Nat.le_of_ble_eq_true rfl) ?_
  show wp g _ _ _ 0 0 0 [some (.ref q), some (.int (I x)), some (.int (I y)), none] [] hp
  have O := SO.rf (hp := hp) (lo := q) (hi := q + 25)
  obtain ⟨V, A, rd, K, hth, M⟩ := hM
  have hu := M.ru (q := q)
  have M2 := M
  obtain ⟨m1, mA, mt, mr, mu, mU, mh, ms, mk⟩ := M2
  have e28 := mh.1
  have e12 := mh.2.1
  refine wp_aload_n (pc := 0) dX12_heard_0 rfl ?_
  refine wp_iconst (pc := 1) dX12_heard_1 ?_
  refine wm_put dX12_heard_2 pf_X12_85 K O (by decide) mset_6 rfl rfl (fun hp K O => ?_)
  refine wp_iload_n (pc := 5) dX12_heard_5 rfl ?_
  refine wp_iconst (pc := 6) dX12_heard_6 ?_
  refine wp_icmp_eq (pc := 7) 15 dX12_heard_7 (by decide) (by first | omega | exact TI.i5 (by assumption) | exact TI.i3 (by assumption) | exact TI.i2 (by assumption) | exact TI.i1 (by assumption) | exact TI.i0 (by assumption) | exact TI.i4 (by assumption) | exact TI.i6 (by assumption) | exact TI.i7 (by assumption)) (by first | omega | exact TI.i5 (by assumption) | exact TI.i3 (by assumption) | exact TI.i2 (by assumption) | exact TI.i1 (by assumption) | exact TI.i0 (by assumption) | exact TI.i4 (by assumption) | exact TI.i6 (by assumption) | exact TI.i7 (by assumption)) (fun c7 => ?_) (fun c7 => ?_)
  ·
    first
    | (exfalso; omega)
    | skip
      refine wp_iconst (pc := 15) dX12_heard_15 ?_
      refine wp_goto (pc := 16) 31 dX12_heard_16 (by decide) ?_
      refine wp_istore_n (pc := 31) dX12_heard_31 (by decide) ?_
      refine wp_iload_n (pc := 32) dX12_heard_32 rfl ?_
      refine wp_iconst (pc := 33) dX12_heard_33 ?_
      refine wp_iconst (pc := 34) dX12_heard_34 ?_
      refine wp_Sp (pc := 35) dX12_heard_35 cl_X12_95 (sp_Ref_in (by first | assumption | omega | (repeat (first | assumption | exact pv10 | exact pv11 | (apply pv_o; decide; decide) | exact upN_eq | (apply upN_ne; decide) | (apply SV_at; assumption; decide) | exact upA_eq | (apply upA_ne; first | decide | omega) | (apply SA_at; assumption; first | decide | (simp; omega)) | exact rfl))) (by first | assumption | omega | (repeat (first | assumption | exact pv10 | exact pv11 | (apply pv_o; decide; decide) | exact upN_eq | (apply upN_ne; decide) | (apply SV_at; assumption; decide) | exact upA_eq | (apply upA_ne; first | decide | omega) | (apply SA_at; assumption; first | decide | (simp; omega)) | exact rfl))) (by first | assumption | omega | (repeat (first | assumption | exact pv10 | exact pv11 | (apply pv_o; decide; decide) | exact upN_eq | (apply upN_ne; decide) | (apply SV_at; assumption; decide) | exact upA_eq | (apply upA_ne; first | decide | omega) | (apply SA_at; assumption; first | decide | (simp; omega)) | exact rfl)))) rfl rfl (by decide) (Nat.le_of_ble_eq_true rfl) ?_
      first | refine wp_ifb_eq (pc := 38) 59 dX12_heard_38 (by decide) (fun c38 => ?_) (fun c38 => ?_) | refine wp_if_eq (pc := 38) 59 dX12_heard_38 (by decide) (by first | omega | exact TI.i5 (by assumption) | exact TI.i3 (by assumption) | exact TI.i2 (by assumption) | exact TI.i1 (by assumption) | exact TI.i0 (by assumption) | exact TI.i4 (by assumption) | exact TI.i6 (by assumption) | exact TI.i7 (by assumption)) (fun c38 => ?_) (fun c38 => ?_)
      ·
        rw [if_neg (show ¬ heO2 hs x y by revert hmo; unfold heO2; (repeat' split) <;> omega), if_neg (show ¬ heO2 hs x y by revert hmo; unfold heO2; (repeat' split) <;> omega)] -- go
        refine wp_iconst (pc := 59) dX12_heard_59 ?_
        exact wp_ir (pc := 60) dX12_heard_60 rfl (by decide) (by decide) (by first | rfl | omega) ⟨⟨_, _, _, K, (by repeat (first | assumption | exact pv10 | exact pv11 | (apply pv_o; decide; decide) | exact upN_eq | (apply upN_ne; decide) | (apply SV_at; assumption; decide) | exact rfl)), M.qu (by repeat (first | exact SV.rf | assumption | (apply SV.up1; decide) | (apply SV.tr2; assumption; decide))) (by repeat (first | exact SA.rf | assumption | (apply SA.up1; decide) | (apply SA.tr2; assumption; decide))) (by first | assumption | exact Mrw.z (by repeat (first | assumption | exact pv10 | exact pv11 | (apply pv_o; decide; decide) | exact upN_eq | (apply upN_ne; decide) | (apply SV_at; assumption; decide) | exact rfl)) | exact Mrw.tr (by assumption) (by repeat (first | assumption | exact pv10 | exact pv11 | (apply pv_o; decide; decide) | exact upN_eq | (apply upN_ne; decide) | (apply SV_at; assumption; decide) | exact rfl)) (by repeat (first | assumption | exact upA_eq | (apply upA_ne; first | decide | omega) | (apply SA_at; assumption; first | decide | (simp; omega)) | exact rfl)))⟩, O⟩
      ·
        first
        | (exfalso; omega)
        | skip
          refine wp_iload_n (pc := 41) dX12_heard_41 rfl ?_
          refine wp_iconst (pc := 42) dX12_heard_42 ?_
          refine wp_iload_n (pc := 43) dX12_heard_43 rfl ?_
          refine wp_Sp (pc := 44) dX12_heard_44 cl_X12_95 (sp_Ref_in (by first | assumption | omega | (repeat (first | assumption | exact pv10 | exact pv11 | (apply pv_o; decide; decide) | exact upN_eq | (apply upN_ne; decide) | (apply SV_at; assumption; decide) | exact upA_eq | (apply upA_ne; first | decide | omega) | (apply SA_at; assumption; first | decide | (simp; omega)) | exact rfl))) (by first | assumption | omega | (repeat (first | assumption | exact pv10 | exact pv11 | (apply pv_o; decide; decide) | exact upN_eq | (apply upN_ne; decide) | (apply SV_at; assumption; decide) | exact upA_eq | (apply upA_ne; first | decide | omega) | (apply SA_at; assumption; first | decide | (simp; omega)) | exact rfl))) (by first | assumption | omega | (repeat (first | assumption | exact pv10 | exact pv11 | (apply pv_o; decide; decide) | exact upN_eq | (apply upN_ne; decide) | (apply SV_at; assumption; decide) | exact upA_eq | (apply upA_ne; first | decide | omega) | (apply SA_at; assumption; first | decide | (simp; omega)) | exact rfl)))) rfl rfl (by decide) (Nat.le_of_ble_eq_true rfl) ?_
          first | refine wp_ifb_eq (pc := 47) 59 dX12_heard_47 (by decide) (fun c47 => ?_) (fun c47 => ?_) | refine wp_if_eq (pc := 47) 59 dX12_heard_47 (by decide) (by first | omega | exact TI.i5 (by assumption) | exact TI.i3 (by assumption) | exact TI.i2 (by assumption) | exact TI.i1 (by assumption) | exact TI.i0 (by assumption) | exact TI.i4 (by assumption) | exact TI.i6 (by assumption) | exact TI.i7 (by assumption)) (fun c47 => ?_) (fun c47 => ?_)
          ·
            rw [if_neg (show ¬ heO2 hs x y by revert hmo; unfold heO2; (repeat' split) <;> omega), if_neg (show ¬ heO2 hs x y by revert hmo; unfold heO2; (repeat' split) <;> omega)] -- go
            refine wp_iconst (pc := 59) dX12_heard_59 ?_
            exact wp_ir (pc := 60) dX12_heard_60 rfl (by decide) (by decide) (by first | rfl | omega) ⟨⟨_, _, _, K, (by repeat (first | assumption | exact pv10 | exact pv11 | (apply pv_o; decide; decide) | exact upN_eq | (apply upN_ne; decide) | (apply SV_at; assumption; decide) | exact rfl)), M.qu (by repeat (first | exact SV.rf | assumption | (apply SV.up1; decide) | (apply SV.tr2; assumption; decide))) (by repeat (first | exact SA.rf | assumption | (apply SA.up1; decide) | (apply SA.tr2; assumption; decide))) (by first | assumption | exact Mrw.z (by repeat (first | assumption | exact pv10 | exact pv11 | (apply pv_o; decide; decide) | exact upN_eq | (apply upN_ne; decide) | (apply SV_at; assumption; decide) | exact rfl)) | exact Mrw.tr (by assumption) (by repeat (first | assumption | exact pv10 | exact pv11 | (apply pv_o; decide; decide) | exact upN_eq | (apply upN_ne; decide) | (apply SV_at; assumption; decide) | exact rfl)) (by repeat (first | assumption | exact upA_eq | (apply upA_ne; first | decide | omega) | (apply SA_at; assumption; first | decide | (simp; omega)) | exact rfl)))⟩, O⟩
          ·
            first
            | (exfalso; omega)
            | skip
              refine wp_aload_n (pc := 50) dX12_heard_50 rfl ?_
              refine wm_gets dX12_heard_51 gf_X12_318 K (by rfl) (by repeat (first | assumption | exact pv10 | exact pv11 | (apply pv_o; decide; decide) | exact upN_eq | (apply upN_ne; decide) | (apply SV_at; assumption; decide) | exact rfl)) ?_
              refine wp_bipush (pc := 54) (y := 12) dX12_heard_54 (by decide) ?_
              refine wp_icmp_ne (pc := 56) 61 dX12_heard_56 (by decide) (by first | omega | exact TI.i5 (by assumption) | exact TI.i3 (by assumption) | exact TI.i2 (by assumption) | exact TI.i1 (by assumption) | exact TI.i0 (by assumption) | exact TI.i4 (by assumption) | exact TI.i6 (by assumption) | exact TI.i7 (by assumption)) (by first | omega | exact TI.i5 (by assumption) | exact TI.i3 (by assumption) | exact TI.i2 (by assumption) | exact TI.i1 (by assumption) | exact TI.i0 (by assumption) | exact TI.i4 (by assumption) | exact TI.i6 (by assumption) | exact TI.i7 (by assumption)) (fun c56 => ?_) (fun c56 => ?_)
              ·
                rw [if_pos (show heO2 hs x y by revert hmo; unfold heO2; (repeat' split) <;> omega), if_pos (show heO2 hs x y by revert hmo; unfold heO2; (repeat' split) <;> omega)] -- go
                refine wp_aload_n (pc := 61) dX12_heard_61 rfl ?_
                refine wm_get dX12_heard_62 gf_X12_54 K (by rfl) ?_
                refine wp_aload_n (pc := 65) dX12_heard_65 rfl ?_
                refine wm_gets dX12_heard_66 gf_X12_318 K (by rfl) (by repeat (first | assumption | exact pv10 | exact pv11 | (apply pv_o; decide; decide) | exact upN_eq | (apply upN_ne; decide) | (apply SV_at; assumption; decide) | exact rfl)) ?_
                refine wp_iload_n (pc := 69) dX12_heard_69 rfl ?_
                refine wm_iast dX12_heard_70 K O (by first | rfl | assumption) (by first | decide | omega) (by first | decide | omega) (by decide) (by omega) (by omega) (by repeat (first | assumption | exact upA_eq | (apply upA_ne; first | decide | omega) | (apply SA_at; assumption; first | decide | (simp; omega)) | exact rfl)) rfl (fun hp K O => ?_)
                refine wp_aload_n (pc := 71) dX12_heard_71 rfl ?_
                refine wm_get dX12_heard_72 gf_X12_57 K (by rfl) ?_
                refine wp_aload_n (pc := 75) dX12_heard_75 rfl ?_
                refine wm_gets dX12_heard_76 gf_X12_318 K (by rfl) (by repeat (first | assumption | exact pv10 | exact pv11 | (apply pv_o; decide; decide) | exact upN_eq | (apply upN_ne; decide) | (apply SV_at; assumption; decide) | exact rfl)) ?_
                refine wp_iload_n (pc := 79) dX12_heard_79 rfl ?_
                refine wm_iast dX12_heard_80 K O (by first | rfl | assumption) (by first | decide | omega) (by first | decide | omega) (by decide) (by omega) (by omega) (by repeat (first | assumption | exact upA_eq | (apply upA_ne; first | decide | omega) | (apply SA_at; assumption; first | decide | (simp; omega)) | exact rfl)) rfl (fun hp K O => ?_)
                refine wp_aload_n (pc := 81) dX12_heard_81 rfl ?_
                refine wp_dup (pc := 82) dX12_heard_82 rfl ?_
                refine wm_gets dX12_heard_83 gf_X12_318 K (by rfl) (by repeat (first | assumption | exact pv10 | exact pv11 | (apply pv_o; decide; decide) | exact upN_eq | (apply upN_ne; decide) | (apply SV_at; assumption; decide) | exact rfl)) ?_
                refine wp_iconst (pc := 86) dX12_heard_86 ?_
                refine wp_iadd (pc := 87) dX12_heard_87 ?_
                refine wm_put dX12_heard_88 pf_X12_318 K O (by decide) mset_28 rfl rfl (fun hp K O => ?_)
                refine wp_aload_n (pc := 91) dX12_heard_91 rfl ?_
                refine wm_gets dX12_heard_92 gf_X12_318 K (by rfl) (by repeat (first | assumption | exact pv10 | exact pv11 | (apply pv_o; decide; decide) | exact upN_eq | (apply upN_ne; decide) | (apply SV_at; assumption; decide) | exact rfl)) ?_
                exact wp_ir (pc := 95) dX12_heard_95 rfl (by decide) (by decide) (by first | rfl | omega) ⟨⟨_, _, _, K, upN_ne (by decide) upN_eq, ⟨m1, mA, mt.tr rfl rfl, mr.tr rfl rfl, mu.tr rfl rfl, mU.tr rfl rfl, mh.ad (by omega) upN_eq rfl rfl, ms.tr rfl rfl rfl rfl, mk.tr rfl rfl rfl rfl⟩⟩, O⟩
              ·
                rw [if_neg (show ¬ heO2 hs x y by omega), if_neg (show ¬ heO2 hs x y by omega)] -- go
                refine wp_iconst (pc := 59) dX12_heard_59 ?_
                exact wp_ir (pc := 60) dX12_heard_60 rfl (by decide) (by decide) (by first | rfl | omega) ⟨⟨_, _, _, K, (by repeat (first | assumption | exact pv10 | exact pv11 | (apply pv_o; decide; decide) | exact upN_eq | (apply upN_ne; decide) | (apply SV_at; assumption; decide) | exact rfl)), M.qu (by repeat (first | exact SV.rf | assumption | (apply SV.up1; decide) | (apply SV.tr2; assumption; decide))) (by repeat (first | exact SA.rf | assumption | (apply SA.up1; decide) | (apply SA.tr2; assumption; decide))) (by first | assumption | exact Mrw.z (by repeat (first | assumption | exact pv10 | exact pv11 | (apply pv_o; decide; decide) | exact upN_eq | (apply upN_ne; decide) | (apply SV_at; assumption; decide) | exact rfl)) | exact Mrw.tr (by assumption) (by repeat (first | assumption | exact pv10 | exact pv11 | (apply pv_o; decide; decide) | exact upN_eq | (apply upN_ne; decide) | (apply SV_at; assumption; decide) | exact rfl)) (by repeat (first | assumption | exact upA_eq | (apply upA_ne; first | decide | omega) | (apply SA_at; assumption; first | decide | (simp; omega)) | exact rfl)))⟩, O⟩
  ·
    first
    | (exfalso; omega)
    | skip
      refine wp_iload_n (pc := 10) dX12_heard_10 rfl ?_
      refine wp_iconst (pc := 11) dX12_heard_11 ?_
      refine wp_icmp_ne (pc := 12) 19 dX12_heard_12 (by decide) (by first | omega | exact TI.i5 (by assumption) | exact TI.i3 (by assumption) | exact TI.i2 (by assumption) | exact TI.i1 (by assumption) | exact TI.i0 (by assumption) | exact TI.i4 (by assumption) | exact TI.i6 (by assumption) | exact TI.i7 (by assumption)) (by first | omega | exact TI.i5 (by assumption) | exact TI.i3 (by assumption) | exact TI.i2 (by assumption) | exact TI.i1 (by assumption) | exact TI.i0 (by assumption) | exact TI.i4 (by assumption) | exact TI.i6 (by assumption) | exact TI.i7 (by assumption)) (fun c12 => ?_) (fun c12 => ?_)
      ·
        first
        | (exfalso; omega)
        | skip
          refine wp_iload_n (pc := 19) dX12_heard_19 rfl ?_
          refine wp_iconst (pc := 20) dX12_heard_20 ?_
          refine wp_icmp_ne (pc := 21) 29 dX12_heard_21 (by decide) (by first | omega | exact TI.i5 (by assumption) | exact TI.i3 (by assumption) | exact TI.i2 (by assumption) | exact TI.i1 (by assumption) | exact TI.i0 (by assumption) | exact TI.i4 (by assumption) | exact TI.i6 (by assumption) | exact TI.i7 (by assumption)) (by first | omega | exact TI.i5 (by assumption) | exact TI.i3 (by assumption) | exact TI.i2 (by assumption) | exact TI.i1 (by assumption) | exact TI.i0 (by assumption) | exact TI.i4 (by assumption) | exact TI.i6 (by assumption) | exact TI.i7 (by assumption)) (fun c21 => ?_) (fun c21 => ?_)
          ·
            first
            | (exfalso; omega)
            | skip
              refine wp_bipush (pc := 29) (y := 99) dX12_heard_29 (by decide) ?_
              refine wp_istore_n (pc := 31) dX12_heard_31 (by decide) ?_
              refine wp_iload_n (pc := 32) dX12_heard_32 rfl ?_
              refine wp_iconst (pc := 33) dX12_heard_33 ?_
              refine wp_iconst (pc := 34) dX12_heard_34 ?_
              refine wp_Sp (pc := 35) dX12_heard_35 cl_X12_95 (sp_Ref_in (by first | assumption | omega | (repeat (first | assumption | exact pv10 | exact pv11 | (apply pv_o; decide; decide) | exact upN_eq | (apply upN_ne; decide) | (apply SV_at; assumption; decide) | exact upA_eq | (apply upA_ne; first | decide | omega) | (apply SA_at; assumption; first | decide | (simp; omega)) | exact rfl))) (by first | assumption | omega | (repeat (first | assumption | exact pv10 | exact pv11 | (apply pv_o; decide; decide) | exact upN_eq | (apply upN_ne; decide) | (apply SV_at; assumption; decide) | exact upA_eq | (apply upA_ne; first | decide | omega) | (apply SA_at; assumption; first | decide | (simp; omega)) | exact rfl))) (by first | assumption | omega | (repeat (first | assumption | exact pv10 | exact pv11 | (apply pv_o; decide; decide) | exact upN_eq | (apply upN_ne; decide) | (apply SV_at; assumption; decide) | exact upA_eq | (apply upA_ne; first | decide | omega) | (apply SA_at; assumption; first | decide | (simp; omega)) | exact rfl)))) rfl rfl (by decide) (Nat.le_of_ble_eq_true rfl) ?_
              first | refine wp_ifb_eq (pc := 38) 59 dX12_heard_38 (by decide) (fun c38 => ?_) (fun c38 => ?_) | refine wp_if_eq (pc := 38) 59 dX12_heard_38 (by decide) (by first | omega | exact TI.i5 (by assumption) | exact TI.i3 (by assumption) | exact TI.i2 (by assumption) | exact TI.i1 (by assumption) | exact TI.i0 (by assumption) | exact TI.i4 (by assumption) | exact TI.i6 (by assumption) | exact TI.i7 (by assumption)) (fun c38 => ?_) (fun c38 => ?_)
              ·
                rw [if_neg (show ¬ heO2 hs x y by revert hmo; unfold heO2; (repeat' split) <;> omega), if_neg (show ¬ heO2 hs x y by revert hmo; unfold heO2; (repeat' split) <;> omega)] -- go
                refine wp_iconst (pc := 59) dX12_heard_59 ?_
                exact wp_ir (pc := 60) dX12_heard_60 rfl (by decide) (by decide) (by first | rfl | omega) ⟨⟨_, _, _, K, (by repeat (first | assumption | exact pv10 | exact pv11 | (apply pv_o; decide; decide) | exact upN_eq | (apply upN_ne; decide) | (apply SV_at; assumption; decide) | exact rfl)), M.qu (by repeat (first | exact SV.rf | assumption | (apply SV.up1; decide) | (apply SV.tr2; assumption; decide))) (by repeat (first | exact SA.rf | assumption | (apply SA.up1; decide) | (apply SA.tr2; assumption; decide))) (by first | assumption | exact Mrw.z (by repeat (first | assumption | exact pv10 | exact pv11 | (apply pv_o; decide; decide) | exact upN_eq | (apply upN_ne; decide) | (apply SV_at; assumption; decide) | exact rfl)) | exact Mrw.tr (by assumption) (by repeat (first | assumption | exact pv10 | exact pv11 | (apply pv_o; decide; decide) | exact upN_eq | (apply upN_ne; decide) | (apply SV_at; assumption; decide) | exact rfl)) (by repeat (first | assumption | exact upA_eq | (apply upA_ne; first | decide | omega) | (apply SA_at; assumption; first | decide | (simp; omega)) | exact rfl)))⟩, O⟩
              ·
                first
                | (exfalso; omega)
                | skip
                  refine wp_iload_n (pc := 41) dX12_heard_41 rfl ?_
                  refine wp_iconst (pc := 42) dX12_heard_42 ?_
                  refine wp_iload_n (pc := 43) dX12_heard_43 rfl ?_
                  refine wp_Sp (pc := 44) dX12_heard_44 cl_X12_95 (sp_Ref_in (by first | assumption | omega | (repeat (first | assumption | exact pv10 | exact pv11 | (apply pv_o; decide; decide) | exact upN_eq | (apply upN_ne; decide) | (apply SV_at; assumption; decide) | exact upA_eq | (apply upA_ne; first | decide | omega) | (apply SA_at; assumption; first | decide | (simp; omega)) | exact rfl))) (by first | assumption | omega | (repeat (first | assumption | exact pv10 | exact pv11 | (apply pv_o; decide; decide) | exact upN_eq | (apply upN_ne; decide) | (apply SV_at; assumption; decide) | exact upA_eq | (apply upA_ne; first | decide | omega) | (apply SA_at; assumption; first | decide | (simp; omega)) | exact rfl))) (by first | assumption | omega | (repeat (first | assumption | exact pv10 | exact pv11 | (apply pv_o; decide; decide) | exact upN_eq | (apply upN_ne; decide) | (apply SV_at; assumption; decide) | exact upA_eq | (apply upA_ne; first | decide | omega) | (apply SA_at; assumption; first | decide | (simp; omega)) | exact rfl)))) rfl rfl (by decide) (Nat.le_of_ble_eq_true rfl) ?_
                  first | refine wp_ifb_eq (pc := 47) 59 dX12_heard_47 (by decide) (fun c47 => ?_) (fun c47 => ?_) | refine wp_if_eq (pc := 47) 59 dX12_heard_47 (by decide) (by first | omega | exact TI.i5 (by assumption) | exact TI.i3 (by assumption) | exact TI.i2 (by assumption) | exact TI.i1 (by assumption) | exact TI.i0 (by assumption) | exact TI.i4 (by assumption) | exact TI.i6 (by assumption) | exact TI.i7 (by assumption)) (fun c47 => ?_) (fun c47 => ?_)
                  ·
                    rw [if_neg (show ¬ heO2 hs x y by revert hmo; unfold heO2; (repeat' split) <;> omega), if_neg (show ¬ heO2 hs x y by revert hmo; unfold heO2; (repeat' split) <;> omega)] -- go
                    refine wp_iconst (pc := 59) dX12_heard_59 ?_
                    exact wp_ir (pc := 60) dX12_heard_60 rfl (by decide) (by decide) (by first | rfl | omega) ⟨⟨_, _, _, K, (by repeat (first | assumption | exact pv10 | exact pv11 | (apply pv_o; decide; decide) | exact upN_eq | (apply upN_ne; decide) | (apply SV_at; assumption; decide) | exact rfl)), M.qu (by repeat (first | exact SV.rf | assumption | (apply SV.up1; decide) | (apply SV.tr2; assumption; decide))) (by repeat (first | exact SA.rf | assumption | (apply SA.up1; decide) | (apply SA.tr2; assumption; decide))) (by first | assumption | exact Mrw.z (by repeat (first | assumption | exact pv10 | exact pv11 | (apply pv_o; decide; decide) | exact upN_eq | (apply upN_ne; decide) | (apply SV_at; assumption; decide) | exact rfl)) | exact Mrw.tr (by assumption) (by repeat (first | assumption | exact pv10 | exact pv11 | (apply pv_o; decide; decide) | exact upN_eq | (apply upN_ne; decide) | (apply SV_at; assumption; decide) | exact rfl)) (by repeat (first | assumption | exact upA_eq | (apply upA_ne; first | decide | omega) | (apply SA_at; assumption; first | decide | (simp; omega)) | exact rfl)))⟩, O⟩
                  ·
                    first
                    | (exfalso; omega)
                    | skip
                      refine wp_aload_n (pc := 50) dX12_heard_50 rfl ?_
                      refine wm_gets dX12_heard_51 gf_X12_318 K (by rfl) (by repeat (first | assumption | exact pv10 | exact pv11 | (apply pv_o; decide; decide) | exact upN_eq | (apply upN_ne; decide) | (apply SV_at; assumption; decide) | exact rfl)) ?_
                      refine wp_bipush (pc := 54) (y := 12) dX12_heard_54 (by decide) ?_
                      refine wp_icmp_ne (pc := 56) 61 dX12_heard_56 (by decide) (by first | omega | exact TI.i5 (by assumption) | exact TI.i3 (by assumption) | exact TI.i2 (by assumption) | exact TI.i1 (by assumption) | exact TI.i0 (by assumption) | exact TI.i4 (by assumption) | exact TI.i6 (by assumption) | exact TI.i7 (by assumption)) (by first | omega | exact TI.i5 (by assumption) | exact TI.i3 (by assumption) | exact TI.i2 (by assumption) | exact TI.i1 (by assumption) | exact TI.i0 (by assumption) | exact TI.i4 (by assumption) | exact TI.i6 (by assumption) | exact TI.i7 (by assumption)) (fun c56 => ?_) (fun c56 => ?_)
                      ·
                        rw [if_pos (show heO2 hs x y by revert hmo; unfold heO2; (repeat' split) <;> omega), if_pos (show heO2 hs x y by revert hmo; unfold heO2; (repeat' split) <;> omega)] -- go
                        refine wp_aload_n (pc := 61) dX12_heard_61 rfl ?_
                        refine wm_get dX12_heard_62 gf_X12_54 K (by rfl) ?_
                        refine wp_aload_n (pc := 65) dX12_heard_65 rfl ?_
                        refine wm_gets dX12_heard_66 gf_X12_318 K (by rfl) (by repeat (first | assumption | exact pv10 | exact pv11 | (apply pv_o; decide; decide) | exact upN_eq | (apply upN_ne; decide) | (apply SV_at; assumption; decide) | exact rfl)) ?_
                        refine wp_iload_n (pc := 69) dX12_heard_69 rfl ?_
                        refine wm_iast dX12_heard_70 K O (by first | rfl | assumption) (by first | decide | omega) (by first | decide | omega) (by decide) (by omega) (by omega) (by repeat (first | assumption | exact upA_eq | (apply upA_ne; first | decide | omega) | (apply SA_at; assumption; first | decide | (simp; omega)) | exact rfl)) rfl (fun hp K O => ?_)
                        refine wp_aload_n (pc := 71) dX12_heard_71 rfl ?_
                        refine wm_get dX12_heard_72 gf_X12_57 K (by rfl) ?_
                        refine wp_aload_n (pc := 75) dX12_heard_75 rfl ?_
                        refine wm_gets dX12_heard_76 gf_X12_318 K (by rfl) (by repeat (first | assumption | exact pv10 | exact pv11 | (apply pv_o; decide; decide) | exact upN_eq | (apply upN_ne; decide) | (apply SV_at; assumption; decide) | exact rfl)) ?_
                        refine wp_iload_n (pc := 79) dX12_heard_79 rfl ?_
                        refine wm_iast dX12_heard_80 K O (by first | rfl | assumption) (by first | decide | omega) (by first | decide | omega) (by decide) (by omega) (by omega) (by repeat (first | assumption | exact upA_eq | (apply upA_ne; first | decide | omega) | (apply SA_at; assumption; first | decide | (simp; omega)) | exact rfl)) rfl (fun hp K O => ?_)
                        refine wp_aload_n (pc := 81) dX12_heard_81 rfl ?_
                        refine wp_dup (pc := 82) dX12_heard_82 rfl ?_
                        refine wm_gets dX12_heard_83 gf_X12_318 K (by rfl) (by repeat (first | assumption | exact pv10 | exact pv11 | (apply pv_o; decide; decide) | exact upN_eq | (apply upN_ne; decide) | (apply SV_at; assumption; decide) | exact rfl)) ?_
                        refine wp_iconst (pc := 86) dX12_heard_86 ?_
                        refine wp_iadd (pc := 87) dX12_heard_87 ?_
                        refine wm_put dX12_heard_88 pf_X12_318 K O (by decide) mset_28 rfl rfl (fun hp K O => ?_)
                        refine wp_aload_n (pc := 91) dX12_heard_91 rfl ?_
                        refine wm_gets dX12_heard_92 gf_X12_318 K (by rfl) (by repeat (first | assumption | exact pv10 | exact pv11 | (apply pv_o; decide; decide) | exact upN_eq | (apply upN_ne; decide) | (apply SV_at; assumption; decide) | exact rfl)) ?_
                        exact wp_ir (pc := 95) dX12_heard_95 rfl (by decide) (by decide) (by first | rfl | omega) ⟨⟨_, _, _, K, upN_ne (by decide) upN_eq, ⟨m1, mA, mt.tr rfl rfl, mr.tr rfl rfl, mu.tr rfl rfl, mU.tr rfl rfl, mh.ad (by omega) upN_eq rfl rfl, ms.tr rfl rfl rfl rfl, mk.tr rfl rfl rfl rfl⟩⟩, O⟩
                      ·
                        rw [if_neg (show ¬ heO2 hs x y by omega), if_neg (show ¬ heO2 hs x y by omega)] -- go
                        refine wp_iconst (pc := 59) dX12_heard_59 ?_
                        exact wp_ir (pc := 60) dX12_heard_60 rfl (by decide) (by decide) (by first | rfl | omega) ⟨⟨_, _, _, K, (by repeat (first | assumption | exact pv10 | exact pv11 | (apply pv_o; decide; decide) | exact upN_eq | (apply upN_ne; decide) | (apply SV_at; assumption; decide) | exact rfl)), M.qu (by repeat (first | exact SV.rf | assumption | (apply SV.up1; decide) | (apply SV.tr2; assumption; decide))) (by repeat (first | exact SA.rf | assumption | (apply SA.up1; decide) | (apply SA.tr2; assumption; decide))) (by first | assumption | exact Mrw.z (by repeat (first | assumption | exact pv10 | exact pv11 | (apply pv_o; decide; decide) | exact upN_eq | (apply upN_ne; decide) | (apply SV_at; assumption; decide) | exact rfl)) | exact Mrw.tr (by assumption) (by repeat (first | assumption | exact pv10 | exact pv11 | (apply pv_o; decide; decide) | exact upN_eq | (apply upN_ne; decide) | (apply SV_at; assumption; decide) | exact rfl)) (by repeat (first | assumption | exact upA_eq | (apply upA_ne; first | decide | omega) | (apply SA_at; assumption; first | decide | (simp; omega)) | exact rfl)))⟩, O⟩
          ·
            first
            | (exfalso; omega)
            | skip
              refine wp_bipush (pc := 24) (y := 9) dX12_heard_24 (by decide) ?_
              refine wp_goto (pc := 26) 31 dX12_heard_26 (by decide) ?_
              refine wp_istore_n (pc := 31) dX12_heard_31 (by decide) ?_
              refine wp_iload_n (pc := 32) dX12_heard_32 rfl ?_
              refine wp_iconst (pc := 33) dX12_heard_33 ?_
              refine wp_iconst (pc := 34) dX12_heard_34 ?_
              refine wp_Sp (pc := 35) dX12_heard_35 cl_X12_95 (sp_Ref_in (by first | assumption | omega | (repeat (first | assumption | exact pv10 | exact pv11 | (apply pv_o; decide; decide) | exact upN_eq | (apply upN_ne; decide) | (apply SV_at; assumption; decide) | exact upA_eq | (apply upA_ne; first | decide | omega) | (apply SA_at; assumption; first | decide | (simp; omega)) | exact rfl))) (by first | assumption | omega | (repeat (first | assumption | exact pv10 | exact pv11 | (apply pv_o; decide; decide) | exact upN_eq | (apply upN_ne; decide) | (apply SV_at; assumption; decide) | exact upA_eq | (apply upA_ne; first | decide | omega) | (apply SA_at; assumption; first | decide | (simp; omega)) | exact rfl))) (by first | assumption | omega | (repeat (first | assumption | exact pv10 | exact pv11 | (apply pv_o; decide; decide) | exact upN_eq | (apply upN_ne; decide) | (apply SV_at; assumption; decide) | exact upA_eq | (apply upA_ne; first | decide | omega) | (apply SA_at; assumption; first | decide | (simp; omega)) | exact rfl)))) rfl rfl (by decide) (Nat.le_of_ble_eq_true rfl) ?_
              first | refine wp_ifb_eq (pc := 38) 59 dX12_heard_38 (by decide) (fun c38 => ?_) (fun c38 => ?_) | refine wp_if_eq (pc := 38) 59 dX12_heard_38 (by decide) (by first | omega | exact TI.i5 (by assumption) | exact TI.i3 (by assumption) | exact TI.i2 (by assumption) | exact TI.i1 (by assumption) | exact TI.i0 (by assumption) | exact TI.i4 (by assumption) | exact TI.i6 (by assumption) | exact TI.i7 (by assumption)) (fun c38 => ?_) (fun c38 => ?_)
              ·
                rw [if_neg (show ¬ heO2 hs x y by revert hmo; unfold heO2; (repeat' split) <;> omega), if_neg (show ¬ heO2 hs x y by revert hmo; unfold heO2; (repeat' split) <;> omega)] -- go
                refine wp_iconst (pc := 59) dX12_heard_59 ?_
                exact wp_ir (pc := 60) dX12_heard_60 rfl (by decide) (by decide) (by first | rfl | omega) ⟨⟨_, _, _, K, (by repeat (first | assumption | exact pv10 | exact pv11 | (apply pv_o; decide; decide) | exact upN_eq | (apply upN_ne; decide) | (apply SV_at; assumption; decide) | exact rfl)), M.qu (by repeat (first | exact SV.rf | assumption | (apply SV.up1; decide) | (apply SV.tr2; assumption; decide))) (by repeat (first | exact SA.rf | assumption | (apply SA.up1; decide) | (apply SA.tr2; assumption; decide))) (by first | assumption | exact Mrw.z (by repeat (first | assumption | exact pv10 | exact pv11 | (apply pv_o; decide; decide) | exact upN_eq | (apply upN_ne; decide) | (apply SV_at; assumption; decide) | exact rfl)) | exact Mrw.tr (by assumption) (by repeat (first | assumption | exact pv10 | exact pv11 | (apply pv_o; decide; decide) | exact upN_eq | (apply upN_ne; decide) | (apply SV_at; assumption; decide) | exact rfl)) (by repeat (first | assumption | exact upA_eq | (apply upA_ne; first | decide | omega) | (apply SA_at; assumption; first | decide | (simp; omega)) | exact rfl)))⟩, O⟩
              ·
                first
                | (exfalso; omega)
                | skip
                  refine wp_iload_n (pc := 41) dX12_heard_41 rfl ?_
                  refine wp_iconst (pc := 42) dX12_heard_42 ?_
                  refine wp_iload_n (pc := 43) dX12_heard_43 rfl ?_
                  refine wp_Sp (pc := 44) dX12_heard_44 cl_X12_95 (sp_Ref_in (by first | assumption | omega | (repeat (first | assumption | exact pv10 | exact pv11 | (apply pv_o; decide; decide) | exact upN_eq | (apply upN_ne; decide) | (apply SV_at; assumption; decide) | exact upA_eq | (apply upA_ne; first | decide | omega) | (apply SA_at; assumption; first | decide | (simp; omega)) | exact rfl))) (by first | assumption | omega | (repeat (first | assumption | exact pv10 | exact pv11 | (apply pv_o; decide; decide) | exact upN_eq | (apply upN_ne; decide) | (apply SV_at; assumption; decide) | exact upA_eq | (apply upA_ne; first | decide | omega) | (apply SA_at; assumption; first | decide | (simp; omega)) | exact rfl))) (by first | assumption | omega | (repeat (first | assumption | exact pv10 | exact pv11 | (apply pv_o; decide; decide) | exact upN_eq | (apply upN_ne; decide) | (apply SV_at; assumption; decide) | exact upA_eq | (apply upA_ne; first | decide | omega) | (apply SA_at; assumption; first | decide | (simp; omega)) | exact rfl)))) rfl rfl (by decide) (Nat.le_of_ble_eq_true rfl) ?_
                  first | refine wp_ifb_eq (pc := 47) 59 dX12_heard_47 (by decide) (fun c47 => ?_) (fun c47 => ?_) | refine wp_if_eq (pc := 47) 59 dX12_heard_47 (by decide) (by first | omega | exact TI.i5 (by assumption) | exact TI.i3 (by assumption) | exact TI.i2 (by assumption) | exact TI.i1 (by assumption) | exact TI.i0 (by assumption) | exact TI.i4 (by assumption) | exact TI.i6 (by assumption) | exact TI.i7 (by assumption)) (fun c47 => ?_) (fun c47 => ?_)
                  ·
                    rw [if_neg (show ¬ heO2 hs x y by revert hmo; unfold heO2; (repeat' split) <;> omega), if_neg (show ¬ heO2 hs x y by revert hmo; unfold heO2; (repeat' split) <;> omega)] -- go
                    refine wp_iconst (pc := 59) dX12_heard_59 ?_
                    exact wp_ir (pc := 60) dX12_heard_60 rfl (by decide) (by decide) (by first | rfl | omega) ⟨⟨_, _, _, K, (by repeat (first | assumption | exact pv10 | exact pv11 | (apply pv_o; decide; decide) | exact upN_eq | (apply upN_ne; decide) | (apply SV_at; assumption; decide) | exact rfl)), M.qu (by repeat (first | exact SV.rf | assumption | (apply SV.up1; decide) | (apply SV.tr2; assumption; decide))) (by repeat (first | exact SA.rf | assumption | (apply SA.up1; decide) | (apply SA.tr2; assumption; decide))) (by first | assumption | exact Mrw.z (by repeat (first | assumption | exact pv10 | exact pv11 | (apply pv_o; decide; decide) | exact upN_eq | (apply upN_ne; decide) | (apply SV_at; assumption; decide) | exact rfl)) | exact Mrw.tr (by assumption) (by repeat (first | assumption | exact pv10 | exact pv11 | (apply pv_o; decide; decide) | exact upN_eq | (apply upN_ne; decide) | (apply SV_at; assumption; decide) | exact rfl)) (by repeat (first | assumption | exact upA_eq | (apply upA_ne; first | decide | omega) | (apply SA_at; assumption; first | decide | (simp; omega)) | exact rfl)))⟩, O⟩
                  ·
                    first
                    | (exfalso; omega)
                    | skip
                      refine wp_aload_n (pc := 50) dX12_heard_50 rfl ?_
                      refine wm_gets dX12_heard_51 gf_X12_318 K (by rfl) (by repeat (first | assumption | exact pv10 | exact pv11 | (apply pv_o; decide; decide) | exact upN_eq | (apply upN_ne; decide) | (apply SV_at; assumption; decide) | exact rfl)) ?_
                      refine wp_bipush (pc := 54) (y := 12) dX12_heard_54 (by decide) ?_
                      refine wp_icmp_ne (pc := 56) 61 dX12_heard_56 (by decide) (by first | omega | exact TI.i5 (by assumption) | exact TI.i3 (by assumption) | exact TI.i2 (by assumption) | exact TI.i1 (by assumption) | exact TI.i0 (by assumption) | exact TI.i4 (by assumption) | exact TI.i6 (by assumption) | exact TI.i7 (by assumption)) (by first | omega | exact TI.i5 (by assumption) | exact TI.i3 (by assumption) | exact TI.i2 (by assumption) | exact TI.i1 (by assumption) | exact TI.i0 (by assumption) | exact TI.i4 (by assumption) | exact TI.i6 (by assumption) | exact TI.i7 (by assumption)) (fun c56 => ?_) (fun c56 => ?_)
                      ·
                        rw [if_pos (show heO2 hs x y by revert hmo; unfold heO2; (repeat' split) <;> omega), if_pos (show heO2 hs x y by revert hmo; unfold heO2; (repeat' split) <;> omega)] -- go
                        refine wp_aload_n (pc := 61) dX12_heard_61 rfl ?_
                        refine wm_get dX12_heard_62 gf_X12_54 K (by rfl) ?_
                        refine wp_aload_n (pc := 65) dX12_heard_65 rfl ?_
                        refine wm_gets dX12_heard_66 gf_X12_318 K (by rfl) (by repeat (first | assumption | exact pv10 | exact pv11 | (apply pv_o; decide; decide) | exact upN_eq | (apply upN_ne; decide) | (apply SV_at; assumption; decide) | exact rfl)) ?_
                        refine wp_iload_n (pc := 69) dX12_heard_69 rfl ?_
                        refine wm_iast dX12_heard_70 K O (by first | rfl | assumption) (by first | decide | omega) (by first | decide | omega) (by decide) (by omega) (by omega) (by repeat (first | assumption | exact upA_eq | (apply upA_ne; first | decide | omega) | (apply SA_at; assumption; first | decide | (simp; omega)) | exact rfl)) rfl (fun hp K O => ?_)
                        refine wp_aload_n (pc := 71) dX12_heard_71 rfl ?_
                        refine wm_get dX12_heard_72 gf_X12_57 K (by rfl) ?_
                        refine wp_aload_n (pc := 75) dX12_heard_75 rfl ?_
                        refine wm_gets dX12_heard_76 gf_X12_318 K (by rfl) (by repeat (first | assumption | exact pv10 | exact pv11 | (apply pv_o; decide; decide) | exact upN_eq | (apply upN_ne; decide) | (apply SV_at; assumption; decide) | exact rfl)) ?_
                        refine wp_iload_n (pc := 79) dX12_heard_79 rfl ?_
                        refine wm_iast dX12_heard_80 K O (by first | rfl | assumption) (by first | decide | omega) (by first | decide | omega) (by decide) (by omega) (by omega) (by repeat (first | assumption | exact upA_eq | (apply upA_ne; first | decide | omega) | (apply SA_at; assumption; first | decide | (simp; omega)) | exact rfl)) rfl (fun hp K O => ?_)
                        refine wp_aload_n (pc := 81) dX12_heard_81 rfl ?_
                        refine wp_dup (pc := 82) dX12_heard_82 rfl ?_
                        refine wm_gets dX12_heard_83 gf_X12_318 K (by rfl) (by repeat (first | assumption | exact pv10 | exact pv11 | (apply pv_o; decide; decide) | exact upN_eq | (apply upN_ne; decide) | (apply SV_at; assumption; decide) | exact rfl)) ?_
                        refine wp_iconst (pc := 86) dX12_heard_86 ?_
                        refine wp_iadd (pc := 87) dX12_heard_87 ?_
                        refine wm_put dX12_heard_88 pf_X12_318 K O (by decide) mset_28 rfl rfl (fun hp K O => ?_)
                        refine wp_aload_n (pc := 91) dX12_heard_91 rfl ?_
                        refine wm_gets dX12_heard_92 gf_X12_318 K (by rfl) (by repeat (first | assumption | exact pv10 | exact pv11 | (apply pv_o; decide; decide) | exact upN_eq | (apply upN_ne; decide) | (apply SV_at; assumption; decide) | exact rfl)) ?_
                        exact wp_ir (pc := 95) dX12_heard_95 rfl (by decide) (by decide) (by first | rfl | omega) ⟨⟨_, _, _, K, upN_ne (by decide) upN_eq, ⟨m1, mA, mt.tr rfl rfl, mr.tr rfl rfl, mu.tr rfl rfl, mU.tr rfl rfl, mh.ad (by omega) upN_eq rfl rfl, ms.tr rfl rfl rfl rfl, mk.tr rfl rfl rfl rfl⟩⟩, O⟩
                      ·
                        rw [if_neg (show ¬ heO2 hs x y by omega), if_neg (show ¬ heO2 hs x y by omega)] -- go
                        refine wp_iconst (pc := 59) dX12_heard_59 ?_
                        exact wp_ir (pc := 60) dX12_heard_60 rfl (by decide) (by decide) (by first | rfl | omega) ⟨⟨_, _, _, K, (by repeat (first | assumption | exact pv10 | exact pv11 | (apply pv_o; decide; decide) | exact upN_eq | (apply upN_ne; decide) | (apply SV_at; assumption; decide) | exact rfl)), M.qu (by repeat (first | exact SV.rf | assumption | (apply SV.up1; decide) | (apply SV.tr2; assumption; decide))) (by repeat (first | exact SA.rf | assumption | (apply SA.up1; decide) | (apply SA.tr2; assumption; decide))) (by first | assumption | exact Mrw.z (by repeat (first | assumption | exact pv10 | exact pv11 | (apply pv_o; decide; decide) | exact upN_eq | (apply upN_ne; decide) | (apply SV_at; assumption; decide) | exact rfl)) | exact Mrw.tr (by assumption) (by repeat (first | assumption | exact pv10 | exact pv11 | (apply pv_o; decide; decide) | exact upN_eq | (apply upN_ne; decide) | (apply SV_at; assumption; decide) | exact rfl)) (by repeat (first | assumption | exact upA_eq | (apply upA_ne; first | decide | omega) | (apply SA_at; assumption; first | decide | (simp; omega)) | exact rfl)))⟩, O⟩
      ·
        first
        | (exfalso; omega)
        | skip
          refine wp_iconst (pc := 15) dX12_heard_15 ?_
          refine wp_goto (pc := 16) 31 dX12_heard_16 (by decide) ?_
          refine wp_istore_n (pc := 31) dX12_heard_31 (by decide) ?_
          refine wp_iload_n (pc := 32) dX12_heard_32 rfl ?_
          refine wp_iconst (pc := 33) dX12_heard_33 ?_
          refine wp_iconst (pc := 34) dX12_heard_34 ?_
          refine wp_Sp (pc := 35) dX12_heard_35 cl_X12_95 (sp_Ref_in (by first | assumption | omega | (repeat (first | assumption | exact pv10 | exact pv11 | (apply pv_o; decide; decide) | exact upN_eq | (apply upN_ne; decide) | (apply SV_at; assumption; decide) | exact upA_eq | (apply upA_ne; first | decide | omega) | (apply SA_at; assumption; first | decide | (simp; omega)) | exact rfl))) (by first | assumption | omega | (repeat (first | assumption | exact pv10 | exact pv11 | (apply pv_o; decide; decide) | exact upN_eq | (apply upN_ne; decide) | (apply SV_at; assumption; decide) | exact upA_eq | (apply upA_ne; first | decide | omega) | (apply SA_at; assumption; first | decide | (simp; omega)) | exact rfl))) (by first | assumption | omega | (repeat (first | assumption | exact pv10 | exact pv11 | (apply pv_o; decide; decide) | exact upN_eq | (apply upN_ne; decide) | (apply SV_at; assumption; decide) | exact upA_eq | (apply upA_ne; first | decide | omega) | (apply SA_at; assumption; first | decide | (simp; omega)) | exact rfl)))) rfl rfl (by decide) (Nat.le_of_ble_eq_true rfl) ?_
          first | refine wp_ifb_eq (pc := 38) 59 dX12_heard_38 (by decide) (fun c38 => ?_) (fun c38 => ?_) | refine wp_if_eq (pc := 38) 59 dX12_heard_38 (by decide) (by first | omega | exact TI.i5 (by assumption) | exact TI.i3 (by assumption) | exact TI.i2 (by assumption) | exact TI.i1 (by assumption) | exact TI.i0 (by assumption) | exact TI.i4 (by assumption) | exact TI.i6 (by assumption) | exact TI.i7 (by assumption)) (fun c38 => ?_) (fun c38 => ?_)
          ·
            rw [if_neg (show ¬ heO2 hs x y by revert hmo; unfold heO2; (repeat' split) <;> omega), if_neg (show ¬ heO2 hs x y by revert hmo; unfold heO2; (repeat' split) <;> omega)] -- go
            refine wp_iconst (pc := 59) dX12_heard_59 ?_
            exact wp_ir (pc := 60) dX12_heard_60 rfl (by decide) (by decide) (by first | rfl | omega) ⟨⟨_, _, _, K, (by repeat (first | assumption | exact pv10 | exact pv11 | (apply pv_o; decide; decide) | exact upN_eq | (apply upN_ne; decide) | (apply SV_at; assumption; decide) | exact rfl)), M.qu (by repeat (first | exact SV.rf | assumption | (apply SV.up1; decide) | (apply SV.tr2; assumption; decide))) (by repeat (first | exact SA.rf | assumption | (apply SA.up1; decide) | (apply SA.tr2; assumption; decide))) (by first | assumption | exact Mrw.z (by repeat (first | assumption | exact pv10 | exact pv11 | (apply pv_o; decide; decide) | exact upN_eq | (apply upN_ne; decide) | (apply SV_at; assumption; decide) | exact rfl)) | exact Mrw.tr (by assumption) (by repeat (first | assumption | exact pv10 | exact pv11 | (apply pv_o; decide; decide) | exact upN_eq | (apply upN_ne; decide) | (apply SV_at; assumption; decide) | exact rfl)) (by repeat (first | assumption | exact upA_eq | (apply upA_ne; first | decide | omega) | (apply SA_at; assumption; first | decide | (simp; omega)) | exact rfl)))⟩, O⟩
          ·
            first
            | (exfalso; omega)
            | skip
              refine wp_iload_n (pc := 41) dX12_heard_41 rfl ?_
              refine wp_iconst (pc := 42) dX12_heard_42 ?_
              refine wp_iload_n (pc := 43) dX12_heard_43 rfl ?_
              refine wp_Sp (pc := 44) dX12_heard_44 cl_X12_95 (sp_Ref_in (by first | assumption | omega | (repeat (first | assumption | exact pv10 | exact pv11 | (apply pv_o; decide; decide) | exact upN_eq | (apply upN_ne; decide) | (apply SV_at; assumption; decide) | exact upA_eq | (apply upA_ne; first | decide | omega) | (apply SA_at; assumption; first | decide | (simp; omega)) | exact rfl))) (by first | assumption | omega | (repeat (first | assumption | exact pv10 | exact pv11 | (apply pv_o; decide; decide) | exact upN_eq | (apply upN_ne; decide) | (apply SV_at; assumption; decide) | exact upA_eq | (apply upA_ne; first | decide | omega) | (apply SA_at; assumption; first | decide | (simp; omega)) | exact rfl))) (by first | assumption | omega | (repeat (first | assumption | exact pv10 | exact pv11 | (apply pv_o; decide; decide) | exact upN_eq | (apply upN_ne; decide) | (apply SV_at; assumption; decide) | exact upA_eq | (apply upA_ne; first | decide | omega) | (apply SA_at; assumption; first | decide | (simp; omega)) | exact rfl)))) rfl rfl (by decide) (Nat.le_of_ble_eq_true rfl) ?_
              first | refine wp_ifb_eq (pc := 47) 59 dX12_heard_47 (by decide) (fun c47 => ?_) (fun c47 => ?_) | refine wp_if_eq (pc := 47) 59 dX12_heard_47 (by decide) (by first | omega | exact TI.i5 (by assumption) | exact TI.i3 (by assumption) | exact TI.i2 (by assumption) | exact TI.i1 (by assumption) | exact TI.i0 (by assumption) | exact TI.i4 (by assumption) | exact TI.i6 (by assumption) | exact TI.i7 (by assumption)) (fun c47 => ?_) (fun c47 => ?_)
              ·
                rw [if_neg (show ¬ heO2 hs x y by revert hmo; unfold heO2; (repeat' split) <;> omega), if_neg (show ¬ heO2 hs x y by revert hmo; unfold heO2; (repeat' split) <;> omega)] -- go
                refine wp_iconst (pc := 59) dX12_heard_59 ?_
                exact wp_ir (pc := 60) dX12_heard_60 rfl (by decide) (by decide) (by first | rfl | omega) ⟨⟨_, _, _, K, (by repeat (first | assumption | exact pv10 | exact pv11 | (apply pv_o; decide; decide) | exact upN_eq | (apply upN_ne; decide) | (apply SV_at; assumption; decide) | exact rfl)), M.qu (by repeat (first | exact SV.rf | assumption | (apply SV.up1; decide) | (apply SV.tr2; assumption; decide))) (by repeat (first | exact SA.rf | assumption | (apply SA.up1; decide) | (apply SA.tr2; assumption; decide))) (by first | assumption | exact Mrw.z (by repeat (first | assumption | exact pv10 | exact pv11 | (apply pv_o; decide; decide) | exact upN_eq | (apply upN_ne; decide) | (apply SV_at; assumption; decide) | exact rfl)) | exact Mrw.tr (by assumption) (by repeat (first | assumption | exact pv10 | exact pv11 | (apply pv_o; decide; decide) | exact upN_eq | (apply upN_ne; decide) | (apply SV_at; assumption; decide) | exact rfl)) (by repeat (first | assumption | exact upA_eq | (apply upA_ne; first | decide | omega) | (apply SA_at; assumption; first | decide | (simp; omega)) | exact rfl)))⟩, O⟩
              ·
                first
                | (exfalso; omega)
                | skip
                  refine wp_aload_n (pc := 50) dX12_heard_50 rfl ?_
                  refine wm_gets dX12_heard_51 gf_X12_318 K (by rfl) (by repeat (first | assumption | exact pv10 | exact pv11 | (apply pv_o; decide; decide) | exact upN_eq | (apply upN_ne; decide) | (apply SV_at; assumption; decide) | exact rfl)) ?_
                  refine wp_bipush (pc := 54) (y := 12) dX12_heard_54 (by decide) ?_
                  refine wp_icmp_ne (pc := 56) 61 dX12_heard_56 (by decide) (by first | omega | exact TI.i5 (by assumption) | exact TI.i3 (by assumption) | exact TI.i2 (by assumption) | exact TI.i1 (by assumption) | exact TI.i0 (by assumption) | exact TI.i4 (by assumption) | exact TI.i6 (by assumption) | exact TI.i7 (by assumption)) (by first | omega | exact TI.i5 (by assumption) | exact TI.i3 (by assumption) | exact TI.i2 (by assumption) | exact TI.i1 (by assumption) | exact TI.i0 (by assumption) | exact TI.i4 (by assumption) | exact TI.i6 (by assumption) | exact TI.i7 (by assumption)) (fun c56 => ?_) (fun c56 => ?_)
                  ·
                    rw [if_pos (show heO2 hs x y by revert hmo; unfold heO2; (repeat' split) <;> omega), if_pos (show heO2 hs x y by revert hmo; unfold heO2; (repeat' split) <;> omega)] -- go
                    refine wp_aload_n (pc := 61) dX12_heard_61 rfl ?_
                    refine wm_get dX12_heard_62 gf_X12_54 K (by rfl) ?_
                    refine wp_aload_n (pc := 65) dX12_heard_65 rfl ?_
                    refine wm_gets dX12_heard_66 gf_X12_318 K (by rfl) (by repeat (first | assumption | exact pv10 | exact pv11 | (apply pv_o; decide; decide) | exact upN_eq | (apply upN_ne; decide) | (apply SV_at; assumption; decide) | exact rfl)) ?_
                    refine wp_iload_n (pc := 69) dX12_heard_69 rfl ?_
                    refine wm_iast dX12_heard_70 K O (by first | rfl | assumption) (by first | decide | omega) (by first | decide | omega) (by decide) (by omega) (by omega) (by repeat (first | assumption | exact upA_eq | (apply upA_ne; first | decide | omega) | (apply SA_at; assumption; first | decide | (simp; omega)) | exact rfl)) rfl (fun hp K O => ?_)
                    refine wp_aload_n (pc := 71) dX12_heard_71 rfl ?_
                    refine wm_get dX12_heard_72 gf_X12_57 K (by rfl) ?_
                    refine wp_aload_n (pc := 75) dX12_heard_75 rfl ?_
                    refine wm_gets dX12_heard_76 gf_X12_318 K (by rfl) (by repeat (first | assumption | exact pv10 | exact pv11 | (apply pv_o; decide; decide) | exact upN_eq | (apply upN_ne; decide) | (apply SV_at; assumption; decide) | exact rfl)) ?_
                    refine wp_iload_n (pc := 79) dX12_heard_79 rfl ?_
                    refine wm_iast dX12_heard_80 K O (by first | rfl | assumption) (by first | decide | omega) (by first | decide | omega) (by decide) (by omega) (by omega) (by repeat (first | assumption | exact upA_eq | (apply upA_ne; first | decide | omega) | (apply SA_at; assumption; first | decide | (simp; omega)) | exact rfl)) rfl (fun hp K O => ?_)
                    refine wp_aload_n (pc := 81) dX12_heard_81 rfl ?_
                    refine wp_dup (pc := 82) dX12_heard_82 rfl ?_
                    refine wm_gets dX12_heard_83 gf_X12_318 K (by rfl) (by repeat (first | assumption | exact pv10 | exact pv11 | (apply pv_o; decide; decide) | exact upN_eq | (apply upN_ne; decide) | (apply SV_at; assumption; decide) | exact rfl)) ?_
                    refine wp_iconst (pc := 86) dX12_heard_86 ?_
                    refine wp_iadd (pc := 87) dX12_heard_87 ?_
                    refine wm_put dX12_heard_88 pf_X12_318 K O (by decide) mset_28 rfl rfl (fun hp K O => ?_)
                    refine wp_aload_n (pc := 91) dX12_heard_91 rfl ?_
                    refine wm_gets dX12_heard_92 gf_X12_318 K (by rfl) (by repeat (first | assumption | exact pv10 | exact pv11 | (apply pv_o; decide; decide) | exact upN_eq | (apply upN_ne; decide) | (apply SV_at; assumption; decide) | exact rfl)) ?_
                    exact wp_ir (pc := 95) dX12_heard_95 rfl (by decide) (by decide) (by first | rfl | omega) ⟨⟨_, _, _, K, upN_ne (by decide) upN_eq, ⟨m1, mA, mt.tr rfl rfl, mr.tr rfl rfl, mu.tr rfl rfl, mU.tr rfl rfl, mh.ad (by omega) upN_eq rfl rfl, ms.tr rfl rfl rfl rfl, mk.tr rfl rfl rfl rfl⟩⟩, O⟩
                  ·
                    rw [if_neg (show ¬ heO2 hs x y by omega), if_neg (show ¬ heO2 hs x y by omega)] -- go
                    refine wp_iconst (pc := 59) dX12_heard_59 ?_
                    exact wp_ir (pc := 60) dX12_heard_60 rfl (by decide) (by decide) (by first | rfl | omega) ⟨⟨_, _, _, K, (by repeat (first | assumption | exact pv10 | exact pv11 | (apply pv_o; decide; decide) | exact upN_eq | (apply upN_ne; decide) | (apply SV_at; assumption; decide) | exact rfl)), M.qu (by repeat (first | exact SV.rf | assumption | (apply SV.up1; decide) | (apply SV.tr2; assumption; decide))) (by repeat (first | exact SA.rf | assumption | (apply SA.up1; decide) | (apply SA.tr2; assumption; decide))) (by first | assumption | exact Mrw.z (by repeat (first | assumption | exact pv10 | exact pv11 | (apply pv_o; decide; decide) | exact upN_eq | (apply upN_ne; decide) | (apply SV_at; assumption; decide) | exact rfl)) | exact Mrw.tr (by assumption) (by repeat (first | assumption | exact pv10 | exact pv11 | (apply pv_o; decide; decide) | exact upN_eq | (apply upN_ne; decide) | (apply SV_at; assumption; decide) | exact rfl)) (by repeat (first | assumption | exact upA_eq | (apply upA_ne; first | decide | omega) | (apply SA_at; assumption; first | decide | (simp; omega)) | exact rfl)))⟩, O⟩
theorem sp_Ref_forget (hM : MAt hp q th N T U tx rw rt hs ss KT) : Sp g MX12_forget (rm 0 0 0) [.ref q] hp (Eff (.int (I (hs.length : Int))) (fun hp2 => MAt hp2 q 0 N T U tx rw rt [] ss KT ∧ SO hp hp2 q (q + 25))) := by
  refine Sp_mk rfl (Nat.le_of_ble_eq_true rfl) ?_
  show wp g _ _ _ 0 0 0 [some (.ref q), none] [] hp
  have O := SO.rf (hp := hp) (lo := q) (hi := q + 25)
  obtain ⟨V, A, rd, K, hth, M⟩ := hM
  have hu := M.ru (q := q)
  have M2 := M
  obtain ⟨m1, mA, mt, mr, mu, mU, mh, ms, mk⟩ := M2
  have e28 := mh.1
  refine wp_aload_n (pc := 0) dX12_forget_0 rfl ?_
  refine wp_iconst (pc := 1) dX12_forget_1 ?_
  refine wm_put dX12_forget_2 pf_X12_85 K O (by decide) mset_6 rfl rfl (fun hp K O => ?_)
  refine wp_aload_n (pc := 5) dX12_forget_5 rfl ?_
  refine wm_gets dX12_forget_6 gf_X12_318 K (by rfl) (by repeat (first | assumption | exact pv10 | exact pv11 | (apply pv_o; decide; decide) | exact upN_eq | (apply upN_ne; decide) | (apply SV_at; assumption; decide) | exact rfl)) ?_
  refine wp_istore_n (pc := 9) dX12_forget_9 (by decide) ?_
  refine wp_aload_n (pc := 10) dX12_forget_10 rfl ?_
  refine wp_iconst (pc := 11) dX12_forget_11 ?_
  refine wm_put dX12_forget_12 pf_X12_318 K O (by decide) mset_28 rfl rfl (fun hp K O => ?_)
  refine wp_iload_n (pc := 15) dX12_forget_15 rfl ?_
  exact wp_ir (pc := 16) dX12_forget_16 rfl (by decide) (by decide) (by first | rfl | omega) ⟨⟨_, _, _, K, upN_ne (by decide) upN_eq, ⟨m1, mA, mt.tr rfl rfl, mr.tr rfl rfl, mu.tr rfl rfl, mU.tr rfl rfl, ⟨upN_eq, by decide, fun i hi => (by cases hi)⟩, ms.tr rfl rfl rfl rfl, mk.tr rfl rfl rfl rfl⟩⟩, O⟩
theorem sp_Ref_fits (K : ModAt hp q V A rd rl) (hI : TI T N) (hv1 : V 1 = (N : Int)) (mA : A 1 = flat T) (hu : RuA A V q rl t) (hk : k < N) (rx : 0 ≤ x ∧ x ≤ 4) (ry : 0 ≤ y ∧ y ≤ mof x) : Sp g MX12_fits (rm 230 0 0) [.ref q, .int (I (k : Int)), .int (I x), .int (I y)] hp (Eff (.int (B (iso (stl t) T N k x y = true))) (fun hp2 => (∃ V2 A2 rd2, ModAt hp2 q V2 A2 rd2 rl ∧ SV [8, 9, 10, 11, 16] V V2 ∧ SA [7] A A2) ∧ SO hp hp2 q (q + 25))) := by
  have hN := hI.men.2
  have h5 := hI.r5 (k : Int)
  have ho := oby_in (p := (k : Int)) hI
  have hw := wv_in (stl t) T (k : Int) 0
  refine Sp_mk rfl (Nat.le_of_ble_eq_true rfl) ?_
  show wp g _ _ _ 0 0 0 [some (.ref q), some (.int (I (k : Int))), some (.int (I x)), some (.int (I y))] [] hp
  have O := SO.rf (hp := hp) (lo := q) (hi := q + 25)
  refine wp_iload_n (pc := 0) dX12_fits_0 rfl ?_
  have e0 : mof 0 = 99 := rfl
  have e1 : mof 1 = 1 := rfl
  have e2 : mof 2 = 9 := rfl
  have e3 : mof 3 = 1 := rfl
  have e4 : mof 4 = 99 := rfl
  have hx : x = 0 ∨ x = 1 ∨ x = 2 ∨ x = 3 ∨ x = 4 := by omega
  rcases hx with rfl | rfl | rfl | rfl | rfl
  · refine wp_tswIn (pc := 1) 32 dX12_fits_1 (by decide) (by decide) (by decide) rfl (by decide) ?_
    refine wp_aload_n (pc := 32) dX12_fits_32 rfl ?_
    refine wm_get dX12_fits_33 gf_X12_9 K (by rfl) ?_
    refine wp_bipush (pc := 36) (y := 36) dX12_fits_36 (by decide) ?_
    refine wp_iload_n (pc := 38) dX12_fits_38 rfl ?_
    refine wp_iadd (pc := 39) dX12_fits_39 ?_
    refine wm_iald dX12_fits_40 K (by first | rfl | assumption) (by first | decide | omega) (by first | decide | omega) (by decide) (by omega) (by omega) (by repeat (first | assumption | exact upA_eq | (apply upA_ne; first | decide | omega) | (apply SA_at; assumption; first | decide | (simp; omega)) | exact rfl)) (by first | exact flat5 (by omega) (by omega) | exact flat3 (by omega) (by omega) | exact flat2 (by omega) (by omega) | exact flat6 (by omega) (by omega) | exact flat4 (by omega) (by omega) | exact flat1 (by omega) (by omega) | exact flat0 (by omega) (by omega) | exact flat7 | exact rfl) ?_
    refine wp_iload_n (pc := 41) dX12_fits_41 rfl ?_
    refine wp_icmp_lt (pc := 42) 49 dX12_fits_42 (by decide) (by first | omega | exact TI.i5 (by assumption) | exact TI.i3 (by assumption) | exact TI.i2 (by assumption) | exact TI.i1 (by assumption) | exact TI.i0 (by assumption) | exact TI.i4 (by assumption) | exact TI.i6 (by assumption) | exact TI.i7 (by assumption)) (by first | omega | exact TI.i5 (by assumption) | exact TI.i3 (by assumption) | exact TI.i2 (by assumption) | exact TI.i1 (by assumption) | exact TI.i0 (by assumption) | exact TI.i4 (by assumption) | exact TI.i6 (by assumption) | exact TI.i7 (by assumption)) (fun c42 => ?_) (fun c42 => ?_)
    ·
      first
      | (exfalso; omega)
      | skip
        refine wp_iconst (pc := 49) dX12_fits_49 ?_
        first | exact wp_z1 (pc := 50) dX12_fits_50 rfl (by decide) (by decide) (by unfold iso; simp; omega) (by first | exact ⟨⟨_, _, _, K, SV.rf, SA.rf⟩, O⟩ | exact ⟨⟨_, _, _, K, sV98, sA98⟩, O⟩) | exact wp_z0 (pc := 50) dX12_fits_50 rfl (by decide) (by decide) (by unfold iso; simp; omega) (by first | exact ⟨⟨_, _, _, K, SV.rf, SA.rf⟩, O⟩ | exact ⟨⟨_, _, _, K, sV98, sA98⟩, O⟩) | exact wp_zb (pc := 50) dX12_fits_50 rfl (by decide) (by decide) Iff.rfl (by first | exact ⟨⟨_, _, _, K, SV.rf, SA.rf⟩, O⟩ | exact ⟨⟨_, _, _, K, sV98, sA98⟩, O⟩)
    ·
      first
      | (exfalso; omega)
      | skip
        refine wp_iconst (pc := 45) dX12_fits_45 ?_
        refine wp_goto (pc := 46) 50 dX12_fits_46 (by decide) ?_
        first | exact wp_z1 (pc := 50) dX12_fits_50 rfl (by decide) (by decide) (by unfold iso; simp; omega) (by first | exact ⟨⟨_, _, _, K, SV.rf, SA.rf⟩, O⟩ | exact ⟨⟨_, _, _, K, sV98, sA98⟩, O⟩) | exact wp_z0 (pc := 50) dX12_fits_50 rfl (by decide) (by decide) (by unfold iso; simp; omega) (by first | exact ⟨⟨_, _, _, K, SV.rf, SA.rf⟩, O⟩ | exact ⟨⟨_, _, _, K, sV98, sA98⟩, O⟩) | exact wp_zb (pc := 50) dX12_fits_50 rfl (by decide) (by decide) Iff.rfl (by first | exact ⟨⟨_, _, _, K, SV.rf, SA.rf⟩, O⟩ | exact ⟨⟨_, _, _, K, sV98, sA98⟩, O⟩)
  · refine wp_tswIn (pc := 1) 51 dX12_fits_1 (by decide) (by decide) (by decide) rfl (by decide) ?_
    refine wp_aload_n (pc := 51) dX12_fits_51 rfl ?_
    refine wm_get dX12_fits_52 gf_X12_9 K (by rfl) ?_
    refine wp_bipush (pc := 55) (y := 54) dX12_fits_55 (by decide) ?_
    refine wp_iload_n (pc := 57) dX12_fits_57 rfl ?_
    refine wp_iadd (pc := 58) dX12_fits_58 ?_
    refine wm_iald dX12_fits_59 K (by first | rfl | assumption) (by first | decide | omega) (by first | decide | omega) (by decide) (by omega) (by omega) (by repeat (first | assumption | exact upA_eq | (apply upA_ne; first | decide | omega) | (apply SA_at; assumption; first | decide | (simp; omega)) | exact rfl)) (by first | exact flat5 (by omega) (by omega) | exact flat3 (by omega) (by omega) | exact flat2 (by omega) (by omega) | exact flat6 (by omega) (by omega) | exact flat4 (by omega) (by omega) | exact flat1 (by omega) (by omega) | exact flat0 (by omega) (by omega) | exact flat7 | exact rfl) ?_
    refine wp_if_le (pc := 60) 67 dX12_fits_60 (by decide) (by first | omega | exact TI.i5 (by assumption) | exact TI.i3 (by assumption) | exact TI.i2 (by assumption) | exact TI.i1 (by assumption) | exact TI.i0 (by assumption) | exact TI.i4 (by assumption) | exact TI.i6 (by assumption) | exact TI.i7 (by assumption)) (fun c60 => ?_) (fun c60 => ?_)
    ·
      first
      | (exfalso; omega)
      | skip
        refine wp_iconst (pc := 67) dX12_fits_67 ?_
        refine wp_iload_n (pc := 68) dX12_fits_68 rfl ?_
        refine wp_iconst (pc := 69) dX12_fits_69 ?_
        refine wp_icmp_ne (pc := 70) 77 dX12_fits_70 (by decide) (by first | omega | exact TI.i5 (by assumption) | exact TI.i3 (by assumption) | exact TI.i2 (by assumption) | exact TI.i1 (by assumption) | exact TI.i0 (by assumption) | exact TI.i4 (by assumption) | exact TI.i6 (by assumption) | exact TI.i7 (by assumption)) (by first | omega | exact TI.i5 (by assumption) | exact TI.i3 (by assumption) | exact TI.i2 (by assumption) | exact TI.i1 (by assumption) | exact TI.i0 (by assumption) | exact TI.i4 (by assumption) | exact TI.i6 (by assumption) | exact TI.i7 (by assumption)) (fun c70 => ?_) (fun c70 => ?_)
        ·
          first
          | (exfalso; omega)
          | skip
            refine wp_iconst (pc := 77) dX12_fits_77 ?_
            refine wp_icmp_ne (pc := 78) 85 dX12_fits_78 (by decide) (by first | omega | exact TI.i5 (by assumption) | exact TI.i3 (by assumption) | exact TI.i2 (by assumption) | exact TI.i1 (by assumption) | exact TI.i0 (by assumption) | exact TI.i4 (by assumption) | exact TI.i6 (by assumption) | exact TI.i7 (by assumption)) (by first | omega | exact TI.i5 (by assumption) | exact TI.i3 (by assumption) | exact TI.i2 (by assumption) | exact TI.i1 (by assumption) | exact TI.i0 (by assumption) | exact TI.i4 (by assumption) | exact TI.i6 (by assumption) | exact TI.i7 (by assumption)) (fun c78 => ?_) (fun c78 => ?_)
            ·
              first
              | (exfalso; omega)
              | skip
                refine wp_iconst (pc := 85) dX12_fits_85 ?_
                first | exact wp_z1 (pc := 86) dX12_fits_86 rfl (by decide) (by decide) (by unfold iso; simp; omega) (by first | exact ⟨⟨_, _, _, K, SV.rf, SA.rf⟩, O⟩ | exact ⟨⟨_, _, _, K, sV98, sA98⟩, O⟩) | exact wp_z0 (pc := 86) dX12_fits_86 rfl (by decide) (by decide) (by unfold iso; simp; omega) (by first | exact ⟨⟨_, _, _, K, SV.rf, SA.rf⟩, O⟩ | exact ⟨⟨_, _, _, K, sV98, sA98⟩, O⟩) | exact wp_zb (pc := 86) dX12_fits_86 rfl (by decide) (by decide) Iff.rfl (by first | exact ⟨⟨_, _, _, K, SV.rf, SA.rf⟩, O⟩ | exact ⟨⟨_, _, _, K, sV98, sA98⟩, O⟩)
            ·
              first
              | (exfalso; omega)
              | skip
                refine wp_iconst (pc := 81) dX12_fits_81 ?_
                refine wp_goto (pc := 82) 86 dX12_fits_82 (by decide) ?_
                first | exact wp_z1 (pc := 86) dX12_fits_86 rfl (by decide) (by decide) (by unfold iso; simp; omega) (by first | exact ⟨⟨_, _, _, K, SV.rf, SA.rf⟩, O⟩ | exact ⟨⟨_, _, _, K, sV98, sA98⟩, O⟩) | exact wp_z0 (pc := 86) dX12_fits_86 rfl (by decide) (by decide) (by unfold iso; simp; omega) (by first | exact ⟨⟨_, _, _, K, SV.rf, SA.rf⟩, O⟩ | exact ⟨⟨_, _, _, K, sV98, sA98⟩, O⟩) | exact wp_zb (pc := 86) dX12_fits_86 rfl (by decide) (by decide) Iff.rfl (by first | exact ⟨⟨_, _, _, K, SV.rf, SA.rf⟩, O⟩ | exact ⟨⟨_, _, _, K, sV98, sA98⟩, O⟩)
        ·
          first
          | (exfalso; omega)
          | skip
            refine wp_iconst (pc := 73) dX12_fits_73 ?_
            refine wp_goto (pc := 74) 78 dX12_fits_74 (by decide) ?_
            refine wp_icmp_ne (pc := 78) 85 dX12_fits_78 (by decide) (by first | omega | exact TI.i5 (by assumption) | exact TI.i3 (by assumption) | exact TI.i2 (by assumption) | exact TI.i1 (by assumption) | exact TI.i0 (by assumption) | exact TI.i4 (by assumption) | exact TI.i6 (by assumption) | exact TI.i7 (by assumption)) (by first | omega | exact TI.i5 (by assumption) | exact TI.i3 (by assumption) | exact TI.i2 (by assumption) | exact TI.i1 (by assumption) | exact TI.i0 (by assumption) | exact TI.i4 (by assumption) | exact TI.i6 (by assumption) | exact TI.i7 (by assumption)) (fun c78 => ?_) (fun c78 => ?_)
            ·
              first
              | (exfalso; omega)
              | skip
                refine wp_iconst (pc := 85) dX12_fits_85 ?_
                first | exact wp_z1 (pc := 86) dX12_fits_86 rfl (by decide) (by decide) (by unfold iso; simp; omega) (by first | exact ⟨⟨_, _, _, K, SV.rf, SA.rf⟩, O⟩ | exact ⟨⟨_, _, _, K, sV98, sA98⟩, O⟩) | exact wp_z0 (pc := 86) dX12_fits_86 rfl (by decide) (by decide) (by unfold iso; simp; omega) (by first | exact ⟨⟨_, _, _, K, SV.rf, SA.rf⟩, O⟩ | exact ⟨⟨_, _, _, K, sV98, sA98⟩, O⟩) | exact wp_zb (pc := 86) dX12_fits_86 rfl (by decide) (by decide) Iff.rfl (by first | exact ⟨⟨_, _, _, K, SV.rf, SA.rf⟩, O⟩ | exact ⟨⟨_, _, _, K, sV98, sA98⟩, O⟩)
            ·
              first
              | (exfalso; omega)
              | skip
                refine wp_iconst (pc := 81) dX12_fits_81 ?_
                refine wp_goto (pc := 82) 86 dX12_fits_82 (by decide) ?_
                first | exact wp_z1 (pc := 86) dX12_fits_86 rfl (by decide) (by decide) (by unfold iso; simp; omega) (by first | exact ⟨⟨_, _, _, K, SV.rf, SA.rf⟩, O⟩ | exact ⟨⟨_, _, _, K, sV98, sA98⟩, O⟩) | exact wp_z0 (pc := 86) dX12_fits_86 rfl (by decide) (by decide) (by unfold iso; simp; omega) (by first | exact ⟨⟨_, _, _, K, SV.rf, SA.rf⟩, O⟩ | exact ⟨⟨_, _, _, K, sV98, sA98⟩, O⟩) | exact wp_zb (pc := 86) dX12_fits_86 rfl (by decide) (by decide) Iff.rfl (by first | exact ⟨⟨_, _, _, K, SV.rf, SA.rf⟩, O⟩ | exact ⟨⟨_, _, _, K, sV98, sA98⟩, O⟩)
    ·
      first
      | (exfalso; omega)
      | skip
        refine wp_iconst (pc := 63) dX12_fits_63 ?_
        refine wp_goto (pc := 64) 68 dX12_fits_64 (by decide) ?_
        refine wp_iload_n (pc := 68) dX12_fits_68 rfl ?_
        refine wp_iconst (pc := 69) dX12_fits_69 ?_
        refine wp_icmp_ne (pc := 70) 77 dX12_fits_70 (by decide) (by first | omega | exact TI.i5 (by assumption) | exact TI.i3 (by assumption) | exact TI.i2 (by assumption) | exact TI.i1 (by assumption) | exact TI.i0 (by assumption) | exact TI.i4 (by assumption) | exact TI.i6 (by assumption) | exact TI.i7 (by assumption)) (by first | omega | exact TI.i5 (by assumption) | exact TI.i3 (by assumption) | exact TI.i2 (by assumption) | exact TI.i1 (by assumption) | exact TI.i0 (by assumption) | exact TI.i4 (by assumption) | exact TI.i6 (by assumption) | exact TI.i7 (by assumption)) (fun c70 => ?_) (fun c70 => ?_)
        ·
          first
          | (exfalso; omega)
          | skip
            refine wp_iconst (pc := 77) dX12_fits_77 ?_
            refine wp_icmp_ne (pc := 78) 85 dX12_fits_78 (by decide) (by first | omega | exact TI.i5 (by assumption) | exact TI.i3 (by assumption) | exact TI.i2 (by assumption) | exact TI.i1 (by assumption) | exact TI.i0 (by assumption) | exact TI.i4 (by assumption) | exact TI.i6 (by assumption) | exact TI.i7 (by assumption)) (by first | omega | exact TI.i5 (by assumption) | exact TI.i3 (by assumption) | exact TI.i2 (by assumption) | exact TI.i1 (by assumption) | exact TI.i0 (by assumption) | exact TI.i4 (by assumption) | exact TI.i6 (by assumption) | exact TI.i7 (by assumption)) (fun c78 => ?_) (fun c78 => ?_)
            ·
              first
              | (exfalso; omega)
              | skip
                refine wp_iconst (pc := 85) dX12_fits_85 ?_
                first | exact wp_z1 (pc := 86) dX12_fits_86 rfl (by decide) (by decide) (by unfold iso; simp; omega) (by first | exact ⟨⟨_, _, _, K, SV.rf, SA.rf⟩, O⟩ | exact ⟨⟨_, _, _, K, sV98, sA98⟩, O⟩) | exact wp_z0 (pc := 86) dX12_fits_86 rfl (by decide) (by decide) (by unfold iso; simp; omega) (by first | exact ⟨⟨_, _, _, K, SV.rf, SA.rf⟩, O⟩ | exact ⟨⟨_, _, _, K, sV98, sA98⟩, O⟩) | exact wp_zb (pc := 86) dX12_fits_86 rfl (by decide) (by decide) Iff.rfl (by first | exact ⟨⟨_, _, _, K, SV.rf, SA.rf⟩, O⟩ | exact ⟨⟨_, _, _, K, sV98, sA98⟩, O⟩)
            ·
              first
              | (exfalso; omega)
              | skip
                refine wp_iconst (pc := 81) dX12_fits_81 ?_
                refine wp_goto (pc := 82) 86 dX12_fits_82 (by decide) ?_
                first | exact wp_z1 (pc := 86) dX12_fits_86 rfl (by decide) (by decide) (by unfold iso; simp; omega) (by first | exact ⟨⟨_, _, _, K, SV.rf, SA.rf⟩, O⟩ | exact ⟨⟨_, _, _, K, sV98, sA98⟩, O⟩) | exact wp_z0 (pc := 86) dX12_fits_86 rfl (by decide) (by decide) (by unfold iso; simp; omega) (by first | exact ⟨⟨_, _, _, K, SV.rf, SA.rf⟩, O⟩ | exact ⟨⟨_, _, _, K, sV98, sA98⟩, O⟩) | exact wp_zb (pc := 86) dX12_fits_86 rfl (by decide) (by decide) Iff.rfl (by first | exact ⟨⟨_, _, _, K, SV.rf, SA.rf⟩, O⟩ | exact ⟨⟨_, _, _, K, sV98, sA98⟩, O⟩)
        ·
          first
          | (exfalso; omega)
          | skip
            refine wp_iconst (pc := 73) dX12_fits_73 ?_
            refine wp_goto (pc := 74) 78 dX12_fits_74 (by decide) ?_
            refine wp_icmp_ne (pc := 78) 85 dX12_fits_78 (by decide) (by first | omega | exact TI.i5 (by assumption) | exact TI.i3 (by assumption) | exact TI.i2 (by assumption) | exact TI.i1 (by assumption) | exact TI.i0 (by assumption) | exact TI.i4 (by assumption) | exact TI.i6 (by assumption) | exact TI.i7 (by assumption)) (by first | omega | exact TI.i5 (by assumption) | exact TI.i3 (by assumption) | exact TI.i2 (by assumption) | exact TI.i1 (by assumption) | exact TI.i0 (by assumption) | exact TI.i4 (by assumption) | exact TI.i6 (by assumption) | exact TI.i7 (by assumption)) (fun c78 => ?_) (fun c78 => ?_)
            ·
              first
              | (exfalso; omega)
              | skip
                refine wp_iconst (pc := 85) dX12_fits_85 ?_
                first | exact wp_z1 (pc := 86) dX12_fits_86 rfl (by decide) (by decide) (by unfold iso; simp; omega) (by first | exact ⟨⟨_, _, _, K, SV.rf, SA.rf⟩, O⟩ | exact ⟨⟨_, _, _, K, sV98, sA98⟩, O⟩) | exact wp_z0 (pc := 86) dX12_fits_86 rfl (by decide) (by decide) (by unfold iso; simp; omega) (by first | exact ⟨⟨_, _, _, K, SV.rf, SA.rf⟩, O⟩ | exact ⟨⟨_, _, _, K, sV98, sA98⟩, O⟩) | exact wp_zb (pc := 86) dX12_fits_86 rfl (by decide) (by decide) Iff.rfl (by first | exact ⟨⟨_, _, _, K, SV.rf, SA.rf⟩, O⟩ | exact ⟨⟨_, _, _, K, sV98, sA98⟩, O⟩)
            ·
              first
              | (exfalso; omega)
              | skip
                refine wp_iconst (pc := 81) dX12_fits_81 ?_
                refine wp_goto (pc := 82) 86 dX12_fits_82 (by decide) ?_
                first | exact wp_z1 (pc := 86) dX12_fits_86 rfl (by decide) (by decide) (by unfold iso; simp; omega) (by first | exact ⟨⟨_, _, _, K, SV.rf, SA.rf⟩, O⟩ | exact ⟨⟨_, _, _, K, sV98, sA98⟩, O⟩) | exact wp_z0 (pc := 86) dX12_fits_86 rfl (by decide) (by decide) (by unfold iso; simp; omega) (by first | exact ⟨⟨_, _, _, K, SV.rf, SA.rf⟩, O⟩ | exact ⟨⟨_, _, _, K, sV98, sA98⟩, O⟩) | exact wp_zb (pc := 86) dX12_fits_86 rfl (by decide) (by decide) Iff.rfl (by first | exact ⟨⟨_, _, _, K, SV.rf, SA.rf⟩, O⟩ | exact ⟨⟨_, _, _, K, sV98, sA98⟩, O⟩)
  · refine wp_tswIn (pc := 1) 87 dX12_fits_1 (by decide) (by decide) (by decide) rfl (by decide) ?_
    refine wp_iload_n (pc := 87) dX12_fits_87 rfl ?_
    refine wp_if_le (pc := 88) 109 dX12_fits_88 (by decide) (by first | omega | exact TI.i5 (by assumption) | exact TI.i3 (by assumption) | exact TI.i2 (by assumption) | exact TI.i1 (by assumption) | exact TI.i0 (by assumption) | exact TI.i4 (by assumption) | exact TI.i6 (by assumption) | exact TI.i7 (by assumption)) (fun c88 => ?_) (fun c88 => ?_)
    ·
      first
      | (exfalso; omega)
      | skip
        refine wp_iconst (pc := 109) dX12_fits_109 ?_
        first | exact wp_z1 (pc := 110) dX12_fits_110 rfl (by decide) (by decide) (by unfold iso; simp; omega) (by first | exact ⟨⟨_, _, _, K, SV.rf, SA.rf⟩, O⟩ | exact ⟨⟨_, _, _, K, sV98, sA98⟩, O⟩) | exact wp_z0 (pc := 110) dX12_fits_110 rfl (by decide) (by decide) (by unfold iso; simp; omega) (by first | exact ⟨⟨_, _, _, K, SV.rf, SA.rf⟩, O⟩ | exact ⟨⟨_, _, _, K, sV98, sA98⟩, O⟩) | exact wp_zb (pc := 110) dX12_fits_110 rfl (by decide) (by decide) Iff.rfl (by first | exact ⟨⟨_, _, _, K, SV.rf, SA.rf⟩, O⟩ | exact ⟨⟨_, _, _, K, sV98, sA98⟩, O⟩)
    ·
      first
      | (exfalso; omega)
      | skip
        refine wp_aload_n (pc := 91) dX12_fits_91 rfl ?_
        refine wp_aload_n (pc := 92) dX12_fits_92 rfl ?_
        refine wm_get dX12_fits_93 gf_X12_9 K (by rfl) ?_
        refine wp_iload_n (pc := 96) dX12_fits_96 rfl ?_
        refine wp_iconst (pc := 97) dX12_fits_97 ?_
        refine wp_Vs (pc := 98) dX12_fits_98 cl_X12_216 (sp_Ref_wordsOf K hI (.inl rfl) mA hu (by omega) (by decide)) rfl rfl K.1 (by rfl) (by decide) (Nat.le_of_ble_eq_true rfl) (fun hp98 e98 => ?_)
        obtain ⟨⟨V98, A98, rd98, K, sV98, sA98⟩, O1⟩ := e98; replace O := SO.tr O O1
        refine wp_iload_n (pc := 101) dX12_fits_101 rfl ?_
        refine wp_icmp_ne (pc := 102) 109 dX12_fits_102 (by decide) (by first | omega | exact TI.i5 (by assumption) | exact TI.i3 (by assumption) | exact TI.i2 (by assumption) | exact TI.i1 (by assumption) | exact TI.i0 (by assumption) | exact TI.i4 (by assumption) | exact TI.i6 (by assumption) | exact TI.i7 (by assumption)) (by first | omega | exact TI.i5 (by assumption) | exact TI.i3 (by assumption) | exact TI.i2 (by assumption) | exact TI.i1 (by assumption) | exact TI.i0 (by assumption) | exact TI.i4 (by assumption) | exact TI.i6 (by assumption) | exact TI.i7 (by assumption)) (fun c102 => ?_) (fun c102 => ?_)
        ·
          first
          | (exfalso; omega)
          | skip
            refine wp_iconst (pc := 109) dX12_fits_109 ?_
            first | exact wp_z1 (pc := 110) dX12_fits_110 rfl (by decide) (by decide) (by unfold iso; simp; omega) (by first | exact ⟨⟨_, _, _, K, SV.rf, SA.rf⟩, O⟩ | exact ⟨⟨_, _, _, K, sV98, sA98⟩, O⟩) | exact wp_z0 (pc := 110) dX12_fits_110 rfl (by decide) (by decide) (by unfold iso; simp; omega) (by first | exact ⟨⟨_, _, _, K, SV.rf, SA.rf⟩, O⟩ | exact ⟨⟨_, _, _, K, sV98, sA98⟩, O⟩) | exact wp_zb (pc := 110) dX12_fits_110 rfl (by decide) (by decide) Iff.rfl (by first | exact ⟨⟨_, _, _, K, SV.rf, SA.rf⟩, O⟩ | exact ⟨⟨_, _, _, K, sV98, sA98⟩, O⟩)
        ·
          first
          | (exfalso; omega)
          | skip
            refine wp_iconst (pc := 105) dX12_fits_105 ?_
            refine wp_goto (pc := 106) 110 dX12_fits_106 (by decide) ?_
            first | exact wp_z1 (pc := 110) dX12_fits_110 rfl (by decide) (by decide) (by unfold iso; simp; omega) (by first | exact ⟨⟨_, _, _, K, SV.rf, SA.rf⟩, O⟩ | exact ⟨⟨_, _, _, K, sV98, sA98⟩, O⟩) | exact wp_z0 (pc := 110) dX12_fits_110 rfl (by decide) (by decide) (by unfold iso; simp; omega) (by first | exact ⟨⟨_, _, _, K, SV.rf, SA.rf⟩, O⟩ | exact ⟨⟨_, _, _, K, sV98, sA98⟩, O⟩) | exact wp_zb (pc := 110) dX12_fits_110 rfl (by decide) (by decide) Iff.rfl (by first | exact ⟨⟨_, _, _, K, SV.rf, SA.rf⟩, O⟩ | exact ⟨⟨_, _, _, K, sV98, sA98⟩, O⟩)
  · refine wp_tswIn (pc := 1) 111 dX12_fits_1 (by decide) (by decide) (by decide) rfl (by decide) ?_
    refine wp_aload_n (pc := 111) dX12_fits_111 rfl ?_
    refine wp_aload_n (pc := 112) dX12_fits_112 rfl ?_
    refine wm_get dX12_fits_113 gf_X12_9 K (by rfl) ?_
    refine wp_iload_n (pc := 116) dX12_fits_116 rfl ?_
    refine wp_Vp (pc := 117) dX12_fits_117 cl_X12_205 (sp_Ref_owesAll K hv1 hN (.inl rfl) mA (by omega)) rfl rfl K.1 (by rfl) (by decide) (Nat.le_of_ble_eq_true rfl) ?_
    refine wp_if_le (pc := 120) 127 dX12_fits_120 (by decide) (by first | omega | exact TI.i5 (by assumption) | exact TI.i3 (by assumption) | exact TI.i2 (by assumption) | exact TI.i1 (by assumption) | exact TI.i0 (by assumption) | exact TI.i4 (by assumption) | exact TI.i6 (by assumption) | exact TI.i7 (by assumption)) (fun c120 => ?_) (fun c120 => ?_)
    ·
      first
      | (exfalso; omega)
      | skip
        refine wp_iconst (pc := 127) dX12_fits_127 ?_
        refine wp_iload_n (pc := 128) dX12_fits_128 rfl ?_
        refine wp_iconst (pc := 129) dX12_fits_129 ?_
        refine wp_icmp_ne (pc := 130) 137 dX12_fits_130 (by decide) (by first | omega | exact TI.i5 (by assumption) | exact TI.i3 (by assumption) | exact TI.i2 (by assumption) | exact TI.i1 (by assumption) | exact TI.i0 (by assumption) | exact TI.i4 (by assumption) | exact TI.i6 (by assumption) | exact TI.i7 (by assumption)) (by first | omega | exact TI.i5 (by assumption) | exact TI.i3 (by assumption) | exact TI.i2 (by assumption) | exact TI.i1 (by assumption) | exact TI.i0 (by assumption) | exact TI.i4 (by assumption) | exact TI.i6 (by assumption) | exact TI.i7 (by assumption)) (fun c130 => ?_) (fun c130 => ?_)
        ·
          first
          | (exfalso; omega)
          | skip
            refine wp_iconst (pc := 137) dX12_fits_137 ?_
            refine wp_icmp_ne (pc := 138) 145 dX12_fits_138 (by decide) (by first | omega | exact TI.i5 (by assumption) | exact TI.i3 (by assumption) | exact TI.i2 (by assumption) | exact TI.i1 (by assumption) | exact TI.i0 (by assumption) | exact TI.i4 (by assumption) | exact TI.i6 (by assumption) | exact TI.i7 (by assumption)) (by first | omega | exact TI.i5 (by assumption) | exact TI.i3 (by assumption) | exact TI.i2 (by assumption) | exact TI.i1 (by assumption) | exact TI.i0 (by assumption) | exact TI.i4 (by assumption) | exact TI.i6 (by assumption) | exact TI.i7 (by assumption)) (fun c138 => ?_) (fun c138 => ?_)
            ·
              first
              | (exfalso; omega)
              | skip
                refine wp_iconst (pc := 145) dX12_fits_145 ?_
                first | exact wp_z1 (pc := 146) dX12_fits_146 rfl (by decide) (by decide) (by unfold iso; simp; omega) (by first | exact ⟨⟨_, _, _, K, SV.rf, SA.rf⟩, O⟩ | exact ⟨⟨_, _, _, K, sV98, sA98⟩, O⟩) | exact wp_z0 (pc := 146) dX12_fits_146 rfl (by decide) (by decide) (by unfold iso; simp; omega) (by first | exact ⟨⟨_, _, _, K, SV.rf, SA.rf⟩, O⟩ | exact ⟨⟨_, _, _, K, sV98, sA98⟩, O⟩) | exact wp_zb (pc := 146) dX12_fits_146 rfl (by decide) (by decide) Iff.rfl (by first | exact ⟨⟨_, _, _, K, SV.rf, SA.rf⟩, O⟩ | exact ⟨⟨_, _, _, K, sV98, sA98⟩, O⟩)
            ·
              first
              | (exfalso; omega)
              | skip
                refine wp_iconst (pc := 141) dX12_fits_141 ?_
                refine wp_goto (pc := 142) 146 dX12_fits_142 (by decide) ?_
                first | exact wp_z1 (pc := 146) dX12_fits_146 rfl (by decide) (by decide) (by unfold iso; simp; omega) (by first | exact ⟨⟨_, _, _, K, SV.rf, SA.rf⟩, O⟩ | exact ⟨⟨_, _, _, K, sV98, sA98⟩, O⟩) | exact wp_z0 (pc := 146) dX12_fits_146 rfl (by decide) (by decide) (by unfold iso; simp; omega) (by first | exact ⟨⟨_, _, _, K, SV.rf, SA.rf⟩, O⟩ | exact ⟨⟨_, _, _, K, sV98, sA98⟩, O⟩) | exact wp_zb (pc := 146) dX12_fits_146 rfl (by decide) (by decide) Iff.rfl (by first | exact ⟨⟨_, _, _, K, SV.rf, SA.rf⟩, O⟩ | exact ⟨⟨_, _, _, K, sV98, sA98⟩, O⟩)
        ·
          first
          | (exfalso; omega)
          | skip
            refine wp_iconst (pc := 133) dX12_fits_133 ?_
            refine wp_goto (pc := 134) 138 dX12_fits_134 (by decide) ?_
            refine wp_icmp_ne (pc := 138) 145 dX12_fits_138 (by decide) (by first | omega | exact TI.i5 (by assumption) | exact TI.i3 (by assumption) | exact TI.i2 (by assumption) | exact TI.i1 (by assumption) | exact TI.i0 (by assumption) | exact TI.i4 (by assumption) | exact TI.i6 (by assumption) | exact TI.i7 (by assumption)) (by first | omega | exact TI.i5 (by assumption) | exact TI.i3 (by assumption) | exact TI.i2 (by assumption) | exact TI.i1 (by assumption) | exact TI.i0 (by assumption) | exact TI.i4 (by assumption) | exact TI.i6 (by assumption) | exact TI.i7 (by assumption)) (fun c138 => ?_) (fun c138 => ?_)
            ·
              first
              | (exfalso; omega)
              | skip
                refine wp_iconst (pc := 145) dX12_fits_145 ?_
                first | exact wp_z1 (pc := 146) dX12_fits_146 rfl (by decide) (by decide) (by unfold iso; simp; omega) (by first | exact ⟨⟨_, _, _, K, SV.rf, SA.rf⟩, O⟩ | exact ⟨⟨_, _, _, K, sV98, sA98⟩, O⟩) | exact wp_z0 (pc := 146) dX12_fits_146 rfl (by decide) (by decide) (by unfold iso; simp; omega) (by first | exact ⟨⟨_, _, _, K, SV.rf, SA.rf⟩, O⟩ | exact ⟨⟨_, _, _, K, sV98, sA98⟩, O⟩) | exact wp_zb (pc := 146) dX12_fits_146 rfl (by decide) (by decide) Iff.rfl (by first | exact ⟨⟨_, _, _, K, SV.rf, SA.rf⟩, O⟩ | exact ⟨⟨_, _, _, K, sV98, sA98⟩, O⟩)
            ·
              first
              | (exfalso; omega)
              | skip
                refine wp_iconst (pc := 141) dX12_fits_141 ?_
                refine wp_goto (pc := 142) 146 dX12_fits_142 (by decide) ?_
                first | exact wp_z1 (pc := 146) dX12_fits_146 rfl (by decide) (by decide) (by unfold iso; simp; omega) (by first | exact ⟨⟨_, _, _, K, SV.rf, SA.rf⟩, O⟩ | exact ⟨⟨_, _, _, K, sV98, sA98⟩, O⟩) | exact wp_z0 (pc := 146) dX12_fits_146 rfl (by decide) (by decide) (by unfold iso; simp; omega) (by first | exact ⟨⟨_, _, _, K, SV.rf, SA.rf⟩, O⟩ | exact ⟨⟨_, _, _, K, sV98, sA98⟩, O⟩) | exact wp_zb (pc := 146) dX12_fits_146 rfl (by decide) (by decide) Iff.rfl (by first | exact ⟨⟨_, _, _, K, SV.rf, SA.rf⟩, O⟩ | exact ⟨⟨_, _, _, K, sV98, sA98⟩, O⟩)
    ·
      first
      | (exfalso; omega)
      | skip
        refine wp_iconst (pc := 123) dX12_fits_123 ?_
        refine wp_goto (pc := 124) 128 dX12_fits_124 (by decide) ?_
        refine wp_iload_n (pc := 128) dX12_fits_128 rfl ?_
        refine wp_iconst (pc := 129) dX12_fits_129 ?_
        refine wp_icmp_ne (pc := 130) 137 dX12_fits_130 (by decide) (by first | omega | exact TI.i5 (by assumption) | exact TI.i3 (by assumption) | exact TI.i2 (by assumption) | exact TI.i1 (by assumption) | exact TI.i0 (by assumption) | exact TI.i4 (by assumption) | exact TI.i6 (by assumption) | exact TI.i7 (by assumption)) (by first | omega | exact TI.i5 (by assumption) | exact TI.i3 (by assumption) | exact TI.i2 (by assumption) | exact TI.i1 (by assumption) | exact TI.i0 (by assumption) | exact TI.i4 (by assumption) | exact TI.i6 (by assumption) | exact TI.i7 (by assumption)) (fun c130 => ?_) (fun c130 => ?_)
        ·
          first
          | (exfalso; omega)
          | skip
            refine wp_iconst (pc := 137) dX12_fits_137 ?_
            refine wp_icmp_ne (pc := 138) 145 dX12_fits_138 (by decide) (by first | omega | exact TI.i5 (by assumption) | exact TI.i3 (by assumption) | exact TI.i2 (by assumption) | exact TI.i1 (by assumption) | exact TI.i0 (by assumption) | exact TI.i4 (by assumption) | exact TI.i6 (by assumption) | exact TI.i7 (by assumption)) (by first | omega | exact TI.i5 (by assumption) | exact TI.i3 (by assumption) | exact TI.i2 (by assumption) | exact TI.i1 (by assumption) | exact TI.i0 (by assumption) | exact TI.i4 (by assumption) | exact TI.i6 (by assumption) | exact TI.i7 (by assumption)) (fun c138 => ?_) (fun c138 => ?_)
            ·
              first
              | (exfalso; omega)
              | skip
                refine wp_iconst (pc := 145) dX12_fits_145 ?_
                first | exact wp_z1 (pc := 146) dX12_fits_146 rfl (by decide) (by decide) (by unfold iso; simp; omega) (by first | exact ⟨⟨_, _, _, K, SV.rf, SA.rf⟩, O⟩ | exact ⟨⟨_, _, _, K, sV98, sA98⟩, O⟩) | exact wp_z0 (pc := 146) dX12_fits_146 rfl (by decide) (by decide) (by unfold iso; simp; omega) (by first | exact ⟨⟨_, _, _, K, SV.rf, SA.rf⟩, O⟩ | exact ⟨⟨_, _, _, K, sV98, sA98⟩, O⟩) | exact wp_zb (pc := 146) dX12_fits_146 rfl (by decide) (by decide) Iff.rfl (by first | exact ⟨⟨_, _, _, K, SV.rf, SA.rf⟩, O⟩ | exact ⟨⟨_, _, _, K, sV98, sA98⟩, O⟩)
            ·
              first
              | (exfalso; omega)
              | skip
                refine wp_iconst (pc := 141) dX12_fits_141 ?_
                refine wp_goto (pc := 142) 146 dX12_fits_142 (by decide) ?_
                first | exact wp_z1 (pc := 146) dX12_fits_146 rfl (by decide) (by decide) (by unfold iso; simp; omega) (by first | exact ⟨⟨_, _, _, K, SV.rf, SA.rf⟩, O⟩ | exact ⟨⟨_, _, _, K, sV98, sA98⟩, O⟩) | exact wp_z0 (pc := 146) dX12_fits_146 rfl (by decide) (by decide) (by unfold iso; simp; omega) (by first | exact ⟨⟨_, _, _, K, SV.rf, SA.rf⟩, O⟩ | exact ⟨⟨_, _, _, K, sV98, sA98⟩, O⟩) | exact wp_zb (pc := 146) dX12_fits_146 rfl (by decide) (by decide) Iff.rfl (by first | exact ⟨⟨_, _, _, K, SV.rf, SA.rf⟩, O⟩ | exact ⟨⟨_, _, _, K, sV98, sA98⟩, O⟩)
        ·
          first
          | (exfalso; omega)
          | skip
            refine wp_iconst (pc := 133) dX12_fits_133 ?_
            refine wp_goto (pc := 134) 138 dX12_fits_134 (by decide) ?_
            refine wp_icmp_ne (pc := 138) 145 dX12_fits_138 (by decide) (by first | omega | exact TI.i5 (by assumption) | exact TI.i3 (by assumption) | exact TI.i2 (by assumption) | exact TI.i1 (by assumption) | exact TI.i0 (by assumption) | exact TI.i4 (by assumption) | exact TI.i6 (by assumption) | exact TI.i7 (by assumption)) (by first | omega | exact TI.i5 (by assumption) | exact TI.i3 (by assumption) | exact TI.i2 (by assumption) | exact TI.i1 (by assumption) | exact TI.i0 (by assumption) | exact TI.i4 (by assumption) | exact TI.i6 (by assumption) | exact TI.i7 (by assumption)) (fun c138 => ?_) (fun c138 => ?_)
            ·
              first
              | (exfalso; omega)
              | skip
                refine wp_iconst (pc := 145) dX12_fits_145 ?_
                first | exact wp_z1 (pc := 146) dX12_fits_146 rfl (by decide) (by decide) (by unfold iso; simp; omega) (by first | exact ⟨⟨_, _, _, K, SV.rf, SA.rf⟩, O⟩ | exact ⟨⟨_, _, _, K, sV98, sA98⟩, O⟩) | exact wp_z0 (pc := 146) dX12_fits_146 rfl (by decide) (by decide) (by unfold iso; simp; omega) (by first | exact ⟨⟨_, _, _, K, SV.rf, SA.rf⟩, O⟩ | exact ⟨⟨_, _, _, K, sV98, sA98⟩, O⟩) | exact wp_zb (pc := 146) dX12_fits_146 rfl (by decide) (by decide) Iff.rfl (by first | exact ⟨⟨_, _, _, K, SV.rf, SA.rf⟩, O⟩ | exact ⟨⟨_, _, _, K, sV98, sA98⟩, O⟩)
            ·
              first
              | (exfalso; omega)
              | skip
                refine wp_iconst (pc := 141) dX12_fits_141 ?_
                refine wp_goto (pc := 142) 146 dX12_fits_142 (by decide) ?_
                first | exact wp_z1 (pc := 146) dX12_fits_146 rfl (by decide) (by decide) (by unfold iso; simp; omega) (by first | exact ⟨⟨_, _, _, K, SV.rf, SA.rf⟩, O⟩ | exact ⟨⟨_, _, _, K, sV98, sA98⟩, O⟩) | exact wp_z0 (pc := 146) dX12_fits_146 rfl (by decide) (by decide) (by unfold iso; simp; omega) (by first | exact ⟨⟨_, _, _, K, SV.rf, SA.rf⟩, O⟩ | exact ⟨⟨_, _, _, K, sV98, sA98⟩, O⟩) | exact wp_zb (pc := 146) dX12_fits_146 rfl (by decide) (by decide) Iff.rfl (by first | exact ⟨⟨_, _, _, K, SV.rf, SA.rf⟩, O⟩ | exact ⟨⟨_, _, _, K, sV98, sA98⟩, O⟩)
  · refine wp_tswOut (pc := 1) 147 dX12_fits_1 (by decide) (by decide) (by decide) ?_
    refine wp_aload_n (pc := 147) dX12_fits_147 rfl ?_
    refine wm_get dX12_fits_148 gf_X12_9 K (by rfl) ?_
    refine wp_bipush (pc := 151) (y := 48) dX12_fits_151 (by decide) ?_
    refine wp_iload_n (pc := 153) dX12_fits_153 rfl ?_
    refine wp_iadd (pc := 154) dX12_fits_154 ?_
    refine wm_iald dX12_fits_155 K (by first | rfl | assumption) (by first | decide | omega) (by first | decide | omega) (by decide) (by omega) (by omega) (by repeat (first | assumption | exact upA_eq | (apply upA_ne; first | decide | omega) | (apply SA_at; assumption; first | decide | (simp; omega)) | exact rfl)) (by first | exact flat5 (by omega) (by omega) | exact flat3 (by omega) (by omega) | exact flat2 (by omega) (by omega) | exact flat6 (by omega) (by omega) | exact flat4 (by omega) (by omega) | exact flat1 (by omega) (by omega) | exact flat0 (by omega) (by omega) | exact flat7 | exact rfl) ?_
    refine wp_iload_n (pc := 156) dX12_fits_156 rfl ?_
    refine wp_icmp_gt (pc := 157) 164 dX12_fits_157 (by decide) (by first | omega | exact TI.i5 (by assumption) | exact TI.i3 (by assumption) | exact TI.i2 (by assumption) | exact TI.i1 (by assumption) | exact TI.i0 (by assumption) | exact TI.i4 (by assumption) | exact TI.i6 (by assumption) | exact TI.i7 (by assumption)) (by first | omega | exact TI.i5 (by assumption) | exact TI.i3 (by assumption) | exact TI.i2 (by assumption) | exact TI.i1 (by assumption) | exact TI.i0 (by assumption) | exact TI.i4 (by assumption) | exact TI.i6 (by assumption) | exact TI.i7 (by assumption)) (fun c157 => ?_) (fun c157 => ?_)
    ·
      first
      | (exfalso; omega)
      | skip
        refine wp_iconst (pc := 164) dX12_fits_164 ?_
        first | exact wp_z1 (pc := 165) dX12_fits_165 rfl (by decide) (by decide) (by unfold iso; simp; omega) (by first | exact ⟨⟨_, _, _, K, SV.rf, SA.rf⟩, O⟩ | exact ⟨⟨_, _, _, K, sV98, sA98⟩, O⟩) | exact wp_z0 (pc := 165) dX12_fits_165 rfl (by decide) (by decide) (by unfold iso; simp; omega) (by first | exact ⟨⟨_, _, _, K, SV.rf, SA.rf⟩, O⟩ | exact ⟨⟨_, _, _, K, sV98, sA98⟩, O⟩) | exact wp_zb (pc := 165) dX12_fits_165 rfl (by decide) (by decide) Iff.rfl (by first | exact ⟨⟨_, _, _, K, SV.rf, SA.rf⟩, O⟩ | exact ⟨⟨_, _, _, K, sV98, sA98⟩, O⟩)
    ·
      first
      | (exfalso; omega)
      | skip
        refine wp_iconst (pc := 160) dX12_fits_160 ?_
        refine wp_goto (pc := 161) 165 dX12_fits_161 (by decide) ?_
        first | exact wp_z1 (pc := 165) dX12_fits_165 rfl (by decide) (by decide) (by unfold iso; simp; omega) (by first | exact ⟨⟨_, _, _, K, SV.rf, SA.rf⟩, O⟩ | exact ⟨⟨_, _, _, K, sV98, sA98⟩, O⟩) | exact wp_z0 (pc := 165) dX12_fits_165 rfl (by decide) (by decide) (by unfold iso; simp; omega) (by first | exact ⟨⟨_, _, _, K, SV.rf, SA.rf⟩, O⟩ | exact ⟨⟨_, _, _, K, sV98, sA98⟩, O⟩) | exact wp_zb (pc := 165) dX12_fits_165 rfl (by decide) (by decide) Iff.rfl (by first | exact ⟨⟨_, _, _, K, SV.rf, SA.rf⟩, O⟩ | exact ⟨⟨_, _, _, K, sV98, sA98⟩, O⟩)
/-- whom all that was heard fits -/
def ftL (cs : List Int) (T : Nat → Int → Int) (N : Nat) (hs : List (Int × Int)) (k : Nat) : Bool := allb (fun i => iso cs T N k (hs.getD i (0, 0)).1 (hs.getD i (0, 0)).2) hs.length
abbrev hsO (hs : List (Int × Int)) : Prop := ∀ i, i < hs.length → (0 ≤ (hs.getD i (0, 0)).1 ∧ (hs.getD i (0, 0)).1 ≤ 4) ∧ 0 ≤ (hs.getD i (0, 0)).2 ∧ (hs.getD i (0, 0)).2 ≤ mof (hs.getD i (0, 0)).1
theorem lp_rfit2 (hI : TI T N) (hv1 : V 1 = (N : Int)) (mA : A 1 = flat T) (hu : RuA A V q rl t) (mh : Mhs V A hs) (ho : hsO hs) (hn : n < N) {Q : Option Value → Hp → Prop} {v1 : Int} (Kn : ∀ hp3 V3 A3 rd3, ModAt hp3 q V3 A3 rd3 rl → SO hp hp3 q (q + 25) → SV [8, 9, 10, 11, 16] V V3 → SA [7] A A3 → wp g MX12_fitting (rm 231 0 0) Q 0 0 64 [some (.ref q), some (.int (I v1)), some (.int (I (n : Int))), some (.int (I (if ftL (stl t) T N hs n = true then 1 else 0))), none] [] hp3) : ∀ (m i : Nat), hs.length < i + m → i ≤ hs.length → ∀ (hp2 : Hp) (V2 : Nat → Int) (A2 : Nat → Int → Int) (rd2 : Value) (K : ModAt hp2 q V2 A2 rd2 rl) (O : SO hp hp2 q (q + 25)) (sV : SV [8, 9, 10, 11, 16] V V2) (sA : SA [7] A A2), wp g MX12_fitting (rm 231 0 0) Q 0 0 17 [some (.ref q), some (.int (I v1)), some (.int (I (n : Int))), some (.int (I (if allb (fun i => iso (stl t) T N n (hs.getD i (0, 0)).1 (hs.getD i (0, 0)).2) i = true then 1 else 0))), some (.int (I (i : Int)))] [] hp2 := by
  intro m
  induction m with
  | zero => intro i h1 h2; exact absurd h1 (by omega)
  | succ m ih =>
    intro i h1 h2 hp2 V2 A2 rd2 K O sV sA
    have e28 := mh.1
    have e12 := mh.2.1
    have st : allb (fun i => iso (stl t) T N n (hs.getD i (0, 0)).1 (hs.getD i (0, 0)).2) (i + 1) = (allb (fun i => iso (stl t) T N n (hs.getD i (0, 0)).1 (hs.getD i (0, 0)).2) i && iso (stl t) T N n (hs.getD i (0, 0)).1 (hs.getD i (0, 0)).2) := rfl
    refine wp_iload (pc := 17) dX12_fitting_17 rfl ?_
    refine wp_aload_n (pc := 19) dX12_fitting_19 rfl ?_
    refine wm_gets dX12_fitting_20 gf_X12_318 K (by rfl) (by repeat (first | assumption | exact pv10 | exact pv11 | (apply pv_o; decide; decide) | exact upN_eq | (apply upN_ne; decide) | (apply SV_at; assumption; decide) | exact rfl)) ?_
    refine wp_icmp_ge (pc := 23) 64 dX12_fitting_23 (by decide) (by first | omega | exact TI.i5 (by assumption) | exact TI.i3 (by assumption) | exact TI.i2 (by assumption) | exact TI.i1 (by assumption) | exact TI.i0 (by assumption) | exact TI.i4 (by assumption) | exact TI.i6 (by assumption) | exact TI.i7 (by assumption)) (by first | omega | exact TI.i5 (by assumption) | exact TI.i3 (by assumption) | exact TI.i2 (by assumption) | exact TI.i1 (by assumption) | exact TI.i0 (by assumption) | exact TI.i4 (by assumption) | exact TI.i6 (by assumption) | exact TI.i7 (by assumption)) (fun c23 => ?_) (fun c23 => ?_)
    ·
      have e : i = hs.length := by omega
      subst e
      refine wp_ls ?_ (Kn hp2 V2 A2 rd2 K O sV sA)
      repeat' (first | exact LE_0 | refine LE_s rfl ?_ | refine LE_s (I_c (by first | omega | (simp only [sm]; omega))) ?_ | refine LE_s (J_c (by first | omega | exact Int.pow_succ _ _ | exact (Int.pow_succ _ _).symm | exact (Int.pow_zero _).symm | (simp only [sm]; omega))) ?_ | refine LE_n ?_)
    ·
      have hhi := mh.2.2 i (by omega)
      have hoi := ho i (by omega) -- go
      refine wp_iload_n (pc := 26) dX12_fitting_26 rfl ?_
      first | refine wp_ifb_eq (pc := 27) 56 dX12_fitting_27 (by decide) (fun c27 => ?_) (fun c27 => ?_) | refine wp_if_eq (pc := 27) 56 dX12_fitting_27 (by decide) (by split <;> omega) (fun c27 => ?_) (fun c27 => ?_)
      ·
        have hf : ¬ allb (fun i => iso (stl t) T N n (hs.getD i (0, 0)).1 (hs.getD i (0, 0)).2) i = true := fun z => by rw [if_pos z] at c27; omega
        have e1 : ¬ allb (fun i => iso (stl t) T N n (hs.getD i (0, 0)).1 (hs.getD i (0, 0)).2) (i + 1) = true := by rw [st, Bool.and_eq_true]; exact fun z => hf z.1
        have ev : (0 : Int) = if allb (fun i => iso (stl t) T N n (hs.getD i (0, 0)).1 (hs.getD i (0, 0)).2) (i + 1) = true then 1 else 0 := (if_neg e1).symm
        skip -- go
        refine wp_iconst (pc := 56) dX12_fitting_56 ?_
        rw [ev]
        refine wp_istore_n (pc := 57) dX12_fitting_57 (by decide) ?_
        refine wp_iinc (pc := 58) dX12_fitting_58 rfl (by decide) ?_
        refine wp_goto (pc := 61) 17 dX12_fitting_61 (by decide) ?_
        first
        | refine wp_ls ?_ (ih (i + 1) (by omega) (by omega) _ V2 A2 rd2 K O sV sA)
          repeat' (first | exact LE_0 | refine LE_s rfl ?_ | refine LE_s (I_c (by first | omega | (simp only [sm]; omega))) ?_ | refine LE_s (J_c (by first | omega | exact Int.pow_succ _ _ | exact (Int.pow_succ _ _).symm | exact (Int.pow_zero _).symm | (simp only [sm]; omega))) ?_ | refine LE_n ?_)
        | refine wp_ls ?_ (ih (i + 1) (by omega) (by omega) _ V46 A46 rd46 K O (SV.tr2 sV46 (by decide) sV) (SA.tr2 sA46 (by decide) sA))
          repeat' (first | exact LE_0 | refine LE_s rfl ?_ | refine LE_s (I_c (by first | omega | (simp only [sm]; omega))) ?_ | refine LE_s (J_c (by first | omega | exact Int.pow_succ _ _ | exact (Int.pow_succ _ _).symm | exact (Int.pow_zero _).symm | (simp only [sm]; omega))) ?_ | refine LE_n ?_)
      ·
        have hf : allb (fun i => iso (stl t) T N n (hs.getD i (0, 0)).1 (hs.getD i (0, 0)).2) i = true := Classical.byContradiction fun z => c27 (if_neg z)
        skip -- go
        refine wp_aload_n (pc := 30) dX12_fitting_30 rfl ?_
        refine wp_iload_n (pc := 31) dX12_fitting_31 rfl ?_
        refine wp_aload_n (pc := 32) dX12_fitting_32 rfl ?_
        refine wm_get dX12_fitting_33 gf_X12_54 K (by rfl) ?_
        refine wp_iload (pc := 36) dX12_fitting_36 rfl ?_
        refine wm_iald dX12_fitting_38 K (by first | rfl | assumption) (by first | decide | omega) (by first | decide | omega) (by decide) (by omega) (by omega) (by repeat (first | assumption | exact upA_eq | (apply upA_ne; first | decide | omega) | (apply SA_at; assumption; first | decide | (simp; omega)) | exact rfl)) hhi.1 ?_
        refine wp_aload_n (pc := 39) dX12_fitting_39 rfl ?_
        refine wm_get dX12_fitting_40 gf_X12_57 K (by rfl) ?_
        refine wp_iload (pc := 43) dX12_fitting_43 rfl ?_
        refine wm_iald dX12_fitting_45 K (by first | rfl | assumption) (by first | decide | omega) (by first | decide | omega) (by decide) (by omega) (by omega) (by repeat (first | assumption | exact upA_eq | (apply upA_ne; first | decide | omega) | (apply SA_at; assumption; first | decide | (simp; omega)) | exact rfl)) hhi.2 ?_
        refine wp_Vs (pc := 46) dX12_fitting_46 cl_X12_321 (sp_Ref_fits K hI (by repeat (first | assumption | exact pv10 | exact pv11 | (apply pv_o; decide; decide) | exact upN_eq | (apply upN_ne; decide) | (apply SV_at; assumption; decide) | exact rfl)) (by repeat (first | assumption | exact upA_eq | (apply upA_ne; first | decide | omega) | (apply SA_at; assumption; first | decide | (simp; omega)) | exact rfl)) (hu.sc sV sA (by decide) (by decide) (by decide)) hn hoi.1 hoi.2) rfl rfl K.1 (by rfl) (by decide) (Nat.le_of_ble_eq_true rfl) (fun hp46 e46 => ?_)
        obtain ⟨⟨V46, A46, rd46, K, sV46, sA46⟩, O1⟩ := e46; replace O := SO.tr O O1
        first | refine wp_ifb_eq (pc := 49) 56 dX12_fitting_49 (by decide) (fun c49 => ?_) (fun c49 => ?_) | refine wp_if_eq (pc := 49) 56 dX12_fitting_49 (by decide) (by first | omega | exact TI.i5 (by assumption) | exact TI.i3 (by assumption) | exact TI.i2 (by assumption) | exact TI.i1 (by assumption) | exact TI.i0 (by assumption) | exact TI.i4 (by assumption) | exact TI.i6 (by assumption) | exact TI.i7 (by assumption)) (fun c49 => ?_) (fun c49 => ?_)
        ·
          have e1 : ¬ allb (fun i => iso (stl t) T N n (hs.getD i (0, 0)).1 (hs.getD i (0, 0)).2) (i + 1) = true := by rw [st, Bool.and_eq_true]; exact fun z => c49 z.2
          have ev : (0 : Int) = if allb (fun i => iso (stl t) T N n (hs.getD i (0, 0)).1 (hs.getD i (0, 0)).2) (i + 1) = true then 1 else 0 := (if_neg e1).symm
          skip -- go
          refine wp_iconst (pc := 56) dX12_fitting_56 ?_
          rw [ev]
          refine wp_istore_n (pc := 57) dX12_fitting_57 (by decide) ?_
          refine wp_iinc (pc := 58) dX12_fitting_58 rfl (by decide) ?_
          refine wp_goto (pc := 61) 17 dX12_fitting_61 (by decide) ?_
          first
          | refine wp_ls ?_ (ih (i + 1) (by omega) (by omega) _ V2 A2 rd2 K O sV sA)
            repeat' (first | exact LE_0 | refine LE_s rfl ?_ | refine LE_s (I_c (by first | omega | (simp only [sm]; omega))) ?_ | refine LE_s (J_c (by first | omega | exact Int.pow_succ _ _ | exact (Int.pow_succ _ _).symm | exact (Int.pow_zero _).symm | (simp only [sm]; omega))) ?_ | refine LE_n ?_)
          | refine wp_ls ?_ (ih (i + 1) (by omega) (by omega) _ V46 A46 rd46 K O (SV.tr2 sV46 (by decide) sV) (SA.tr2 sA46 (by decide) sA))
            repeat' (first | exact LE_0 | refine LE_s rfl ?_ | refine LE_s (I_c (by first | omega | (simp only [sm]; omega))) ?_ | refine LE_s (J_c (by first | omega | exact Int.pow_succ _ _ | exact (Int.pow_succ _ _).symm | exact (Int.pow_zero _).symm | (simp only [sm]; omega))) ?_ | refine LE_n ?_)
        ·
          have e1 : allb (fun i => iso (stl t) T N n (hs.getD i (0, 0)).1 (hs.getD i (0, 0)).2) (i + 1) = true := by rw [st, Bool.and_eq_true]; exact ⟨hf, c49⟩
          have ev : (1 : Int) = if allb (fun i => iso (stl t) T N n (hs.getD i (0, 0)).1 (hs.getD i (0, 0)).2) (i + 1) = true then 1 else 0 := (if_pos e1).symm
          skip -- go
          refine wp_iconst (pc := 52) dX12_fitting_52 ?_
          refine wp_goto (pc := 53) 57 dX12_fitting_53 (by decide) ?_
          rw [ev]
          refine wp_istore_n (pc := 57) dX12_fitting_57 (by decide) ?_
          refine wp_iinc (pc := 58) dX12_fitting_58 rfl (by decide) ?_
          refine wp_goto (pc := 61) 17 dX12_fitting_61 (by decide) ?_
          first
          | refine wp_ls ?_ (ih (i + 1) (by omega) (by omega) _ V2 A2 rd2 K O sV sA)
            repeat' (first | exact LE_0 | refine LE_s rfl ?_ | refine LE_s (I_c (by first | omega | (simp only [sm]; omega))) ?_ | refine LE_s (J_c (by first | omega | exact Int.pow_succ _ _ | exact (Int.pow_succ _ _).symm | exact (Int.pow_zero _).symm | (simp only [sm]; omega))) ?_ | refine LE_n ?_)
          | refine wp_ls ?_ (ih (i + 1) (by omega) (by omega) _ V46 A46 rd46 K O (SV.tr2 sV46 (by decide) sV) (SA.tr2 sA46 (by decide) sA))
            repeat' (first | exact LE_0 | refine LE_s rfl ?_ | refine LE_s (I_c (by first | omega | (simp only [sm]; omega))) ?_ | refine LE_s (J_c (by first | omega | exact Int.pow_succ _ _ | exact (Int.pow_succ _ _).symm | exact (Int.pow_zero _).symm | (simp only [sm]; omega))) ?_ | refine LE_n ?_)
theorem lp_rfit1 (hI : TI T N) (hv1 : V 1 = (N : Int)) (mA : A 1 = flat T) (hu : RuA A V q rl t) (mh : Mhs V A hs) (ho : hsO hs) : ∀ (m i : Nat), N < i + m → i ≤ N → ∀ (hp2 : Hp) (V2 : Nat → Int) (A2 : Nat → Int → Int) (rd2 : Value) (K : ModAt hp2 q V2 A2 rd2 rl) (O : SO hp hp2 q (q + 25)) (sV : SV [8, 9, 10, 11, 16] V V2) (sA : SA [7] A A2), wp g MX12_fitting (rm 231 0 0) (Eff (.int (I ((bits (ftL (stl t) T N hs) N : Nat) : Int))) (fun hp3 => (∃ V2 A2 rd2, ModAt hp3 q V2 A2 rd2 rl ∧ SV [8, 9, 10, 11, 16] V V2 ∧ SA [7] A A2) ∧ SO hp hp3 q (q + 25))) 0 0 4 [some (.ref q), some (.int (I ((bits (ftL (stl t) T N hs) i : Nat) : Int))), some (.int (I (i : Int))), none, none] [] hp2 := by
  intro m
  induction m with
  | zero => intro i h1 h2; exact absurd h1 (by omega)
  | succ m ih =>
    intro i h1 h2 hp2 V2 A2 rd2 K O sV sA
    have hN := hI.men.2
    refine wp_iload_n (pc := 4) dX12_fitting_4 rfl ?_
    refine wp_aload_n (pc := 5) dX12_fitting_5 rfl ?_
    refine wm_gets dX12_fitting_6 gf_X12_92 K (by rfl) (by repeat (first | assumption | exact pv10 | exact pv11 | (apply pv_o; decide; decide) | exact upN_eq | (apply upN_ne; decide) | (apply SV_at; assumption; decide) | exact rfl)) ?_
    refine wp_icmp_ge (pc := 9) 84 dX12_fitting_9 (by decide) (by first | omega | exact TI.i5 (by assumption) | exact TI.i3 (by assumption) | exact TI.i2 (by assumption) | exact TI.i1 (by assumption) | exact TI.i0 (by assumption) | exact TI.i4 (by assumption) | exact TI.i6 (by assumption) | exact TI.i7 (by assumption)) (by first | omega | exact TI.i5 (by assumption) | exact TI.i3 (by assumption) | exact TI.i2 (by assumption) | exact TI.i1 (by assumption) | exact TI.i0 (by assumption) | exact TI.i4 (by assumption) | exact TI.i6 (by assumption) | exact TI.i7 (by assumption)) (fun c9 => ?_) (fun c9 => ?_)
    ·
      have e : i = N := by omega
      subst e -- go
      refine wp_iload_n (pc := 84) dX12_fitting_84 rfl ?_
      exact wp_ir (pc := 85) dX12_fitting_85 rfl (by decide) (by decide) (by first | rfl | omega) ⟨⟨V2, A2, rd2, K, sV, sA⟩, O⟩
    ·
      refine wp_iconst (pc := 12) dX12_fitting_12 ?_
      refine wp_istore_n (pc := 13) dX12_fitting_13 (by decide) ?_
      refine wp_iconst (pc := 14) dX12_fitting_14 ?_
      refine wp_istore (pc := 15) dX12_fitting_15 (by decide) ?_
      refine wp_ls ?_ (lp_rfit2 (n := i) (v1 := ((bits (ftL (stl t) T N hs) i : Nat) : Int)) hI hv1 mA hu mh ho (by omega) (fun hp3 V3 A3 rd3 K3 O3 sV3 sA3 => ?_) (hs.length + 1) 0 (by omega) (by omega) _ _ _ _ K O sV sA)
      · repeat' (first | exact LE_0 | refine LE_s rfl ?_ | refine LE_s (I_c (by first | omega | (simp only [sm]; omega))) ?_ | refine LE_s (J_c (by first | omega | exact Int.pow_succ _ _ | exact (Int.pow_succ _ _).symm | exact (Int.pow_zero _).symm | (simp only [sm]; omega))) ?_ | refine LE_n ?_)
      · have K := K3
        have O := O3
        refine wp_iload_n (pc := 64) dX12_fitting_64 rfl ?_
        refine wp_iload_n (pc := 65) dX12_fitting_65 rfl ?_
        first | refine wp_ifb_eq (pc := 66) 75 dX12_fitting_66 (by decide) (fun c66 => ?_) (fun c66 => ?_) | refine wp_if_eq (pc := 66) 75 dX12_fitting_66 (by decide) (by split <;> omega) (fun c66 => ?_) (fun c66 => ?_)
        ·
          have e : bits (ftL (stl t) T N hs) (i + 1) = bits (ftL (stl t) T N hs) i := by show _ ||| _ = _; rw [if_neg (fun z => by rw [if_pos z] at c66; omega), Nat.or_zero]
          skip -- go
          refine wp_iconst (pc := 75) dX12_fitting_75 ?_
          first | refine wp_ior (pc := 76) dX12_fitting_76 I_or0 ?_ | refine wp_ior (pc := 76) dX12_fitting_76 I_or ?_
          rw [← e]
          refine wp_istore_n (pc := 77) dX12_fitting_77 (by decide) ?_
          refine wp_iinc (pc := 78) dX12_fitting_78 rfl (by decide) ?_
          refine wp_goto (pc := 81) 4 dX12_fitting_81 (by decide) ?_
          refine wp_ls ?_ (ih (i + 1) (by omega) (by omega) _ _ _ _ K O sV3 sA3)
          repeat' (first | exact LE_0 | refine LE_s rfl ?_ | refine LE_s (I_c (by first | omega | (simp only [sm]; omega))) ?_ | refine LE_s (J_c (by first | omega | exact Int.pow_succ _ _ | exact (Int.pow_succ _ _).symm | exact (Int.pow_zero _).symm | (simp only [sm]; omega))) ?_ | refine LE_n ?_)
        ·
          have e : bits (ftL (stl t) T N hs) (i + 1) = bits (ftL (stl t) T N hs) i ||| 2 ^ i := by show _ ||| _ = _; rw [if_pos (Classical.byContradiction fun z => c66 (if_neg z))]
          skip -- go
          refine wp_iconst (pc := 69) dX12_fitting_69 ?_
          refine wp_iload_n (pc := 70) dX12_fitting_70 rfl ?_
          refine wp_ishl (pc := 71) dX12_fitting_71 (I_shl (by omega)) ?_
          refine wp_goto (pc := 72) 76 dX12_fitting_72 (by decide) ?_
          first | refine wp_ior (pc := 76) dX12_fitting_76 I_or0 ?_ | refine wp_ior (pc := 76) dX12_fitting_76 I_or ?_
          rw [← e]
          refine wp_istore_n (pc := 77) dX12_fitting_77 (by decide) ?_
          refine wp_iinc (pc := 78) dX12_fitting_78 rfl (by decide) ?_
          refine wp_goto (pc := 81) 4 dX12_fitting_81 (by decide) ?_
          refine wp_ls ?_ (ih (i + 1) (by omega) (by omega) _ _ _ _ K O sV3 sA3)
          repeat' (first | exact LE_0 | refine LE_s rfl ?_ | refine LE_s (I_c (by first | omega | (simp only [sm]; omega))) ?_ | refine LE_s (J_c (by first | omega | exact Int.pow_succ _ _ | exact (Int.pow_succ _ _).symm | exact (Int.pow_zero _).symm | (simp only [sm]; omega))) ?_ | refine LE_n ?_)
theorem sp_Ref_fitting (K : ModAt hp q V A rd rl) (hI : TI T N) (hv1 : V 1 = (N : Int)) (mA : A 1 = flat T) (hu : RuA A V q rl t) (mh : Mhs V A hs) (ho : hsO hs) : Sp g MX12_fitting (rm 231 0 0) [.ref q] hp (Eff (.int (I ((bits (ftL (stl t) T N hs) N : Nat) : Int))) (fun hp2 => (∃ V2 A2 rd2, ModAt hp2 q V2 A2 rd2 rl ∧ SV [8, 9, 10, 11, 16] V V2 ∧ SA [7] A A2) ∧ SO hp hp2 q (q + 25))) := by
  refine Sp_mk rfl (Nat.le_of_ble_eq_true rfl) ?_
  show wp g _ _ _ 0 0 0 [some (.ref q), none, none, none, none] [] hp
  have O := SO.rf (hp := hp) (lo := q) (hi := q + 25)
  refine wp_iconst (pc := 0) dX12_fitting_0 ?_
  refine wp_istore_n (pc := 1) dX12_fitting_1 (by decide) ?_
  refine wp_iconst (pc := 2) dX12_fitting_2 ?_
  refine wp_istore_n (pc := 3) dX12_fitting_3 (by decide) ?_
  refine wp_ls ?_ (lp_rfit1 hI hv1 mA hu mh ho (N + 1) 0 (by omega) (by omega) _ _ _ _ K O SV.rf SA.rf)
  repeat' (first | exact LE_0 | refine LE_s rfl ?_ | refine LE_s (I_c (by first | omega | (simp only [sm]; omega))) ?_ | refine LE_s (J_c (by first | omega | exact Int.pow_succ _ _ | exact (Int.pow_succ _ _).symm | exact (Int.pow_zero _).symm | (simp only [sm]; omega))) ?_ | refine LE_n ?_)
theorem sp_Ref_fits_ (hM : MAt hp q th N T U tx rw rt hs ss KT) (hI : TI T N) (ho : hsO hs) : Sp g MX12_fits_ (rm 232 0 0) [.ref q] hp (Eff (.int (I ((bits (ftL (stl rt) T N hs) N : Nat) : Int))) (fun hp2 => MAt hp2 q 0 N T U tx [((popc (bits (ftL (stl rt) T N hs) N) : Nat) : Int)] rt hs ss KT ∧ SO hp hp2 q (q + 25))) := by
  have hN := hI.men.2
  have hb6 := bits64 (P := ftL (stl rt) T N hs) hN
  have hpc : popc (bits (ftL (stl rt) T N hs) N) ≤ N := by rw [popc_bits _ (by omega)]; exact cnt_le _ _
  refine Sp_mk rfl (Nat.le_of_ble_eq_true rfl) ?_
  show wp g _ _ _ 0 0 0 [some (.ref q), none] [] hp
  have O := SO.rf (hp := hp) (lo := q) (hi := q + 25)
  obtain ⟨V, A, rd, K, hth, M⟩ := hM
  have hu := M.ru (q := q)
  have M2 := M
  obtain ⟨m1, mA, mt, mr, mu, mU, mh, ms, mk⟩ := M2
  refine wp_aload_n (pc := 0) dX12_fits__0 rfl ?_
  refine wp_iconst (pc := 1) dX12_fits__1 ?_
  refine wm_put dX12_fits__2 pf_X12_85 K O (by decide) mset_6 rfl rfl (fun hp K O => ?_)
  refine wp_aload_n (pc := 5) dX12_fits__5 rfl ?_
  refine wp_Vs (pc := 6) dX12_fits__6 cl_X12_324 (sp_Ref_fitting K hI (by repeat (first | assumption | exact pv10 | exact pv11 | (apply pv_o; decide; decide) | exact upN_eq | (apply upN_ne; decide) | (apply SV_at; assumption; decide) | exact rfl)) (by repeat (first | assumption | exact upA_eq | (apply upA_ne; first | decide | omega) | (apply SA_at; assumption; first | decide | (simp; omega)) | exact rfl)) (RuA.cc hu (by repeat (first | assumption | exact pv10 | exact pv11 | (apply pv_o; decide; decide) | exact upN_eq | (apply upN_ne; decide) | (apply SV_at; assumption; decide) | exact rfl)) (by repeat (first | assumption | exact upA_eq | (apply upA_ne; first | decide | omega) | (apply SA_at; assumption; first | decide | (simp; omega)) | exact rfl)) (by repeat (first | assumption | exact upA_eq | (apply upA_ne; first | decide | omega) | (apply SA_at; assumption; first | decide | (simp; omega)) | exact rfl))) (Mhs.tr mh rfl rfl rfl) ho) rfl rfl K.1 (by rfl) (by decide) (Nat.le_of_ble_eq_true rfl) (fun hp6 e6 => ?_)
  obtain ⟨⟨V6, A6, rd6, K, sV6, sA6⟩, O1⟩ := e6; replace O := SO.tr O O1
  refine wp_istore_n (pc := 9) dX12_fits__9 (by decide) ?_
  refine wp_aload_n (pc := 10) dX12_fits__10 rfl ?_
  refine wp_iconst (pc := 11) dX12_fits__11 ?_
  refine wm_put dX12_fits__12 pf_X12_89 K O (by decide) mset_5 rfl rfl (fun hp K O => ?_)
  refine wp_aload_n (pc := 15) dX12_fits__15 rfl ?_
  refine wp_iload_n (pc := 16) dX12_fits__16 rfl ?_
  refine wp_Sp (pc := 17) dX12_fits__17 cl_X12_257 (sp_Integer_bitCount hb6) rfl rfl (by decide) (Nat.le_of_ble_eq_true rfl) ?_
  refine wp_i2l (pc := 20) dX12_fits__20 (by first | omega | exact TI.i5 (by assumption) | exact TI.i3 (by assumption) | exact TI.i2 (by assumption) | exact TI.i1 (by assumption) | exact TI.i0 (by assumption) | exact TI.i4 (by assumption) | exact TI.i6 (by assumption) | exact TI.i7 (by assumption)) ?_
  refine wp_Vn (pc := 21) dX12_fits__21 cl_X12_253 (sp_Ref_tellR K (by first | assumption | exact Mrw.z (by repeat (first | assumption | exact pv10 | exact pv11 | (apply pv_o; decide; decide) | exact upN_eq | (apply upN_ne; decide) | (apply SV_at; assumption; decide) | exact rfl))) (by first | decide | (simp; omega) | simp | omega)) rfl rfl K.1 (by rfl) (by decide) (Nat.le_of_ble_eq_true rfl) (fun hp21 e21 => ?_)
  obtain ⟨⟨V21, A21, K, sV21, sA21, hR21⟩, O1⟩ := e21; replace O := SO.tr O O1
  refine wp_iload_n (pc := 24) dX12_fits__24 rfl ?_
  exact wp_ir (pc := 25) dX12_fits__25 rfl (by decide) (by decide) (by first | rfl | omega) ⟨⟨_, _, _, K, (by repeat (first | assumption | exact pv10 | exact pv11 | (apply pv_o; decide; decide) | exact upN_eq | (apply upN_ne; decide) | (apply SV_at; assumption; decide) | exact rfl)), M.qu (by repeat (first | exact SV.rf | assumption | (apply SV.up1; decide) | (apply SV.tr2; assumption; decide))) (by repeat (first | exact SA.rf | assumption | (apply SA.up1; decide) | (apply SA.tr2; assumption; decide))) (by first | assumption | exact Mrw.z (by repeat (first | assumption | exact pv10 | exact pv11 | (apply pv_o; decide; decide) | exact upN_eq | (apply upN_ne; decide) | (apply SV_at; assumption; decide) | exact rfl)) | exact Mrw.tr (by assumption) (by repeat (first | assumption | exact pv10 | exact pv11 | (apply pv_o; decide; decide) | exact upN_eq | (apply upN_ne; decide) | (apply SV_at; assumption; decide) | exact rfl)) (by repeat (first | assumption | exact upA_eq | (apply upA_ne; first | decide | omega) | (apply SA_at; assumption; first | decide | (simp; omega)) | exact rfl)))⟩, O⟩
/-- the least of f 0 .. f n, and where first -/
def akb (f : Nat → Int) : Nat → Nat × Int
  | 0 => (0, f 0)
  | n + 1 => if f (n + 1) < (akb f n).2 then (n + 1, f (n + 1)) else akb f n
theorem akb_in (f : Nat → Int) (h : ∀ n, 0 ≤ f n ∧ f n ≤ 1000) : ∀ n, (akb f n).1 ≤ n ∧ 0 ≤ (akb f n).2 ∧ (akb f n).2 ≤ 1000
  | 0 => ⟨Nat.le_refl _, h 0⟩
  | n + 1 => by
    have := akb_in f h n
    have h2 := h (n + 1)
    unfold akb
    split
    · exact ⟨Nat.le_refl _, h2⟩
    · omega
def akf (T : Nat → Int → Int) (N s : Nat) (v : Nat) : Int := mx ((rcn T s (v : Int) N : Nat) : Int) (((popc s : Nat) : Int) - ((rcn T s (v : Int) N : Nat) : Int))
theorem rcn_le (T : Nat → Int → Int) (s : Nat) (x : Int) (n : Nat) : rcn T s x n ≤ n := cnt_le _ _
theorem popc_le (v : Nat) : popc v ≤ 32 := cnt_le _ _
theorem akf_in (hN : N ≤ 6) (v : Nat) : 0 ≤ akf T N s v ∧ akf T N s v ≤ 1000 := by
  have := rcn_le T s (v : Int) N
  have := popc_le s
  unfold akf mx
  split <;> omega
theorem lp_ask2 (hI : TI T N) (K : ModAt hp q V A rd rl) (hv1 : V 1 = (N : Int)) (mA : A 1 = flat T) (hs6 : s < 64) (hn : n ≤ 99) {Q : Option Value → Hp → Prop} {v1 v2 : Int} (Kn : wp g MX12_asks (rm 232 0 0) Q 0 0 88 [some (.ref q), some (.int (I (s : Int))), some (.int (I v1)), some (.int (I v2)), some (.int (I (n : Int))), some (.int (I ((rcn T s (n : Int) N : Nat) : Int))), none] [] hp) : ∀ (m i : Nat), N < i + m → i ≤ N → wp g MX12_asks (rm 232 0 0) Q 0 0 39 [some (.ref q), some (.int (I (s : Int))), some (.int (I v1)), some (.int (I v2)), some (.int (I (n : Int))), some (.int (I ((rcn T s (n : Int) i : Nat) : Int))), some (.int (I (i : Int)))] [] hp := by
  intro m
  induction m with
  | zero => intro i h1 h2; exact absurd h1 (by omega)
  | succ m ih =>
    intro i h1 h2
    have hN := hI.men.2
    have h2' := hI.r2 (i : Int)
    have st : rcn T s (n : Int) (i + 1) = rcn T s (n : Int) i + if (s.testBit i && decide ((n : Int) ≤ T 2 (i : Int))) = true then 1 else 0 := rfl
    refine wp_iload (pc := 39) dX12_asks_39 rfl ?_
    refine wp_aload_n (pc := 41) dX12_asks_41 rfl ?_
    refine wm_gets dX12_asks_42 gf_X12_92 K (by rfl) (by repeat (first | assumption | exact pv10 | exact pv11 | (apply pv_o; decide; decide) | exact upN_eq | (apply upN_ne; decide) | (apply SV_at; assumption; decide) | exact rfl)) ?_
    refine wp_icmp_ge (pc := 45) 88 dX12_asks_45 (by decide) (by first | omega | exact TI.i5 (by assumption) | exact TI.i3 (by assumption) | exact TI.i2 (by assumption) | exact TI.i1 (by assumption) | exact TI.i0 (by assumption) | exact TI.i4 (by assumption) | exact TI.i6 (by assumption) | exact TI.i7 (by assumption)) (by first | omega | exact TI.i5 (by assumption) | exact TI.i3 (by assumption) | exact TI.i2 (by assumption) | exact TI.i1 (by assumption) | exact TI.i0 (by assumption) | exact TI.i4 (by assumption) | exact TI.i6 (by assumption) | exact TI.i7 (by assumption)) (fun c45 => ?_) (fun c45 => ?_)
    ·
      have e : i = N := by omega
      subst e
      refine wp_ls ?_ Kn
      repeat' (first | exact LE_0 | refine LE_s rfl ?_ | refine LE_s (I_c (by first | omega | (simp only [sm]; omega))) ?_ | refine LE_s (J_c (by first | omega | exact Int.pow_succ _ _ | exact (Int.pow_succ _ _).symm | exact (Int.pow_zero _).symm | (simp only [sm]; omega))) ?_ | refine LE_n ?_)
    ·
      refine wp_iload (pc := 48) dX12_asks_48 rfl ?_
      refine wp_iload_n (pc := 50) dX12_asks_50 rfl ?_
      refine wp_iload (pc := 51) dX12_asks_51 rfl ?_
      refine wp_Sp (pc := 53) dX12_asks_53 cl_X12_227 (sp_Ref_has (s := s) (k := i) (by omega) (by omega)) rfl rfl (by decide) (Nat.le_of_ble_eq_true rfl) ?_
      first | refine wp_ifb_eq (pc := 56) 78 dX12_asks_56 (by decide) (fun c56 => ?_) (fun c56 => ?_) | refine wp_if_eq (pc := 56) 78 dX12_asks_56 (by decide) (by first | omega | exact TI.i5 (by assumption) | exact TI.i3 (by assumption) | exact TI.i2 (by assumption) | exact TI.i1 (by assumption) | exact TI.i0 (by assumption) | exact TI.i4 (by assumption) | exact TI.i6 (by assumption) | exact TI.i7 (by assumption)) (fun c56 => ?_) (fun c56 => ?_)
      ·
        have e1 : rcn T s (n : Int) (i + 1) = rcn T s (n : Int) i := by rw [st, if_neg (by simp [c56])]; rfl
        skip -- go
        refine wp_iconst (pc := 78) dX12_asks_78 ?_
        refine wp_iadd (pc := 79) dX12_asks_79 ?_
        refine wp_istore (pc := 80) dX12_asks_80 (by decide) ?_
        refine wp_iinc (pc := 82) dX12_asks_82 rfl (by decide) ?_
        refine wp_goto (pc := 85) 39 dX12_asks_85 (by decide) ?_
        refine wp_ls ?_ (ih (i + 1) (by omega) (by omega))
        rw [e1]
        repeat' (first | exact LE_0 | refine LE_s rfl ?_ | refine LE_s (I_c (by first | omega | (simp only [sm]; omega))) ?_ | refine LE_s (J_c (by first | omega | exact Int.pow_succ _ _ | exact (Int.pow_succ _ _).symm | exact (Int.pow_zero _).symm | (simp only [sm]; omega))) ?_ | refine LE_n ?_)
      ·
        refine wp_aload_n (pc := 59) dX12_asks_59 rfl ?_
        refine wm_get dX12_asks_60 gf_X12_9 K (by rfl) ?_
        refine wp_bipush (pc := 63) (y := 36) dX12_asks_63 (by decide) ?_
        refine wp_iload (pc := 65) dX12_asks_65 rfl ?_
        refine wp_iadd (pc := 67) dX12_asks_67 ?_
        refine wm_iald dX12_asks_68 K (by first | rfl | assumption) (by first | decide | omega) (by first | decide | omega) (by decide) (by omega) (by omega) (by repeat (first | assumption | exact upA_eq | (apply upA_ne; first | decide | omega) | (apply SA_at; assumption; first | decide | (simp; omega)) | exact rfl)) (by first | exact flat5 (by omega) (by omega) | exact flat3 (by omega) (by omega) | exact flat2 (by omega) (by omega) | exact flat6 (by omega) (by omega) | exact flat4 (by omega) (by omega) | exact flat1 (by omega) (by omega) | exact flat0 (by omega) (by omega) | exact flat7 | exact rfl) ?_
        refine wp_iload (pc := 69) dX12_asks_69 rfl ?_
        refine wp_icmp_lt (pc := 71) 78 dX12_asks_71 (by decide) (by first | omega | exact TI.i5 (by assumption) | exact TI.i3 (by assumption) | exact TI.i2 (by assumption) | exact TI.i1 (by assumption) | exact TI.i0 (by assumption) | exact TI.i4 (by assumption) | exact TI.i6 (by assumption) | exact TI.i7 (by assumption)) (by first | omega | exact TI.i5 (by assumption) | exact TI.i3 (by assumption) | exact TI.i2 (by assumption) | exact TI.i1 (by assumption) | exact TI.i0 (by assumption) | exact TI.i4 (by assumption) | exact TI.i6 (by assumption) | exact TI.i7 (by assumption)) (fun c71 => ?_) (fun c71 => ?_)
        ·
          have e1 : rcn T s (n : Int) (i + 1) = rcn T s (n : Int) i := by rw [st, if_neg (by simp; omega)]; rfl
          skip -- go
          refine wp_iconst (pc := 78) dX12_asks_78 ?_
          refine wp_iadd (pc := 79) dX12_asks_79 ?_
          refine wp_istore (pc := 80) dX12_asks_80 (by decide) ?_
          refine wp_iinc (pc := 82) dX12_asks_82 rfl (by decide) ?_
          refine wp_goto (pc := 85) 39 dX12_asks_85 (by decide) ?_
          refine wp_ls ?_ (ih (i + 1) (by omega) (by omega))
          rw [e1]
          repeat' (first | exact LE_0 | refine LE_s rfl ?_ | refine LE_s (I_c (by first | omega | (simp only [sm]; omega))) ?_ | refine LE_s (J_c (by first | omega | exact Int.pow_succ _ _ | exact (Int.pow_succ _ _).symm | exact (Int.pow_zero _).symm | (simp only [sm]; omega))) ?_ | refine LE_n ?_)
        ·
          have e1 : rcn T s (n : Int) (i + 1) = rcn T s (n : Int) i + 1 := by rw [st, if_pos (by simp [c56]; omega)]
          skip -- go
          refine wp_iconst (pc := 74) dX12_asks_74 ?_
          refine wp_goto (pc := 75) 79 dX12_asks_75 (by decide) ?_
          refine wp_iadd (pc := 79) dX12_asks_79 ?_
          refine wp_istore (pc := 80) dX12_asks_80 (by decide) ?_
          refine wp_iinc (pc := 82) dX12_asks_82 rfl (by decide) ?_
          refine wp_goto (pc := 85) 39 dX12_asks_85 (by decide) ?_
          refine wp_ls ?_ (ih (i + 1) (by omega) (by omega))
          rw [e1]
          repeat' (first | exact LE_0 | refine LE_s rfl ?_ | refine LE_s (I_c (by first | omega | (simp only [sm]; omega))) ?_ | refine LE_s (J_c (by first | omega | exact Int.pow_succ _ _ | exact (Int.pow_succ _ _).symm | exact (Int.pow_zero _).symm | (simp only [sm]; omega))) ?_ | refine LE_n ?_)
theorem lp_ask1 (hI : TI T N) (M : MX V A N T U tx rw rt hs ss KT) (K : ModAt hp q V2 A2 rd (.ref (q + 5))) (O : SO hp0 hp q (q + 25)) (h6 : V2 6 = 0) (sV : SV qV V V2) (sA : SA qA A A2) (hs6 : s < 64) : ∀ (m i : Nat), 99 < i + m → i ≤ 99 → wp g MX12_asks (rm 232 0 0) (Eff (.int (I ((akb (akf T N s) 99).1 : Nat))) (fun hp3 => MAt hp3 q 0 N T U tx [(akb (akf T N s) 99).2] rt hs ss KT ∧ SO hp0 hp3 q (q + 25))) 0 0 26 [some (.ref q), some (.int (I (s : Int))), some (.int (I ((akb (akf T N s) i).1 : Nat))), some (.int (I (akb (akf T N s) i).2)), some (.int (I ((i + 1 : Nat) : Int))), none, none] [] hp := by
  intro m
  induction m with
  | zero => intro i h1 h2; exact absurd h1 (by omega)
  | succ m ih =>
    intro i h1 h2
    have hN := hI.men.2
    have m1 := M.1
    have mA := M.2.1
    have q1 := akb_in (akf T N s) (akf_in hN) i
    have q2 := akf_in (T := T) (s := s) hN (i + 1)
    have q3 := rcn_le T s ((i + 1 : Nat) : Int) N
    have q4 := popc_le s
    refine wp_iload (pc := 26) dX12_asks_26 rfl ?_
    refine wp_bipush (pc := 28) (y := 99) dX12_asks_28 (by decide) ?_
    refine wp_icmp_gt (pc := 30) 123 dX12_asks_30 (by decide) (by first | omega | exact TI.i5 (by assumption) | exact TI.i3 (by assumption) | exact TI.i2 (by assumption) | exact TI.i1 (by assumption) | exact TI.i0 (by assumption) | exact TI.i4 (by assumption) | exact TI.i6 (by assumption) | exact TI.i7 (by assumption)) (by first | omega | exact TI.i5 (by assumption) | exact TI.i3 (by assumption) | exact TI.i2 (by assumption) | exact TI.i1 (by assumption) | exact TI.i0 (by assumption) | exact TI.i4 (by assumption) | exact TI.i6 (by assumption) | exact TI.i7 (by assumption)) (fun c30 => ?_) (fun c30 => ?_)
    ·
      have e : i = 99 := by omega
      subst e -- go
      refine wp_aload_n (pc := 123) dX12_asks_123 rfl ?_
      refine wp_iconst (pc := 124) dX12_asks_124 ?_
      refine wm_put dX12_asks_125 pf_X12_89 K O (by decide) mset_5 rfl rfl (fun hp K O => ?_)
      refine wp_aload_n (pc := 128) dX12_asks_128 rfl ?_
      refine wp_iload_n (pc := 129) dX12_asks_129 rfl ?_
      refine wp_i2l (pc := 130) dX12_asks_130 (by first | omega | exact TI.i5 (by assumption) | exact TI.i3 (by assumption) | exact TI.i2 (by assumption) | exact TI.i1 (by assumption) | exact TI.i0 (by assumption) | exact TI.i4 (by assumption) | exact TI.i6 (by assumption) | exact TI.i7 (by assumption)) ?_
      refine wp_Vn (pc := 131) dX12_asks_131 cl_X12_253 (sp_Ref_tellR K (by first | assumption | exact Mrw.z (by repeat (first | assumption | exact pv10 | exact pv11 | (apply pv_o; decide; decide) | exact upN_eq | (apply upN_ne; decide) | (apply SV_at; assumption; decide) | exact rfl))) (by first | decide | (simp; omega) | simp | omega)) rfl rfl K.1 (by rfl) (by decide) (Nat.le_of_ble_eq_true rfl) (fun hp131 e131 => ?_)
      obtain ⟨⟨V131, A131, K, sV131, sA131, hR131⟩, O1⟩ := e131; replace O := SO.tr O O1
      refine wp_iload_n (pc := 134) dX12_asks_134 rfl ?_
      exact wp_ir (pc := 135) dX12_asks_135 rfl (by decide) (by decide) (by first | rfl | omega) ⟨⟨_, _, _, K, (by repeat (first | assumption | exact pv10 | exact pv11 | (apply pv_o; decide; decide) | exact upN_eq | (apply upN_ne; decide) | (apply SV_at; assumption; decide) | exact rfl)), M.qu (by repeat (first | exact SV.rf | assumption | (apply SV.up1; decide) | (apply SV.tr2; assumption; decide))) (by repeat (first | exact SA.rf | assumption | (apply SA.up1; decide) | (apply SA.tr2; assumption; decide))) (by first | assumption | exact Mrw.z (by repeat (first | assumption | exact pv10 | exact pv11 | (apply pv_o; decide; decide) | exact upN_eq | (apply upN_ne; decide) | (apply SV_at; assumption; decide) | exact rfl)) | exact Mrw.tr (by assumption) (by repeat (first | assumption | exact pv10 | exact pv11 | (apply pv_o; decide; decide) | exact upN_eq | (apply upN_ne; decide) | (apply SV_at; assumption; decide) | exact rfl)) (by repeat (first | assumption | exact upA_eq | (apply upA_ne; first | decide | omega) | (apply SA_at; assumption; first | decide | (simp; omega)) | exact rfl)))⟩, O⟩
    ·
      refine wp_iconst (pc := 33) dX12_asks_33 ?_
      refine wp_istore (pc := 34) dX12_asks_34 (by decide) ?_
      refine wp_iconst (pc := 36) dX12_asks_36 ?_
      refine wp_istore (pc := 37) dX12_asks_37 (by decide) ?_
      refine wp_ls ?_ (lp_ask2 (n := i + 1) (s := s) (v1 := (((akb (akf T N s) i).1 : Nat) : Int)) (v2 := (akb (akf T N s) i).2) hI K (SV_at sV (by decide) m1) (SA_at sA (by decide) mA) hs6 (by omega) ?_ (N + 1) 0 (by omega) (by omega))
      · repeat' (first | exact LE_0 | refine LE_s rfl ?_ | refine LE_s (I_c (by first | omega | (simp only [sm]; omega))) ?_ | refine LE_s (J_c (by first | omega | exact Int.pow_succ _ _ | exact (Int.pow_succ _ _).symm | exact (Int.pow_zero _).symm | (simp only [sm]; omega))) ?_ | refine LE_n ?_)
      ·
        refine wp_iload (pc := 88) dX12_asks_88 rfl ?_
        refine wp_iload_n (pc := 90) dX12_asks_90 rfl ?_
        refine wp_Sp (pc := 91) dX12_asks_91 cl_X12_257 (sp_Integer_bitCount hs6) rfl rfl (by decide) (Nat.le_of_ble_eq_true rfl) ?_
        refine wp_iload (pc := 94) dX12_asks_94 rfl ?_
        refine wp_isub (pc := 96) dX12_asks_96 ?_
        refine wp_max (pc := 97) dX12_asks_97 ml_X12_199 ma_max_s ma_ini ma_max_c (by decide) (by decide) (by decide) (by decide) (Nat.le_of_ble_eq_true rfl) (by first | omega | exact TI.i5 (by assumption) | exact TI.i3 (by assumption) | exact TI.i2 (by assumption) | exact TI.i1 (by assumption) | exact TI.i0 (by assumption) | exact TI.i4 (by assumption) | exact TI.i6 (by assumption) | exact TI.i7 (by assumption)) (by first | omega | exact TI.i5 (by assumption) | exact TI.i3 (by assumption) | exact TI.i2 (by assumption) | exact TI.i1 (by assumption) | exact TI.i0 (by assumption) | exact TI.i4 (by assumption) | exact TI.i6 (by assumption) | exact TI.i7 (by assumption)) ?_
        refine wp_topE (show mx ((rcn T s ((i + 1 : Nat) : Int) N : Nat) : Int) (((popc s : Nat) : Int) - ((rcn T s ((i + 1 : Nat) : Int) N : Nat) : Int)) = akf T N s (i + 1) from rfl) ?_
        refine wp_istore (pc := 100) dX12_asks_100 (by decide) ?_
        refine wp_iload (pc := 102) dX12_asks_102 rfl ?_
        refine wp_iload_n (pc := 104) dX12_asks_104 rfl ?_
        refine wp_icmp_lt (pc := 105) 111 dX12_asks_105 (by decide) (by first | omega | exact TI.i5 (by assumption) | exact TI.i3 (by assumption) | exact TI.i2 (by assumption) | exact TI.i1 (by assumption) | exact TI.i0 (by assumption) | exact TI.i4 (by assumption) | exact TI.i6 (by assumption) | exact TI.i7 (by assumption)) (by first | omega | exact TI.i5 (by assumption) | exact TI.i3 (by assumption) | exact TI.i2 (by assumption) | exact TI.i1 (by assumption) | exact TI.i0 (by assumption) | exact TI.i4 (by assumption) | exact TI.i6 (by assumption) | exact TI.i7 (by assumption)) (fun c105 => ?_) (fun c105 => ?_)
        ·
          have e1 : akb (akf T N s) (i + 1) = (i + 1, akf T N s (i + 1)) := if_pos (by omega)
          skip -- go
          refine wp_iload (pc := 111) dX12_asks_111 rfl ?_
          refine wp_istore_n (pc := 113) dX12_asks_113 (by decide) ?_
          refine wp_iload (pc := 114) dX12_asks_114 rfl ?_
          refine wp_istore_n (pc := 116) dX12_asks_116 (by decide) ?_
          refine wp_iinc (pc := 117) dX12_asks_117 rfl (by decide) ?_
          refine wp_goto (pc := 120) 26 dX12_asks_120 (by decide) ?_
          refine wp_ls ?_ (ih (i + 1) (by omega) (by omega))
          rw [e1]
          repeat' (first | exact LE_0 | refine LE_s rfl ?_ | refine LE_s (I_c (by first | omega | (simp only [sm]; omega))) ?_ | refine LE_s (J_c (by first | omega | exact Int.pow_succ _ _ | exact (Int.pow_succ _ _).symm | exact (Int.pow_zero _).symm | (simp only [sm]; omega))) ?_ | refine LE_n ?_)
        ·
          have e1 : akb (akf T N s) (i + 1) = akb (akf T N s) i := if_neg (by omega)
          skip -- go
          refine wp_goto (pc := 108) 117 dX12_asks_108 (by decide) ?_
          refine wp_iinc (pc := 117) dX12_asks_117 rfl (by decide) ?_
          refine wp_goto (pc := 120) 26 dX12_asks_120 (by decide) ?_
          refine wp_ls ?_ (ih (i + 1) (by omega) (by omega))
          rw [e1]
          repeat' (first | exact LE_0 | refine LE_s rfl ?_ | refine LE_s (I_c (by first | omega | (simp only [sm]; omega))) ?_ | refine LE_s (J_c (by first | omega | exact Int.pow_succ _ _ | exact (Int.pow_succ _ _).symm | exact (Int.pow_zero _).symm | (simp only [sm]; omega))) ?_ | refine LE_n ?_)
theorem ask0 (hI : TI T N) (M : MX V A N T U tx rw rt hs ss KT) (K : ModAt hp q V2 A2 rd (.ref (q + 5))) (O : SO hp0 hp q (q + 25)) (h6 : V2 6 = 0) (sV : SV qV V V2) (sA : SA qA A A2) (hb6 : s < 64) : wp g MX12_asks (rm 232 0 0) (Eff (.int (I ((akb (akf T N s) 99).1 : Nat))) (fun hp3 => MAt hp3 q 0 N T U tx [(akb (akf T N s) 99).2] rt hs ss KT ∧ SO hp0 hp3 q (q + 25))) 0 0 26 [some (.ref q), some (.int (I (s : Int))), some (.int (I (-1))), some (.int (I 1000000)), some (.int (I 0)), none, none] [] hp := by
  have hN := hI.men.2
  have m1 := M.1
  have mA := M.2.1
  have q2 := akf_in (T := T) (s := s) hN 0
  have q3 := rcn_le T s ((0 : Nat) : Int) N
  have q4 := popc_le s
  refine wp_iload (pc := 26) dX12_asks_26 rfl ?_
  refine wp_bipush (pc := 28) (y := 99) dX12_asks_28 (by decide) ?_
  refine wp_icmp_gt (pc := 30) 123 dX12_asks_30 (by decide) (by first | omega | exact TI.i5 (by assumption) | exact TI.i3 (by assumption) | exact TI.i2 (by assumption) | exact TI.i1 (by assumption) | exact TI.i0 (by assumption) | exact TI.i4 (by assumption) | exact TI.i6 (by assumption) | exact TI.i7 (by assumption)) (by first | omega | exact TI.i5 (by assumption) | exact TI.i3 (by assumption) | exact TI.i2 (by assumption) | exact TI.i1 (by assumption) | exact TI.i0 (by assumption) | exact TI.i4 (by assumption) | exact TI.i6 (by assumption) | exact TI.i7 (by assumption)) (fun c30 => ?_) (fun c30 => ?_)
  ·
    exact absurd c30 (by decide)
  ·
    first
    | (exfalso; omega)
    | skip
      refine wp_iconst (pc := 33) dX12_asks_33 ?_
      refine wp_istore (pc := 34) dX12_asks_34 (by decide) ?_
      refine wp_iconst (pc := 36) dX12_asks_36 ?_
      refine wp_istore (pc := 37) dX12_asks_37 (by decide) ?_
      refine wp_ls ?_ (lp_ask2 (n := 0) (s := s) (v1 := -1) (v2 := 1000000) hI K (SV_at sV (by decide) m1) (SA_at sA (by decide) mA) hb6 (by omega) ?_ (N + 1) 0 (by omega) (by omega))
      · repeat' (first | exact LE_0 | refine LE_s rfl ?_ | refine LE_s (I_c (by first | omega | (simp only [sm]; omega))) ?_ | refine LE_s (J_c (by first | omega | exact Int.pow_succ _ _ | exact (Int.pow_succ _ _).symm | exact (Int.pow_zero _).symm | (simp only [sm]; omega))) ?_ | refine LE_n ?_)
      ·
        refine wp_iload (pc := 88) dX12_asks_88 rfl ?_
        refine wp_iload_n (pc := 90) dX12_asks_90 rfl ?_
        refine wp_Sp (pc := 91) dX12_asks_91 cl_X12_257 (sp_Integer_bitCount hb6) rfl rfl (by decide) (Nat.le_of_ble_eq_true rfl) ?_
        refine wp_iload (pc := 94) dX12_asks_94 rfl ?_
        refine wp_isub (pc := 96) dX12_asks_96 ?_
        refine wp_max (pc := 97) dX12_asks_97 ml_X12_199 ma_max_s ma_ini ma_max_c (by decide) (by decide) (by decide) (by decide) (Nat.le_of_ble_eq_true rfl) (by first | omega | exact TI.i5 (by assumption) | exact TI.i3 (by assumption) | exact TI.i2 (by assumption) | exact TI.i1 (by assumption) | exact TI.i0 (by assumption) | exact TI.i4 (by assumption) | exact TI.i6 (by assumption) | exact TI.i7 (by assumption)) (by first | omega | exact TI.i5 (by assumption) | exact TI.i3 (by assumption) | exact TI.i2 (by assumption) | exact TI.i1 (by assumption) | exact TI.i0 (by assumption) | exact TI.i4 (by assumption) | exact TI.i6 (by assumption) | exact TI.i7 (by assumption)) ?_
        refine wp_topE (show mx ((rcn T s ((0 : Nat) : Int) N : Nat) : Int) (((popc s : Nat) : Int) - ((rcn T s ((0 : Nat) : Int) N : Nat) : Int)) = akf T N s 0 from rfl) ?_
        refine wp_istore (pc := 100) dX12_asks_100 (by decide) ?_
        refine wp_iload (pc := 102) dX12_asks_102 rfl ?_
        refine wp_iload_n (pc := 104) dX12_asks_104 rfl ?_
        refine wp_icmp_lt (pc := 105) 111 dX12_asks_105 (by decide) (by first | omega | exact TI.i5 (by assumption) | exact TI.i3 (by assumption) | exact TI.i2 (by assumption) | exact TI.i1 (by assumption) | exact TI.i0 (by assumption) | exact TI.i4 (by assumption) | exact TI.i6 (by assumption) | exact TI.i7 (by assumption)) (by first | omega | exact TI.i5 (by assumption) | exact TI.i3 (by assumption) | exact TI.i2 (by assumption) | exact TI.i1 (by assumption) | exact TI.i0 (by assumption) | exact TI.i4 (by assumption) | exact TI.i6 (by assumption) | exact TI.i7 (by assumption)) (fun c105 => ?_) (fun c105 => ?_)
        ·
          first
          | (exfalso; omega)
          | skip
            refine wp_iload (pc := 111) dX12_asks_111 rfl ?_
            refine wp_istore_n (pc := 113) dX12_asks_113 (by decide) ?_
            refine wp_iload (pc := 114) dX12_asks_114 rfl ?_
            refine wp_istore_n (pc := 116) dX12_asks_116 (by decide) ?_
            refine wp_iinc (pc := 117) dX12_asks_117 rfl (by decide) ?_
            refine wp_goto (pc := 120) 26 dX12_asks_120 (by decide) ?_
            refine wp_ls ?_ (lp_ask1 (V := V) (A := A) hI M K O h6 sV sA hb6 100 0 (by omega) (by omega))
            repeat' (first | exact LE_0 | refine LE_s rfl ?_ | refine LE_s (I_c (by first | omega | (simp only [sm]; omega))) ?_ | refine LE_s (J_c (by first | omega | exact Int.pow_succ _ _ | exact (Int.pow_succ _ _).symm | exact (Int.pow_zero _).symm | (simp only [sm]; omega))) ?_ | refine LE_n ?_)
        ·
          omega
theorem sp_Ref_asks (hM : MAt hp q th N T U tx rw rt hs ss KT) (hI : TI T N) (ho : hsO hs) : Sp g MX12_asks (rm 232 0 0) [.ref q] hp (Eff (.int (I (if bits (ftL (stl rt) T N hs) N = 0 then -2 else ((akb (akf T N (bits (ftL (stl rt) T N hs) N)) 99).1 : Int)))) (fun hp2 => MAt hp2 q 0 N T U tx (if bits (ftL (stl rt) T N hs) N = 0 then rw else [(akb (akf T N (bits (ftL (stl rt) T N hs) N)) 99).2]) rt hs ss KT ∧ SO hp hp2 q (q + 25))) := by
  have hN := hI.men.2
  have hb6 := bits64 (P := ftL (stl rt) T N hs) hN
  refine Sp_mk rfl (Nat.le_of_ble_eq_true rfl) ?_
  show wp g _ _ _ 0 0 0 [some (.ref q), none, none, none, none, none, none] [] hp
  have O := SO.rf (hp := hp) (lo := q) (hi := q + 25)
  obtain ⟨V, A, rd, K, hth, M⟩ := hM
  have hu := M.ru (q := q)
  have M2 := M
  obtain ⟨m1, mA, mt, mr, mu, mU, mh, ms, mk⟩ := M2
  refine wp_aload_n (pc := 0) dX12_asks_0 rfl ?_
  refine wp_iconst (pc := 1) dX12_asks_1 ?_
  refine wm_put dX12_asks_2 pf_X12_85 K O (by decide) mset_6 rfl rfl (fun hp K O => ?_)
  refine wp_aload_n (pc := 5) dX12_asks_5 rfl ?_
  refine wp_Vs (pc := 6) dX12_asks_6 cl_X12_324 (sp_Ref_fitting K hI (by repeat (first | assumption | exact pv10 | exact pv11 | (apply pv_o; decide; decide) | exact upN_eq | (apply upN_ne; decide) | (apply SV_at; assumption; decide) | exact rfl)) (by repeat (first | assumption | exact upA_eq | (apply upA_ne; first | decide | omega) | (apply SA_at; assumption; first | decide | (simp; omega)) | exact rfl)) (RuA.cc hu (by repeat (first | assumption | exact pv10 | exact pv11 | (apply pv_o; decide; decide) | exact upN_eq | (apply upN_ne; decide) | (apply SV_at; assumption; decide) | exact rfl)) (by repeat (first | assumption | exact upA_eq | (apply upA_ne; first | decide | omega) | (apply SA_at; assumption; first | decide | (simp; omega)) | exact rfl)) (by repeat (first | assumption | exact upA_eq | (apply upA_ne; first | decide | omega) | (apply SA_at; assumption; first | decide | (simp; omega)) | exact rfl))) (Mhs.tr mh rfl rfl rfl) ho) rfl rfl K.1 (by rfl) (by decide) (Nat.le_of_ble_eq_true rfl) (fun hp6 e6 => ?_)
  obtain ⟨⟨V6, A6, rd6, K, sV6, sA6⟩, O1⟩ := e6; replace O := SO.tr O O1
  refine wp_istore_n (pc := 9) dX12_asks_9 (by decide) ?_
  refine wp_iload_n (pc := 10) dX12_asks_10 rfl ?_
  first | refine wp_ifb_ne (pc := 11) 17 dX12_asks_11 (by decide) (fun c11 => ?_) (fun c11 => ?_) | refine wp_if_ne (pc := 11) 17 dX12_asks_11 (by decide) (by first | omega | exact TI.i5 (by assumption) | exact TI.i3 (by assumption) | exact TI.i2 (by assumption) | exact TI.i1 (by assumption) | exact TI.i0 (by assumption) | exact TI.i4 (by assumption) | exact TI.i6 (by assumption) | exact TI.i7 (by assumption)) (fun c11 => ?_) (fun c11 => ?_)
  ·
    rw [if_neg (by omega), if_neg (by omega)] -- go
    refine wp_iconst (pc := 17) dX12_asks_17 ?_
    refine wp_istore_n (pc := 18) dX12_asks_18 (by decide) ?_
    refine wp_ldcw (pc := 19) dX12_asks_19 kc_X12_327 ?_
    refine wp_istore_n (pc := 22) dX12_asks_22 (by decide) ?_
    refine wp_iconst (pc := 23) dX12_asks_23 ?_
    refine wp_istore (pc := 24) dX12_asks_24 (by decide) ?_
    refine wp_ls ?_ (ask0 (V := V) (A := A) hI M K O (by repeat (first | assumption | exact pv10 | exact pv11 | (apply pv_o; decide; decide) | exact upN_eq | (apply upN_ne; decide) | (apply SV_at; assumption; decide) | exact rfl)) (by repeat (first | exact SV.rf | assumption | (apply SV.up1; decide) | (apply SV.tr2; assumption; decide))) (by repeat (first | exact SA.rf | assumption | (apply SA.up1; decide) | (apply SA.tr2; assumption; decide))) hb6)
    repeat' (first | exact LE_0 | refine LE_s rfl ?_ | refine LE_s (I_c (by first | omega | (simp only [sm]; omega))) ?_ | refine LE_s (J_c (by first | omega | exact Int.pow_succ _ _ | exact (Int.pow_succ _ _).symm | exact (Int.pow_zero _).symm | (simp only [sm]; omega))) ?_ | refine LE_n ?_)
  ·
    rw [if_pos (by omega), if_pos (by omega)] -- go
    refine wp_bipush (pc := 14) (y := (-2)) dX12_asks_14 (by decide) ?_
    exact wp_ir (pc := 16) dX12_asks_16 rfl (by decide) (by decide) (by first | rfl | omega) ⟨⟨_, _, _, K, (by repeat (first | assumption | exact pv10 | exact pv11 | (apply pv_o; decide; decide) | exact upN_eq | (apply upN_ne; decide) | (apply SV_at; assumption; decide) | exact rfl)), M.qu (by repeat (first | exact SV.rf | assumption | (apply SV.up1; decide) | (apply SV.tr2; assumption; decide))) (by repeat (first | exact SA.rf | assumption | (apply SA.up1; decide) | (apply SA.tr2; assumption; decide))) (by first | assumption | exact Mrw.z (by repeat (first | assumption | exact pv10 | exact pv11 | (apply pv_o; decide; decide) | exact upN_eq | (apply upN_ne; decide) | (apply SV_at; assumption; decide) | exact rfl)) | exact Mrw.tr (by assumption) (by repeat (first | assumption | exact pv10 | exact pv11 | (apply pv_o; decide; decide) | exact upN_eq | (apply upN_ne; decide) | (apply SV_at; assumption; decide) | exact rfl)) (by repeat (first | assumption | exact upA_eq | (apply upA_ne; first | decide | omega) | (apply SA_at; assumption; first | decide | (simp; omega)) | exact rfl)))⟩, O⟩
end MR_

