/-! the reference: what is done -/
section MI
variable {g : GT} {hp hp0 : Hp} {q N n a b s k p D : Nat} {V V2 V3 : Nat → Int} {A A2 A3 : Nat → Int → Int} {rd rl : Value} {i j x v c y z w th : Int} {T T2 : Nat → Int → Int} {l t cs tx rw rw2 rt : List Int} {W G f : Int → Int} {U U2 : List (Nat → Int → Int)} {hs : List (Int × Int)} {ss : List (Int × Int × Int)} {KT : Nat → Option (Nat → Int → Int)} {L L2 : List Nat}
abbrev cV : List Nat := [5, 6, 8, 9, 10, 11, 16, 19, 35]
abbrev cA : List Nat := [1, 3, 4, 7, 8, 9, 10, 11, 12, 13, 14, 20, 21]
theorem MX.ch (h : MX V A N T U tx rw rt hs ss KT) (sV : SV cV V V2) (sA : SA cA A A2) (hA : A2 1 = flat T2) (hU : MU V2 A2 U2) (hr : Mrw V2 A2 rw2) : MX V2 A2 N T2 U2 tx rw2 rt hs ss KT := by
  obtain ⟨m1, mA, mt, mr, mu, mU, mh, ms, mk⟩ := h
  have v : ∀ k, k ∉ cV → V2 k = V k := sV
  have w : ∀ k, k ∉ cA → A2 k = A k := sA
  exact ⟨(v 1 (by decide)).trans m1, hA, mt.tr (v 3 (by decide)) (w 2 (by decide)), hr, mu.tr (v 15 (by decide)) (w 5 (by decide)), hU, mh.tr (v 28 (by decide)) (w 15 (by decide)) (w 16 (by decide)), ms.tr (v 32 (by decide)) (w 17 (by decide)) (w 18 (by decide)) (w 19 (by decide)), mk.tr (v 36 (by decide)) (w 22 (by decide)) (w 23 (by decide)) (w 24 (by decide))⟩
theorem sm_f3 (hN : N ≤ 6) : sm (fun j => flat T (((42 : Nat) : Int) + j)) N = sm (T 3) N := sm_congr fun i hi => flat3 (by omega) (by omega)
theorem sm_f2 (hN : N ≤ 6) : sm (fun j => flat T (((36 : Nat) : Int) + j)) N = sm (T 2) N := sm_congr fun i hi => flat2 (by omega) (by omega)
theorem sm_f4 (hN : N ≤ 6) : sm (fun j => flat T (((48 : Nat) : Int) + j)) N = sm (T 4) N := sm_congr fun i hi => flat4 (by omega) (by omega)
theorem sm_f5 (hN : N ≤ 6) : sm (fun j => flat T (((54 : Nat) : Int) + j)) N = sm (T 5) N := sm_congr fun i hi => flat5 (by omega) (by omega)
theorem sp_sum3 (K : ModAt hp q V A rd rl) (h1 : V 1 = (N : Int)) (hN : N ≤ 6) (ha : a = 1 ∨ a = 10) (hA : A a = flat T) : Sp g MX12_sumOf (rm 0 0 0) [.ref q, .ref (q + a), .int (I 42)] hp (Pur (.int (I (sm (T 3) N))) hp) := by
  rw [← sm_f3 hN]; exact sp_Ref_sumOf (k := 42) K h1 hN ha hA (by decide)
theorem sp_sum2 (K : ModAt hp q V A rd rl) (h1 : V 1 = (N : Int)) (hN : N ≤ 6) (ha : a = 1 ∨ a = 10) (hA : A a = flat T) : Sp g MX12_sumOf (rm 0 0 0) [.ref q, .ref (q + a), .int (I 36)] hp (Pur (.int (I (sm (T 2) N))) hp) := by
  rw [← sm_f2 hN]; exact sp_Ref_sumOf (k := 36) K h1 hN ha hA (by decide)
theorem sp_sum4 (K : ModAt hp q V A rd rl) (h1 : V 1 = (N : Int)) (hN : N ≤ 6) (ha : a = 1 ∨ a = 10) (hA : A a = flat T) : Sp g MX12_sumOf (rm 0 0 0) [.ref q, .ref (q + a), .int (I 48)] hp (Pur (.int (I (sm (T 4) N))) hp) := by
  rw [← sm_f4 hN]; exact sp_Ref_sumOf (k := 48) K h1 hN ha hA (by decide)
theorem sp_sum5 (K : ModAt hp q V A rd rl) (h1 : V 1 = (N : Int)) (hN : N ≤ 6) (ha : a = 1 ∨ a = 10) (hA : A a = flat T) : Sp g MX12_sumOf (rm 0 0 0) [.ref q, .ref (q + a), .int (I 54)] hp (Pur (.int (I (sm (T 5) N))) hp) := by
  rw [← sm_f5 hN]; exact sp_Ref_sumOf (k := 54) K h1 hN ha hA (by decide)
theorem dct_eq (hN : N ≤ 6) : ((popc (bits (ddb T) N) : Nat) : Int) = dct T N := by
  rw [popc_bits _ (by omega)]
  have := cnt_not (lv T) N
  unfold dct
  have e : cnt (ddb T) N = cnt (fun i => !lv T i) N := rfl
  omega
theorem sm_r3 (hI : TI T N) : 0 ≤ sm (T 3) N ∧ sm (T 3) N ≤ 60000 := by
  have := sm_range (f := T 3) (lo := 0) (hi := 9999) (n := N) (fun i _ => hI.r3 i)
  have := hI.men.2
  omega
theorem sp_Ref_refusesDeath (K : ModAt hp q V A rd rl) (m1 : V 1 = (N : Int)) (hI : TI T N) (ha : a = 1 ∨ a = 10) (hA : A a = flat T) (rx : InR x) (ry : InR y) : Sp g MX12_refusesDeath (rm 2 0 0) [.ref q, .ref (q + a), .int (I x), .int (I y)] hp (Pur (.int (I (if ¬ (0 ≤ x ∧ x < N ∧ 1 ≤ y ∧ y ≤ 9) then -1 else if ¬ T 5 x = 0 then -2 else 0))) hp) := by
  have hm := mty_n ha
  have hN := hI.men.2
  have h5 := hI.r5 x
  refine Sp_mk rfl (Nat.le_of_ble_eq_true rfl) ?_
  show wp g _ _ _ 0 0 0 [some (.ref q), some (.ref (q + a)), some (.int (I x)), some (.int (I y))] [] hp
  have O := SO.rf (hp := hp) (lo := q) (hi := q + 25)
  refine wp_aload_n (pc := 0) dX12_refusesDeath_0 rfl ?_
  refine wp_iload_n (pc := 1) dX12_refusesDeath_1 rfl ?_
  refine wp_Vp (pc := 2) dX12_refusesDeath_2 cl_X12_99 (sp_Ref_isMan (by first | assumption | omega | (repeat (first | assumption | exact pv10 | exact pv11 | (apply pv_o; decide; decide) | exact upN_eq | (apply upN_ne; decide) | (apply SV_at; assumption; decide) | exact upA_eq | (apply upA_ne; first | decide | omega) | (apply SA_at; assumption; first | decide | (simp; omega)) | exact rfl))) (by first | assumption | omega | (repeat (first | assumption | exact pv10 | exact pv11 | (apply pv_o; decide; decide) | exact upN_eq | (apply upN_ne; decide) | (apply SV_at; assumption; decide) | exact upA_eq | (apply upA_ne; first | decide | omega) | (apply SA_at; assumption; first | decide | (simp; omega)) | exact rfl))) (by first | assumption | omega | (repeat (first | assumption | exact pv10 | exact pv11 | (apply pv_o; decide; decide) | exact upN_eq | (apply upN_ne; decide) | (apply SV_at; assumption; decide) | exact upA_eq | (apply upA_ne; first | decide | omega) | (apply SA_at; assumption; first | decide | (simp; omega)) | exact rfl))) (by first | assumption | omega | (repeat (first | assumption | exact pv10 | exact pv11 | (apply pv_o; decide; decide) | exact upN_eq | (apply upN_ne; decide) | (apply SV_at; assumption; decide) | exact upA_eq | (apply upA_ne; first | decide | omega) | (apply SA_at; assumption; first | decide | (simp; omega)) | exact rfl)))) rfl rfl K.1 (by rfl) (by decide) (Nat.le_of_ble_eq_true rfl) ?_
  first | refine wp_ifb_eq (pc := 5) 18 dX12_refusesDeath_5 (by decide) (fun c5 => ?_) (fun c5 => ?_) | refine wp_if_eq (pc := 5) 18 dX12_refusesDeath_5 (by decide) (by first | omega | exact TI.i5 (by assumption) | exact TI.i3 (by assumption) | exact TI.i2 (by assumption) | exact TI.i1 (by assumption) | exact TI.i0 (by assumption) | exact TI.i4 (by assumption) | exact TI.i6 (by assumption) | exact TI.i7 (by assumption)) (fun c5 => ?_) (fun c5 => ?_)
  ·
    refine wp_iconst (pc := 18) dX12_refusesDeath_18 ?_
    exact wp_ir (pc := 19) dX12_refusesDeath_19 rfl (by decide) (by decide) (by (repeat' split) <;> omega) (by first | exact ⟨K, O⟩ | rfl)
  ·
    refine wp_iload_n (pc := 8) dX12_refusesDeath_8 rfl ?_
    refine wp_iconst (pc := 9) dX12_refusesDeath_9 ?_
    refine wp_bipush (pc := 10) (y := 9) dX12_refusesDeath_10 (by decide) ?_
    refine wp_Sp (pc := 12) dX12_refusesDeath_12 cl_X12_95 (sp_Ref_in (by first | assumption | omega | (repeat (first | assumption | exact pv10 | exact pv11 | (apply pv_o; decide; decide) | exact upN_eq | (apply upN_ne; decide) | (apply SV_at; assumption; decide) | exact upA_eq | (apply upA_ne; first | decide | omega) | (apply SA_at; assumption; first | decide | (simp; omega)) | exact rfl))) (by first | assumption | omega | (repeat (first | assumption | exact pv10 | exact pv11 | (apply pv_o; decide; decide) | exact upN_eq | (apply upN_ne; decide) | (apply SV_at; assumption; decide) | exact upA_eq | (apply upA_ne; first | decide | omega) | (apply SA_at; assumption; first | decide | (simp; omega)) | exact rfl))) (by first | assumption | omega | (repeat (first | assumption | exact pv10 | exact pv11 | (apply pv_o; decide; decide) | exact upN_eq | (apply upN_ne; decide) | (apply SV_at; assumption; decide) | exact upA_eq | (apply upA_ne; first | decide | omega) | (apply SA_at; assumption; first | decide | (simp; omega)) | exact rfl)))) rfl rfl (by decide) (Nat.le_of_ble_eq_true rfl) ?_
    first | refine wp_ifb_ne (pc := 15) 20 dX12_refusesDeath_15 (by decide) (fun c15 => ?_) (fun c15 => ?_) | refine wp_if_ne (pc := 15) 20 dX12_refusesDeath_15 (by decide) (by first | omega | exact TI.i5 (by assumption) | exact TI.i3 (by assumption) | exact TI.i2 (by assumption) | exact TI.i1 (by assumption) | exact TI.i0 (by assumption) | exact TI.i4 (by assumption) | exact TI.i6 (by assumption) | exact TI.i7 (by assumption)) (fun c15 => ?_) (fun c15 => ?_)
    ·
      refine wp_aload_n (pc := 20) dX12_refusesDeath_20 rfl ?_
      refine wp_bipush (pc := 21) (y := 54) dX12_refusesDeath_21 (by decide) ?_
      refine wp_iload_n (pc := 23) dX12_refusesDeath_23 rfl ?_
      refine wp_iadd (pc := 24) dX12_refusesDeath_24 ?_
      refine wm_iald dX12_refusesDeath_25 K (by first | rfl | assumption) (by first | decide | omega) (by first | decide | omega) (by decide) (by omega) (by omega) (by repeat (first | assumption | exact upA_eq | (apply upA_ne; first | decide | omega) | (apply SA_at; assumption; first | decide | (simp; omega)) | exact rfl)) (by first | exact flat5 (by omega) (by omega) | exact flat3 (by omega) (by omega) | exact flat2 (by omega) (by omega) | exact flat6 (by omega) (by omega) | exact flat4 (by omega) (by omega) | exact flat1 (by omega) (by omega) | exact flat0 (by omega) (by omega) | exact flat7 | exact rfl) ?_
      refine wp_if_le (pc := 26) 34 dX12_refusesDeath_26 (by decide) (by first | omega | exact TI.i5 (by assumption) | exact TI.i3 (by assumption) | exact TI.i2 (by assumption) | exact TI.i1 (by assumption) | exact TI.i0 (by assumption) | exact TI.i4 (by assumption) | exact TI.i6 (by assumption) | exact TI.i7 (by assumption)) (fun c26 => ?_) (fun c26 => ?_)
      ·
        refine wp_iconst (pc := 34) dX12_refusesDeath_34 ?_
        exact wp_ir (pc := 35) dX12_refusesDeath_35 rfl (by decide) (by decide) (by (repeat' split) <;> omega) (by first | exact ⟨K, O⟩ | rfl)
      ·
        refine wp_bipush (pc := 29) (y := (-2)) dX12_refusesDeath_29 (by decide) ?_
        refine wp_goto (pc := 31) 35 dX12_refusesDeath_31 (by decide) ?_
        exact wp_ir (pc := 35) dX12_refusesDeath_35 rfl (by decide) (by decide) (by (repeat' split) <;> omega) (by first | exact ⟨K, O⟩ | rfl)
    ·
      refine wp_iconst (pc := 18) dX12_refusesDeath_18 ?_
      exact wp_ir (pc := 19) dX12_refusesDeath_19 rfl (by decide) (by decide) (by (repeat' split) <;> omega) (by first | exact ⟨K, O⟩ | rfl)
theorem sp_Ref_goDeath (K : ModAt hp q V A rd rl) (hI : TI T N) (ha : a = 1 ∨ a = 10) (hA : A a = flat T) (rx : 0 ≤ x ∧ x < 6) : Sp g MX12_goDeath (rm 1 0 0) [.ref (q + a), .int (I x), .int (I y)] hp (Vod (fun hp2 => ModAt hp2 q V (upA A a (flat (up (up (up T 5 x y) 4 x (mi 99 (T 4 x + 1))) 6 x 0))) rd rl ∧ SO hp hp2 q (q + 25))) := by
  have hm := mty_n ha
  have h4 := hI.r4 x
  refine Sp_mk rfl (Nat.le_of_ble_eq_true rfl) ?_
  show wp g _ _ _ 0 0 0 [some (.ref (q + a)), some (.int (I x)), some (.int (I y))] [] hp
  have O := SO.rf (hp := hp) (lo := q) (hi := q + 25)
  refine wp_aload_n (pc := 0) dX12_goDeath_0 rfl ?_
  refine wp_bipush (pc := 1) (y := 54) dX12_goDeath_1 (by decide) ?_
  refine wp_iload_n (pc := 3) dX12_goDeath_3 rfl ?_
  refine wp_iadd (pc := 4) dX12_goDeath_4 ?_
  refine wp_iload_n (pc := 5) dX12_goDeath_5 rfl ?_
  refine wm_iast dX12_goDeath_6 K O (by first | rfl | assumption) (by first | decide | omega) (by first | decide | omega) (by decide) (by omega) (by omega) (by repeat (first | assumption | exact upA_eq | (apply upA_ne; first | decide | omega) | (apply SA_at; assumption; first | decide | (simp; omega)) | exact rfl)) (by first | exact flatv5 (by omega) (by omega) | exact flatv3 (by omega) (by omega) | exact flatv2 (by omega) (by omega) | exact flatv6 (by omega) (by omega) | exact flatv4 (by omega) (by omega) | exact flatw1 (by omega) (by omega) | exact flatw0 (by omega) (by omega) | exact flatw7 | exact rfl) (fun hp K O => ?_)
  refine wp_aload_n (pc := 7) dX12_goDeath_7 rfl ?_
  refine wp_bipush (pc := 8) (y := 48) dX12_goDeath_8 (by decide) ?_
  refine wp_iload_n (pc := 10) dX12_goDeath_10 rfl ?_
  refine wp_iadd (pc := 11) dX12_goDeath_11 ?_
  refine wp_bipush (pc := 12) (y := 99) dX12_goDeath_12 (by decide) ?_
  refine wp_aload_n (pc := 14) dX12_goDeath_14 rfl ?_
  refine wp_bipush (pc := 15) (y := 48) dX12_goDeath_15 (by decide) ?_
  refine wp_iload_n (pc := 17) dX12_goDeath_17 rfl ?_
  refine wp_iadd (pc := 18) dX12_goDeath_18 ?_
  refine wm_iald dX12_goDeath_19 K (by first | rfl | assumption) (by first | decide | omega) (by first | decide | omega) (by decide) (by omega) (by omega) (by repeat (first | assumption | exact upA_eq | (apply upA_ne; first | decide | omega) | (apply SA_at; assumption; first | decide | (simp; omega)) | exact rfl)) (by first | exact flat5 (by omega) (by omega) | exact flat3 (by omega) (by omega) | exact flat2 (by omega) (by omega) | exact flat6 (by omega) (by omega) | exact flat4 (by omega) (by omega) | exact flat1 (by omega) (by omega) | exact flat0 (by omega) (by omega) | exact flat7 | exact rfl) ?_
  refine wp_topE (show up T 5 x y 4 x = T 4 x from rfl) ?_
  refine wp_iconst (pc := 20) dX12_goDeath_20 ?_
  refine wp_iadd (pc := 21) dX12_goDeath_21 ?_
  refine wp_min (pc := 22) dX12_goDeath_22 ml_X12_194 ma_min_s ma_ini ma_min_c (by decide) (by decide) (by decide) (by decide) (Nat.le_of_ble_eq_true rfl) (by first | omega | exact TI.i5 (by assumption) | exact TI.i3 (by assumption) | exact TI.i2 (by assumption) | exact TI.i1 (by assumption) | exact TI.i0 (by assumption) | exact TI.i4 (by assumption) | exact TI.i6 (by assumption) | exact TI.i7 (by assumption)) (by first | omega | exact TI.i5 (by assumption) | exact TI.i3 (by assumption) | exact TI.i2 (by assumption) | exact TI.i1 (by assumption) | exact TI.i0 (by assumption) | exact TI.i4 (by assumption) | exact TI.i6 (by assumption) | exact TI.i7 (by assumption)) ?_
  refine wm_iast dX12_goDeath_25 K O (by first | rfl | assumption) (by first | decide | omega) (by first | decide | omega) (by decide) (by omega) (by omega) (by repeat (first | assumption | exact upA_eq | (apply upA_ne; first | decide | omega) | (apply SA_at; assumption; first | decide | (simp; omega)) | exact rfl)) (by first | exact flatv5 (by omega) (by omega) | exact flatv3 (by omega) (by omega) | exact flatv2 (by omega) (by omega) | exact flatv6 (by omega) (by omega) | exact flatv4 (by omega) (by omega) | exact flatw1 (by omega) (by omega) | exact flatw0 (by omega) (by omega) | exact flatw7 | exact rfl) (fun hp K O => ?_)
  rw [upA_upA] at K
  refine wp_aload_n (pc := 26) dX12_goDeath_26 rfl ?_
  refine wp_bipush (pc := 27) (y := 60) dX12_goDeath_27 (by decide) ?_
  refine wp_iload_n (pc := 29) dX12_goDeath_29 rfl ?_
  refine wp_iadd (pc := 30) dX12_goDeath_30 ?_
  refine wp_iconst (pc := 31) dX12_goDeath_31 ?_
  refine wm_iast dX12_goDeath_32 K O (by first | rfl | assumption) (by first | decide | omega) (by first | decide | omega) (by decide) (by omega) (by omega) (by repeat (first | assumption | exact upA_eq | (apply upA_ne; first | decide | omega) | (apply SA_at; assumption; first | decide | (simp; omega)) | exact rfl)) (by first | exact flatv5 (by omega) (by omega) | exact flatv3 (by omega) (by omega) | exact flatv2 (by omega) (by omega) | exact flatv6 (by omega) (by omega) | exact flatv4 (by omega) (by omega) | exact flatw1 (by omega) (by omega) | exact flatw0 (by omega) (by omega) | exact flatw7 | exact rfl) (fun hp K O => ?_)
  rw [upA_upA] at K
  exact wp_vr (pc := 33) dX12_goDeath_33 rfl (by decide) (by decide) (by first | exact ⟨K, O⟩ | rfl)
theorem sp_Ref_refusesCough (K : ModAt hp q V A rd rl) (m1 : V 1 = (N : Int)) (hI : TI T N) (ha : a = 1 ∨ a = 10) (hA : A a = flat T) (rx : InR x) : Sp g MX12_refusesCough (rm 2 0 0) [.ref q, .ref (q + a), .int (I x)] hp (Pur (.int (I (if ¬ (0 ≤ x ∧ x < N) then -1 else if T 5 x = 0 then -2 else 0))) hp) := by
  have hm := mty_n ha
  have hN := hI.men.2
  have h5 := hI.r5 x
  refine Sp_mk rfl (Nat.le_of_ble_eq_true rfl) ?_
  show wp g _ _ _ 0 0 0 [some (.ref q), some (.ref (q + a)), some (.int (I x))] [] hp
  have O := SO.rf (hp := hp) (lo := q) (hi := q + 25)
  refine wp_aload_n (pc := 0) dX12_refusesCough_0 rfl ?_
  refine wp_iload_n (pc := 1) dX12_refusesCough_1 rfl ?_
  refine wp_Vp (pc := 2) dX12_refusesCough_2 cl_X12_99 (sp_Ref_isMan (by first | assumption | omega | (repeat (first | assumption | exact pv10 | exact pv11 | (apply pv_o; decide; decide) | exact upN_eq | (apply upN_ne; decide) | (apply SV_at; assumption; decide) | exact upA_eq | (apply upA_ne; first | decide | omega) | (apply SA_at; assumption; first | decide | (simp; omega)) | exact rfl))) (by first | assumption | omega | (repeat (first | assumption | exact pv10 | exact pv11 | (apply pv_o; decide; decide) | exact upN_eq | (apply upN_ne; decide) | (apply SV_at; assumption; decide) | exact upA_eq | (apply upA_ne; first | decide | omega) | (apply SA_at; assumption; first | decide | (simp; omega)) | exact rfl))) (by first | assumption | omega | (repeat (first | assumption | exact pv10 | exact pv11 | (apply pv_o; decide; decide) | exact upN_eq | (apply upN_ne; decide) | (apply SV_at; assumption; decide) | exact upA_eq | (apply upA_ne; first | decide | omega) | (apply SA_at; assumption; first | decide | (simp; omega)) | exact rfl))) (by first | assumption | omega | (repeat (first | assumption | exact pv10 | exact pv11 | (apply pv_o; decide; decide) | exact upN_eq | (apply upN_ne; decide) | (apply SV_at; assumption; decide) | exact upA_eq | (apply upA_ne; first | decide | omega) | (apply SA_at; assumption; first | decide | (simp; omega)) | exact rfl)))) rfl rfl K.1 (by rfl) (by decide) (Nat.le_of_ble_eq_true rfl) ?_
  first | refine wp_ifb_ne (pc := 5) 10 dX12_refusesCough_5 (by decide) (fun c5 => ?_) (fun c5 => ?_) | refine wp_if_ne (pc := 5) 10 dX12_refusesCough_5 (by decide) (by first | omega | exact TI.i5 (by assumption) | exact TI.i3 (by assumption) | exact TI.i2 (by assumption) | exact TI.i1 (by assumption) | exact TI.i0 (by assumption) | exact TI.i4 (by assumption) | exact TI.i6 (by assumption) | exact TI.i7 (by assumption)) (fun c5 => ?_) (fun c5 => ?_)
  ·
    refine wp_aload_n (pc := 10) dX12_refusesCough_10 rfl ?_
    refine wp_bipush (pc := 11) (y := 54) dX12_refusesCough_11 (by decide) ?_
    refine wp_iload_n (pc := 13) dX12_refusesCough_13 rfl ?_
    refine wp_iadd (pc := 14) dX12_refusesCough_14 ?_
    refine wm_iald dX12_refusesCough_15 K (by first | rfl | assumption) (by first | decide | omega) (by first | decide | omega) (by decide) (by omega) (by omega) (by repeat (first | assumption | exact upA_eq | (apply upA_ne; first | decide | omega) | (apply SA_at; assumption; first | decide | (simp; omega)) | exact rfl)) (by first | exact flat5 (by omega) (by omega) | exact flat3 (by omega) (by omega) | exact flat2 (by omega) (by omega) | exact flat6 (by omega) (by omega) | exact flat4 (by omega) (by omega) | exact flat1 (by omega) (by omega) | exact flat0 (by omega) (by omega) | exact flat7 | exact rfl) ?_
    refine wp_if_le (pc := 16) 23 dX12_refusesCough_16 (by decide) (by first | omega | exact TI.i5 (by assumption) | exact TI.i3 (by assumption) | exact TI.i2 (by assumption) | exact TI.i1 (by assumption) | exact TI.i0 (by assumption) | exact TI.i4 (by assumption) | exact TI.i6 (by assumption) | exact TI.i7 (by assumption)) (fun c16 => ?_) (fun c16 => ?_)
    ·
      refine wp_bipush (pc := 23) (y := (-2)) dX12_refusesCough_23 (by decide) ?_
      exact wp_ir (pc := 25) dX12_refusesCough_25 rfl (by decide) (by decide) (by (repeat' split) <;> omega) (by first | exact ⟨K, O⟩ | rfl)
    ·
      refine wp_iconst (pc := 19) dX12_refusesCough_19 ?_
      refine wp_goto (pc := 20) 25 dX12_refusesCough_20 (by decide) ?_
      exact wp_ir (pc := 25) dX12_refusesCough_25 rfl (by decide) (by decide) (by (repeat' split) <;> omega) (by first | exact ⟨K, O⟩ | rfl)
  ·
    refine wp_iconst (pc := 8) dX12_refusesCough_8 ?_
    exact wp_ir (pc := 9) dX12_refusesCough_9 rfl (by decide) (by decide) (by (repeat' split) <;> omega) (by first | exact ⟨K, O⟩ | rfl)
theorem sp_Ref_goCough (K : ModAt hp q V A rd rl) (hI : TI T N) (ha : a = 1 ∨ a = 10) (hA : A a = flat T) (rx : 0 ≤ x ∧ x < 6) : Sp g MX12_goCough (rm 0 0 0) [.ref (q + a), .int (I x)] hp (Vod (fun hp2 => ModAt hp2 q V (upA A a (flat (up (up T 5 x 0) 3 x (T 3 x / 2)))) rd rl ∧ SO hp hp2 q (q + 25))) := by
  have hm := mty_n ha
  have h3 := hI.r3 x
  refine Sp_mk rfl (Nat.le_of_ble_eq_true rfl) ?_
  show wp g _ _ _ 0 0 0 [some (.ref (q + a)), some (.int (I x))] [] hp
  have O := SO.rf (hp := hp) (lo := q) (hi := q + 25)
  refine wp_aload_n (pc := 0) dX12_goCough_0 rfl ?_
  refine wp_bipush (pc := 1) (y := 54) dX12_goCough_1 (by decide) ?_
  refine wp_iload_n (pc := 3) dX12_goCough_3 rfl ?_
  refine wp_iadd (pc := 4) dX12_goCough_4 ?_
  refine wp_iconst (pc := 5) dX12_goCough_5 ?_
  refine wm_iast dX12_goCough_6 K O (by first | rfl | assumption) (by first | decide | omega) (by first | decide | omega) (by decide) (by omega) (by omega) (by repeat (first | assumption | exact upA_eq | (apply upA_ne; first | decide | omega) | (apply SA_at; assumption; first | decide | (simp; omega)) | exact rfl)) (by first | exact flatv5 (by omega) (by omega) | exact flatv3 (by omega) (by omega) | exact flatv2 (by omega) (by omega) | exact flatv6 (by omega) (by omega) | exact flatv4 (by omega) (by omega) | exact flatw1 (by omega) (by omega) | exact flatw0 (by omega) (by omega) | exact flatw7 | exact rfl) (fun hp K O => ?_)
  refine wp_aload_n (pc := 7) dX12_goCough_7 rfl ?_
  refine wp_bipush (pc := 8) (y := 42) dX12_goCough_8 (by decide) ?_
  refine wp_iload_n (pc := 10) dX12_goCough_10 rfl ?_
  refine wp_iadd (pc := 11) dX12_goCough_11 ?_
  first | refine wp_dup2 (pc := 12) dX12_goCough_12 rfl rfl ?_ | refine wp_dup2l (pc := 12) dX12_goCough_12 rfl ?_
  refine wm_iald dX12_goCough_13 K (by first | rfl | assumption) (by first | decide | omega) (by first | decide | omega) (by decide) (by omega) (by omega) (by repeat (first | assumption | exact upA_eq | (apply upA_ne; first | decide | omega) | (apply SA_at; assumption; first | decide | (simp; omega)) | exact rfl)) (by first | exact flat5 (by omega) (by omega) | exact flat3 (by omega) (by omega) | exact flat2 (by omega) (by omega) | exact flat6 (by omega) (by omega) | exact flat4 (by omega) (by omega) | exact flat1 (by omega) (by omega) | exact flat0 (by omega) (by omega) | exact flat7 | exact rfl) ?_
  refine wp_topE (show up T 5 x 0 3 x = T 3 x from rfl) ?_
  refine wp_iconst (pc := 14) dX12_goCough_14 ?_
  refine wp_idiv (pc := 15) dX12_goCough_15 (by decide) (I_div (by omega) (by omega) (by omega) (by omega)) ?_
  refine wm_iast dX12_goCough_16 K O (by first | rfl | assumption) (by first | decide | omega) (by first | decide | omega) (by decide) (by omega) (by omega) (by repeat (first | assumption | exact upA_eq | (apply upA_ne; first | decide | omega) | (apply SA_at; assumption; first | decide | (simp; omega)) | exact rfl)) (by first | exact flatv5 (by omega) (by omega) | exact flatv3 (by omega) (by omega) | exact flatv2 (by omega) (by omega) | exact flatv6 (by omega) (by omega) | exact flatv4 (by omega) (by omega) | exact flatw1 (by omega) (by omega) | exact flatw0 (by omega) (by omega) | exact flatw7 | exact rfl) (fun hp K O => ?_)
  rw [upA_upA] at K
  exact wp_vr (pc := 17) dX12_goCough_17 rfl (by decide) (by decide) (by first | exact ⟨K, O⟩ | rfl)
theorem sp_Ref_refusesLoan (K : ModAt hp q V A rd rl) (m1 : V 1 = (N : Int)) (hI : TI T N) (hA : A 1 = flat T) (rx : InR x) (ry : InR y) (rz : InR z) : Sp g MX12_refusesLoan (rm 3 0 0) [.ref q, .int (I x), .int (I y), .int (I z)] hp (Pur (.int (I (if ¬ (0 ≤ x ∧ x < N ∧ 0 ≤ y ∧ y < N ∧ x ≠ y ∧ 1 ≤ z ∧ z ≤ 99) then -1 else if ¬ (T 5 x = 0 ∧ T 5 y = 0) then -4 else if T 2 x < z then -2 else if 99 < T 1 (y * 6 + x) + z ∨ 99 < T 2 y + z then -3 else 0))) hp) := by
  have hN := hI.men.2
  have h5 := hI.r5 x
  have h5y := hI.r5 y
  have h2 := hI.r2 x
  have h2y := hI.r2 y
  have h1 := hI.r1 (y * 6 + x)
  refine Sp_mk rfl (Nat.le_of_ble_eq_true rfl) ?_
  show wp g _ _ _ 0 0 0 [some (.ref q), some (.int (I x)), some (.int (I y)), some (.int (I z))] [] hp
  have O := SO.rf (hp := hp) (lo := q) (hi := q + 25)
  refine wp_aload_n (pc := 0) dX12_refusesLoan_0 rfl ?_
  refine wp_iload_n (pc := 1) dX12_refusesLoan_1 rfl ?_
  refine wp_iload_n (pc := 2) dX12_refusesLoan_2 rfl ?_
  refine wp_Vp (pc := 3) dX12_refusesLoan_3 cl_X12_212 (sp_Ref_areTwo (by first | assumption | omega | (repeat (first | assumption | exact pv10 | exact pv11 | (apply pv_o; decide; decide) | exact upN_eq | (apply upN_ne; decide) | (apply SV_at; assumption; decide) | exact upA_eq | (apply upA_ne; first | decide | omega) | (apply SA_at; assumption; first | decide | (simp; omega)) | exact rfl))) (by first | assumption | omega | (repeat (first | assumption | exact pv10 | exact pv11 | (apply pv_o; decide; decide) | exact upN_eq | (apply upN_ne; decide) | (apply SV_at; assumption; decide) | exact upA_eq | (apply upA_ne; first | decide | omega) | (apply SA_at; assumption; first | decide | (simp; omega)) | exact rfl))) (by first | assumption | omega | (repeat (first | assumption | exact pv10 | exact pv11 | (apply pv_o; decide; decide) | exact upN_eq | (apply upN_ne; decide) | (apply SV_at; assumption; decide) | exact upA_eq | (apply upA_ne; first | decide | omega) | (apply SA_at; assumption; first | decide | (simp; omega)) | exact rfl))) (by first | assumption | omega | (repeat (first | assumption | exact pv10 | exact pv11 | (apply pv_o; decide; decide) | exact upN_eq | (apply upN_ne; decide) | (apply SV_at; assumption; decide) | exact upA_eq | (apply upA_ne; first | decide | omega) | (apply SA_at; assumption; first | decide | (simp; omega)) | exact rfl))) (by first | assumption | omega | (repeat (first | assumption | exact pv10 | exact pv11 | (apply pv_o; decide; decide) | exact upN_eq | (apply upN_ne; decide) | (apply SV_at; assumption; decide) | exact upA_eq | (apply upA_ne; first | decide | omega) | (apply SA_at; assumption; first | decide | (simp; omega)) | exact rfl)))) rfl rfl K.1 (by rfl) (by decide) (Nat.le_of_ble_eq_true rfl) ?_
  first | refine wp_ifb_eq (pc := 6) 19 dX12_refusesLoan_6 (by decide) (fun c6 => ?_) (fun c6 => ?_) | refine wp_if_eq (pc := 6) 19 dX12_refusesLoan_6 (by decide) (by first | omega | exact TI.i5 (by assumption) | exact TI.i3 (by assumption) | exact TI.i2 (by assumption) | exact TI.i1 (by assumption) | exact TI.i0 (by assumption) | exact TI.i4 (by assumption) | exact TI.i6 (by assumption) | exact TI.i7 (by assumption)) (fun c6 => ?_) (fun c6 => ?_)
  ·
    refine wp_iconst (pc := 19) dX12_refusesLoan_19 ?_
    exact wp_ir (pc := 20) dX12_refusesLoan_20 rfl (by decide) (by decide) (by (repeat' split) <;> omega) (by first | exact ⟨K, O⟩ | rfl)
  ·
    refine wp_iload_n (pc := 9) dX12_refusesLoan_9 rfl ?_
    refine wp_iconst (pc := 10) dX12_refusesLoan_10 ?_
    refine wp_bipush (pc := 11) (y := 99) dX12_refusesLoan_11 (by decide) ?_
    refine wp_Sp (pc := 13) dX12_refusesLoan_13 cl_X12_95 (sp_Ref_in (by first | assumption | omega | (repeat (first | assumption | exact pv10 | exact pv11 | (apply pv_o; decide; decide) | exact upN_eq | (apply upN_ne; decide) | (apply SV_at; assumption; decide) | exact upA_eq | (apply upA_ne; first | decide | omega) | (apply SA_at; assumption; first | decide | (simp; omega)) | exact rfl))) (by first | assumption | omega | (repeat (first | assumption | exact pv10 | exact pv11 | (apply pv_o; decide; decide) | exact upN_eq | (apply upN_ne; decide) | (apply SV_at; assumption; decide) | exact upA_eq | (apply upA_ne; first | decide | omega) | (apply SA_at; assumption; first | decide | (simp; omega)) | exact rfl))) (by first | assumption | omega | (repeat (first | assumption | exact pv10 | exact pv11 | (apply pv_o; decide; decide) | exact upN_eq | (apply upN_ne; decide) | (apply SV_at; assumption; decide) | exact upA_eq | (apply upA_ne; first | decide | omega) | (apply SA_at; assumption; first | decide | (simp; omega)) | exact rfl)))) rfl rfl (by decide) (Nat.le_of_ble_eq_true rfl) ?_
    first | refine wp_ifb_ne (pc := 16) 21 dX12_refusesLoan_16 (by decide) (fun c16 => ?_) (fun c16 => ?_) | refine wp_if_ne (pc := 16) 21 dX12_refusesLoan_16 (by decide) (by first | omega | exact TI.i5 (by assumption) | exact TI.i3 (by assumption) | exact TI.i2 (by assumption) | exact TI.i1 (by assumption) | exact TI.i0 (by assumption) | exact TI.i4 (by assumption) | exact TI.i6 (by assumption) | exact TI.i7 (by assumption)) (fun c16 => ?_) (fun c16 => ?_)
    ·
      refine wp_aload_n (pc := 21) dX12_refusesLoan_21 rfl ?_
      refine wm_get dX12_refusesLoan_22 gf_X12_9 K (by rfl) ?_
      refine wp_bipush (pc := 25) (y := 54) dX12_refusesLoan_25 (by decide) ?_
      refine wp_iload_n (pc := 27) dX12_refusesLoan_27 rfl ?_
      refine wp_iadd (pc := 28) dX12_refusesLoan_28 ?_
      refine wm_iald dX12_refusesLoan_29 K (by first | rfl | assumption) (by first | decide | omega) (by first | decide | omega) (by decide) (by omega) (by omega) (by repeat (first | assumption | exact upA_eq | (apply upA_ne; first | decide | omega) | (apply SA_at; assumption; first | decide | (simp; omega)) | exact rfl)) (by first | exact flat5 (by omega) (by omega) | exact flat3 (by omega) (by omega) | exact flat2 (by omega) (by omega) | exact flat6 (by omega) (by omega) | exact flat4 (by omega) (by omega) | exact flat1 (by omega) (by omega) | exact flat0 (by omega) (by omega) | exact flat7 | exact rfl) ?_
      refine wp_if_gt (pc := 30) 45 dX12_refusesLoan_30 (by decide) (by first | omega | exact TI.i5 (by assumption) | exact TI.i3 (by assumption) | exact TI.i2 (by assumption) | exact TI.i1 (by assumption) | exact TI.i0 (by assumption) | exact TI.i4 (by assumption) | exact TI.i6 (by assumption) | exact TI.i7 (by assumption)) (fun c30 => ?_) (fun c30 => ?_)
      ·
        refine wp_bipush (pc := 45) (y := (-4)) dX12_refusesLoan_45 (by decide) ?_
        exact wp_ir (pc := 47) dX12_refusesLoan_47 rfl (by decide) (by decide) (by (repeat' split) <;> omega) (by first | exact ⟨K, O⟩ | rfl)
      ·
        refine wp_aload_n (pc := 33) dX12_refusesLoan_33 rfl ?_
        refine wm_get dX12_refusesLoan_34 gf_X12_9 K (by rfl) ?_
        refine wp_bipush (pc := 37) (y := 54) dX12_refusesLoan_37 (by decide) ?_
        refine wp_iload_n (pc := 39) dX12_refusesLoan_39 rfl ?_
        refine wp_iadd (pc := 40) dX12_refusesLoan_40 ?_
        refine wm_iald dX12_refusesLoan_41 K (by first | rfl | assumption) (by first | decide | omega) (by first | decide | omega) (by decide) (by omega) (by omega) (by repeat (first | assumption | exact upA_eq | (apply upA_ne; first | decide | omega) | (apply SA_at; assumption; first | decide | (simp; omega)) | exact rfl)) (by first | exact flat5 (by omega) (by omega) | exact flat3 (by omega) (by omega) | exact flat2 (by omega) (by omega) | exact flat6 (by omega) (by omega) | exact flat4 (by omega) (by omega) | exact flat1 (by omega) (by omega) | exact flat0 (by omega) (by omega) | exact flat7 | exact rfl) ?_
        refine wp_if_le (pc := 42) 48 dX12_refusesLoan_42 (by decide) (by first | omega | exact TI.i5 (by assumption) | exact TI.i3 (by assumption) | exact TI.i2 (by assumption) | exact TI.i1 (by assumption) | exact TI.i0 (by assumption) | exact TI.i4 (by assumption) | exact TI.i6 (by assumption) | exact TI.i7 (by assumption)) (fun c42 => ?_) (fun c42 => ?_)
        ·
          refine wp_aload_n (pc := 48) dX12_refusesLoan_48 rfl ?_
          refine wm_get dX12_refusesLoan_49 gf_X12_9 K (by rfl) ?_
          refine wp_bipush (pc := 52) (y := 36) dX12_refusesLoan_52 (by decide) ?_
          refine wp_iload_n (pc := 54) dX12_refusesLoan_54 rfl ?_
          refine wp_iadd (pc := 55) dX12_refusesLoan_55 ?_
          refine wm_iald dX12_refusesLoan_56 K (by first | rfl | assumption) (by first | decide | omega) (by first | decide | omega) (by decide) (by omega) (by omega) (by repeat (first | assumption | exact upA_eq | (apply upA_ne; first | decide | omega) | (apply SA_at; assumption; first | decide | (simp; omega)) | exact rfl)) (by first | exact flat5 (by omega) (by omega) | exact flat3 (by omega) (by omega) | exact flat2 (by omega) (by omega) | exact flat6 (by omega) (by omega) | exact flat4 (by omega) (by omega) | exact flat1 (by omega) (by omega) | exact flat0 (by omega) (by omega) | exact flat7 | exact rfl) ?_
          refine wp_iload_n (pc := 57) dX12_refusesLoan_57 rfl ?_
          refine wp_icmp_ge (pc := 58) 64 dX12_refusesLoan_58 (by decide) (by first | omega | exact TI.i5 (by assumption) | exact TI.i3 (by assumption) | exact TI.i2 (by assumption) | exact TI.i1 (by assumption) | exact TI.i0 (by assumption) | exact TI.i4 (by assumption) | exact TI.i6 (by assumption) | exact TI.i7 (by assumption)) (by first | omega | exact TI.i5 (by assumption) | exact TI.i3 (by assumption) | exact TI.i2 (by assumption) | exact TI.i1 (by assumption) | exact TI.i0 (by assumption) | exact TI.i4 (by assumption) | exact TI.i6 (by assumption) | exact TI.i7 (by assumption)) (fun c58 => ?_) (fun c58 => ?_)
          ·
            refine wp_aload_n (pc := 64) dX12_refusesLoan_64 rfl ?_
            refine wm_get dX12_refusesLoan_65 gf_X12_9 K (by rfl) ?_
            refine wp_bipush (pc := 68) (y := 36) dX12_refusesLoan_68 (by decide) ?_
            refine wp_iload_n (pc := 70) dX12_refusesLoan_70 rfl ?_
            refine wp_iadd (pc := 71) dX12_refusesLoan_71 ?_
            refine wm_iald dX12_refusesLoan_72 K (by first | rfl | assumption) (by first | decide | omega) (by first | decide | omega) (by decide) (by omega) (by omega) (by repeat (first | assumption | exact upA_eq | (apply upA_ne; first | decide | omega) | (apply SA_at; assumption; first | decide | (simp; omega)) | exact rfl)) (by first | exact flat5 (by omega) (by omega) | exact flat3 (by omega) (by omega) | exact flat2 (by omega) (by omega) | exact flat6 (by omega) (by omega) | exact flat4 (by omega) (by omega) | exact flat1 (by omega) (by omega) | exact flat0 (by omega) (by omega) | exact flat7 | exact rfl) ?_
            refine wp_iload_n (pc := 73) dX12_refusesLoan_73 rfl ?_
            refine wp_iadd (pc := 74) dX12_refusesLoan_74 ?_
            refine wp_bipush (pc := 75) (y := 99) dX12_refusesLoan_75 (by decide) ?_
            refine wp_icmp_gt (pc := 77) 100 dX12_refusesLoan_77 (by decide) (by first | omega | exact TI.i5 (by assumption) | exact TI.i3 (by assumption) | exact TI.i2 (by assumption) | exact TI.i1 (by assumption) | exact TI.i0 (by assumption) | exact TI.i4 (by assumption) | exact TI.i6 (by assumption) | exact TI.i7 (by assumption)) (by first | omega | exact TI.i5 (by assumption) | exact TI.i3 (by assumption) | exact TI.i2 (by assumption) | exact TI.i1 (by assumption) | exact TI.i0 (by assumption) | exact TI.i4 (by assumption) | exact TI.i6 (by assumption) | exact TI.i7 (by assumption)) (fun c77 => ?_) (fun c77 => ?_)
            ·
              refine wp_bipush (pc := 100) (y := (-3)) dX12_refusesLoan_100 (by decide) ?_
              refine wp_goto (pc := 102) 106 dX12_refusesLoan_102 (by decide) ?_
              exact wp_ir (pc := 106) dX12_refusesLoan_106 rfl (by decide) (by decide) (by (repeat' split) <;> omega) (by first | exact ⟨K, O⟩ | rfl)
            ·
              refine wp_aload_n (pc := 80) dX12_refusesLoan_80 rfl ?_
              refine wm_get dX12_refusesLoan_81 gf_X12_9 K (by rfl) ?_
              refine wp_bipush (pc := 84) (y := 66) dX12_refusesLoan_84 (by decide) ?_
              refine wp_iload_n (pc := 86) dX12_refusesLoan_86 rfl ?_
              refine wp_iload_n (pc := 87) dX12_refusesLoan_87 rfl ?_
              refine wp_Sp (pc := 88) dX12_refusesLoan_88 cl_X12_151 sp_Ref_pair rfl rfl (by decide) (Nat.le_of_ble_eq_true rfl) ?_
              refine wp_iadd (pc := 91) dX12_refusesLoan_91 ?_
              refine wm_iald dX12_refusesLoan_92 K (by first | rfl | assumption) (by first | decide | omega) (by first | decide | omega) (by decide) (by omega) (by omega) (by repeat (first | assumption | exact upA_eq | (apply upA_ne; first | decide | omega) | (apply SA_at; assumption; first | decide | (simp; omega)) | exact rfl)) (by first | exact flat5 (by omega) (by omega) | exact flat3 (by omega) (by omega) | exact flat2 (by omega) (by omega) | exact flat6 (by omega) (by omega) | exact flat4 (by omega) (by omega) | exact flat1 (by omega) (by omega) | exact flat0 (by omega) (by omega) | exact flat7 | exact rfl) ?_
              refine wp_iload_n (pc := 93) dX12_refusesLoan_93 rfl ?_
              refine wp_iadd (pc := 94) dX12_refusesLoan_94 ?_
              refine wp_bipush (pc := 95) (y := 99) dX12_refusesLoan_95 (by decide) ?_
              refine wp_icmp_le (pc := 97) 105 dX12_refusesLoan_97 (by decide) (by first | omega | exact TI.i5 (by assumption) | exact TI.i3 (by assumption) | exact TI.i2 (by assumption) | exact TI.i1 (by assumption) | exact TI.i0 (by assumption) | exact TI.i4 (by assumption) | exact TI.i6 (by assumption) | exact TI.i7 (by assumption)) (by first | omega | exact TI.i5 (by assumption) | exact TI.i3 (by assumption) | exact TI.i2 (by assumption) | exact TI.i1 (by assumption) | exact TI.i0 (by assumption) | exact TI.i4 (by assumption) | exact TI.i6 (by assumption) | exact TI.i7 (by assumption)) (fun c97 => ?_) (fun c97 => ?_)
              ·
                refine wp_iconst (pc := 105) dX12_refusesLoan_105 ?_
                exact wp_ir (pc := 106) dX12_refusesLoan_106 rfl (by decide) (by decide) (by (repeat' split) <;> omega) (by first | exact ⟨K, O⟩ | rfl)
              ·
                refine wp_bipush (pc := 100) (y := (-3)) dX12_refusesLoan_100 (by decide) ?_
                refine wp_goto (pc := 102) 106 dX12_refusesLoan_102 (by decide) ?_
                exact wp_ir (pc := 106) dX12_refusesLoan_106 rfl (by decide) (by decide) (by (repeat' split) <;> omega) (by first | exact ⟨K, O⟩ | rfl)
          ·
            refine wp_bipush (pc := 61) (y := (-2)) dX12_refusesLoan_61 (by decide) ?_
            exact wp_ir (pc := 63) dX12_refusesLoan_63 rfl (by decide) (by decide) (by (repeat' split) <;> omega) (by first | exact ⟨K, O⟩ | rfl)
        ·
          refine wp_bipush (pc := 45) (y := (-4)) dX12_refusesLoan_45 (by decide) ?_
          exact wp_ir (pc := 47) dX12_refusesLoan_47 rfl (by decide) (by decide) (by (repeat' split) <;> omega) (by first | exact ⟨K, O⟩ | rfl)
    ·
      refine wp_iconst (pc := 19) dX12_refusesLoan_19 ?_
      exact wp_ir (pc := 20) dX12_refusesLoan_20 rfl (by decide) (by decide) (by (repeat' split) <;> omega) (by first | exact ⟨K, O⟩ | rfl)
theorem sp_Ref_goLoan (K : ModAt hp q V A rd rl) (hI : TI T N) (hA : A 1 = flat T) (rx : 0 ≤ x ∧ x < 6) (ry : 0 ≤ y ∧ y < 6) : Sp g MX12_goLoan (rm 1 0 0) [.ref q, .int (I x), .int (I y), .int (I z)] hp (Vod (fun hp2 => ModAt hp2 q V (upA A 1 (flat (up (monT T x y z) 1 (y * 6 + x) (T 1 (y * 6 + x) + z)))) rd rl ∧ SO hp hp2 q (q + 25))) := by
  refine Sp_mk rfl (Nat.le_of_ble_eq_true rfl) ?_
  show wp g _ _ _ 0 0 0 [some (.ref q), some (.int (I x)), some (.int (I y)), some (.int (I z))] [] hp
  have O := SO.rf (hp := hp) (lo := q) (hi := q + 25)
  refine wp_aload_n (pc := 0) dX12_goLoan_0 rfl ?_
  refine wm_get dX12_goLoan_1 gf_X12_9 K (by rfl) ?_
  refine wp_bipush (pc := 4) (y := 36) dX12_goLoan_4 (by decide) ?_
  refine wp_iload_n (pc := 6) dX12_goLoan_6 rfl ?_
  refine wp_iadd (pc := 7) dX12_goLoan_7 ?_
  first | refine wp_dup2 (pc := 8) dX12_goLoan_8 rfl rfl ?_ | refine wp_dup2l (pc := 8) dX12_goLoan_8 rfl ?_
  refine wm_iald dX12_goLoan_9 K (by first | rfl | assumption) (by first | decide | omega) (by first | decide | omega) (by decide) (by omega) (by omega) (by repeat (first | assumption | exact upA_eq | (apply upA_ne; first | decide | omega) | (apply SA_at; assumption; first | decide | (simp; omega)) | exact rfl)) (by first | exact flat5 (by omega) (by omega) | exact flat3 (by omega) (by omega) | exact flat2 (by omega) (by omega) | exact flat6 (by omega) (by omega) | exact flat4 (by omega) (by omega) | exact flat1 (by omega) (by omega) | exact flat0 (by omega) (by omega) | exact flat7 | exact rfl) ?_
  refine wp_iload_n (pc := 10) dX12_goLoan_10 rfl ?_
  refine wp_isub (pc := 11) dX12_goLoan_11 ?_
  refine wm_iast dX12_goLoan_12 K O (by first | rfl | assumption) (by first | decide | omega) (by first | decide | omega) (by decide) (by omega) (by omega) (by repeat (first | assumption | exact upA_eq | (apply upA_ne; first | decide | omega) | (apply SA_at; assumption; first | decide | (simp; omega)) | exact rfl)) (by first | exact flatv5 (by omega) (by omega) | exact flatv3 (by omega) (by omega) | exact flatv2 (by omega) (by omega) | exact flatv6 (by omega) (by omega) | exact flatv4 (by omega) (by omega) | exact flatw1 (by omega) (by omega) | exact flatw0 (by omega) (by omega) | exact flatw7 | exact rfl) (fun hp K O => ?_)
  refine wp_aload_n (pc := 13) dX12_goLoan_13 rfl ?_
  refine wm_get dX12_goLoan_14 gf_X12_9 K (by rfl) ?_
  refine wp_bipush (pc := 17) (y := 36) dX12_goLoan_17 (by decide) ?_
  refine wp_iload_n (pc := 19) dX12_goLoan_19 rfl ?_
  refine wp_iadd (pc := 20) dX12_goLoan_20 ?_
  first | refine wp_dup2 (pc := 21) dX12_goLoan_21 rfl rfl ?_ | refine wp_dup2l (pc := 21) dX12_goLoan_21 rfl ?_
  refine wm_iald dX12_goLoan_22 K (by first | rfl | assumption) (by first | decide | omega) (by first | decide | omega) (by decide) (by omega) (by omega) (by repeat (first | assumption | exact upA_eq | (apply upA_ne; first | decide | omega) | (apply SA_at; assumption; first | decide | (simp; omega)) | exact rfl)) (by first | exact flat5 (by omega) (by omega) | exact flat3 (by omega) (by omega) | exact flat2 (by omega) (by omega) | exact flat6 (by omega) (by omega) | exact flat4 (by omega) (by omega) | exact flat1 (by omega) (by omega) | exact flat0 (by omega) (by omega) | exact flat7 | exact rfl) ?_
  refine wp_iload_n (pc := 23) dX12_goLoan_23 rfl ?_
  refine wp_iadd (pc := 24) dX12_goLoan_24 ?_
  refine wm_iast dX12_goLoan_25 K O (by first | rfl | assumption) (by first | decide | omega) (by first | decide | omega) (by decide) (by omega) (by omega) (by repeat (first | assumption | exact upA_eq | (apply upA_ne; first | decide | omega) | (apply SA_at; assumption; first | decide | (simp; omega)) | exact rfl)) (by first | exact flatv5 (by omega) (by omega) | exact flatv3 (by omega) (by omega) | exact flatv2 (by omega) (by omega) | exact flatv6 (by omega) (by omega) | exact flatv4 (by omega) (by omega) | exact flatw1 (by omega) (by omega) | exact flatw0 (by omega) (by omega) | exact flatw7 | exact rfl) (fun hp K O => ?_)
  rw [upA_upA] at K
  refine wp_aload_n (pc := 26) dX12_goLoan_26 rfl ?_
  refine wm_get dX12_goLoan_27 gf_X12_9 K (by rfl) ?_
  refine wp_bipush (pc := 30) (y := 66) dX12_goLoan_30 (by decide) ?_
  refine wp_iload_n (pc := 32) dX12_goLoan_32 rfl ?_
  refine wp_iload_n (pc := 33) dX12_goLoan_33 rfl ?_
  refine wp_Sp (pc := 34) dX12_goLoan_34 cl_X12_151 sp_Ref_pair rfl rfl (by decide) (Nat.le_of_ble_eq_true rfl) ?_
  refine wp_iadd (pc := 37) dX12_goLoan_37 ?_
  first | refine wp_dup2 (pc := 38) dX12_goLoan_38 rfl rfl ?_ | refine wp_dup2l (pc := 38) dX12_goLoan_38 rfl ?_
  refine wm_iald dX12_goLoan_39 K (by first | rfl | assumption) (by first | decide | omega) (by first | decide | omega) (by decide) (by omega) (by omega) (by repeat (first | assumption | exact upA_eq | (apply upA_ne; first | decide | omega) | (apply SA_at; assumption; first | decide | (simp; omega)) | exact rfl)) (by first | exact flat5 (by omega) (by omega) | exact flat3 (by omega) (by omega) | exact flat2 (by omega) (by omega) | exact flat6 (by omega) (by omega) | exact flat4 (by omega) (by omega) | exact flat1 (by omega) (by omega) | exact flat0 (by omega) (by omega) | exact flat7 | exact rfl) ?_
  refine wp_iload_n (pc := 40) dX12_goLoan_40 rfl ?_
  refine wp_iadd (pc := 41) dX12_goLoan_41 ?_
  refine wm_iast dX12_goLoan_42 K O (by first | rfl | assumption) (by first | decide | omega) (by first | decide | omega) (by decide) (by omega) (by omega) (by repeat (first | assumption | exact upA_eq | (apply upA_ne; first | decide | omega) | (apply SA_at; assumption; first | decide | (simp; omega)) | exact rfl)) (by first | exact flatv5 (by omega) (by omega) | exact flatv3 (by omega) (by omega) | exact flatv2 (by omega) (by omega) | exact flatv6 (by omega) (by omega) | exact flatv4 (by omega) (by omega) | exact flatw1 (by omega) (by omega) | exact flatw0 (by omega) (by omega) | exact flatw7 | exact rfl) (fun hp K O => ?_)
  rw [upA_upA] at K
  exact wp_vr (pc := 43) dX12_goLoan_43 rfl (by decide) (by decide) (by first | exact ⟨K, O⟩ | rfl)
theorem sp_Ref_refusesPay (K : ModAt hp q V A rd rl) (m1 : V 1 = (N : Int)) (hI : TI T N) (hA : A 1 = flat T) (rx : InR x) (ry : InR y) (rz : InR z) : Sp g MX12_refusesPay (rm 3 0 0) [.ref q, .int (I x), .int (I y), .int (I z)] hp (Pur (.int (I (if ¬ (0 ≤ x ∧ x < N ∧ 0 ≤ y ∧ y < N ∧ x ≠ y ∧ 1 ≤ z ∧ z ≤ 99) then -1 else if ¬ (T 5 x = 0 ∧ T 5 y = 0) then -4 else if T 2 x < z then -2 else if T 1 (x * 6 + y) < z ∨ 99 < T 2 y + z then -3 else 0))) hp) := by
  have hN := hI.men.2
  have h5 := hI.r5 x
  have h5y := hI.r5 y
  have h2 := hI.r2 x
  have h2y := hI.r2 y
  have h1 := hI.r1 (x * 6 + y)
  refine Sp_mk rfl (Nat.le_of_ble_eq_true rfl) ?_
  show wp g _ _ _ 0 0 0 [some (.ref q), some (.int (I x)), some (.int (I y)), some (.int (I z))] [] hp
  have O := SO.rf (hp := hp) (lo := q) (hi := q + 25)
  refine wp_aload_n (pc := 0) dX12_refusesPay_0 rfl ?_
  refine wp_iload_n (pc := 1) dX12_refusesPay_1 rfl ?_
  refine wp_iload_n (pc := 2) dX12_refusesPay_2 rfl ?_
  refine wp_Vp (pc := 3) dX12_refusesPay_3 cl_X12_212 (sp_Ref_areTwo (by first | assumption | omega | (repeat (first | assumption | exact pv10 | exact pv11 | (apply pv_o; decide; decide) | exact upN_eq | (apply upN_ne; decide) | (apply SV_at; assumption; decide) | exact upA_eq | (apply upA_ne; first | decide | omega) | (apply SA_at; assumption; first | decide | (simp; omega)) | exact rfl))) (by first | assumption | omega | (repeat (first | assumption | exact pv10 | exact pv11 | (apply pv_o; decide; decide) | exact upN_eq | (apply upN_ne; decide) | (apply SV_at; assumption; decide) | exact upA_eq | (apply upA_ne; first | decide | omega) | (apply SA_at; assumption; first | decide | (simp; omega)) | exact rfl))) (by first | assumption | omega | (repeat (first | assumption | exact pv10 | exact pv11 | (apply pv_o; decide; decide) | exact upN_eq | (apply upN_ne; decide) | (apply SV_at; assumption; decide) | exact upA_eq | (apply upA_ne; first | decide | omega) | (apply SA_at; assumption; first | decide | (simp; omega)) | exact rfl))) (by first | assumption | omega | (repeat (first | assumption | exact pv10 | exact pv11 | (apply pv_o; decide; decide) | exact upN_eq | (apply upN_ne; decide) | (apply SV_at; assumption; decide) | exact upA_eq | (apply upA_ne; first | decide | omega) | (apply SA_at; assumption; first | decide | (simp; omega)) | exact rfl))) (by first | assumption | omega | (repeat (first | assumption | exact pv10 | exact pv11 | (apply pv_o; decide; decide) | exact upN_eq | (apply upN_ne; decide) | (apply SV_at; assumption; decide) | exact upA_eq | (apply upA_ne; first | decide | omega) | (apply SA_at; assumption; first | decide | (simp; omega)) | exact rfl)))) rfl rfl K.1 (by rfl) (by decide) (Nat.le_of_ble_eq_true rfl) ?_
  first | refine wp_ifb_eq (pc := 6) 19 dX12_refusesPay_6 (by decide) (fun c6 => ?_) (fun c6 => ?_) | refine wp_if_eq (pc := 6) 19 dX12_refusesPay_6 (by decide) (by first | omega | exact TI.i5 (by assumption) | exact TI.i3 (by assumption) | exact TI.i2 (by assumption) | exact TI.i1 (by assumption) | exact TI.i0 (by assumption) | exact TI.i4 (by assumption) | exact TI.i6 (by assumption) | exact TI.i7 (by assumption)) (fun c6 => ?_) (fun c6 => ?_)
  ·
    refine wp_iconst (pc := 19) dX12_refusesPay_19 ?_
    exact wp_ir (pc := 20) dX12_refusesPay_20 rfl (by decide) (by decide) (by (repeat' split) <;> omega) (by first | exact ⟨K, O⟩ | rfl)
  ·
    refine wp_iload_n (pc := 9) dX12_refusesPay_9 rfl ?_
    refine wp_iconst (pc := 10) dX12_refusesPay_10 ?_
    refine wp_bipush (pc := 11) (y := 99) dX12_refusesPay_11 (by decide) ?_
    refine wp_Sp (pc := 13) dX12_refusesPay_13 cl_X12_95 (sp_Ref_in (by first | assumption | omega | (repeat (first | assumption | exact pv10 | exact pv11 | (apply pv_o; decide; decide) | exact upN_eq | (apply upN_ne; decide) | (apply SV_at; assumption; decide) | exact upA_eq | (apply upA_ne; first | decide | omega) | (apply SA_at; assumption; first | decide | (simp; omega)) | exact rfl))) (by first | assumption | omega | (repeat (first | assumption | exact pv10 | exact pv11 | (apply pv_o; decide; decide) | exact upN_eq | (apply upN_ne; decide) | (apply SV_at; assumption; decide) | exact upA_eq | (apply upA_ne; first | decide | omega) | (apply SA_at; assumption; first | decide | (simp; omega)) | exact rfl))) (by first | assumption | omega | (repeat (first | assumption | exact pv10 | exact pv11 | (apply pv_o; decide; decide) | exact upN_eq | (apply upN_ne; decide) | (apply SV_at; assumption; decide) | exact upA_eq | (apply upA_ne; first | decide | omega) | (apply SA_at; assumption; first | decide | (simp; omega)) | exact rfl)))) rfl rfl (by decide) (Nat.le_of_ble_eq_true rfl) ?_
    first | refine wp_ifb_ne (pc := 16) 21 dX12_refusesPay_16 (by decide) (fun c16 => ?_) (fun c16 => ?_) | refine wp_if_ne (pc := 16) 21 dX12_refusesPay_16 (by decide) (by first | omega | exact TI.i5 (by assumption) | exact TI.i3 (by assumption) | exact TI.i2 (by assumption) | exact TI.i1 (by assumption) | exact TI.i0 (by assumption) | exact TI.i4 (by assumption) | exact TI.i6 (by assumption) | exact TI.i7 (by assumption)) (fun c16 => ?_) (fun c16 => ?_)
    ·
      refine wp_aload_n (pc := 21) dX12_refusesPay_21 rfl ?_
      refine wm_get dX12_refusesPay_22 gf_X12_9 K (by rfl) ?_
      refine wp_bipush (pc := 25) (y := 54) dX12_refusesPay_25 (by decide) ?_
      refine wp_iload_n (pc := 27) dX12_refusesPay_27 rfl ?_
      refine wp_iadd (pc := 28) dX12_refusesPay_28 ?_
      refine wm_iald dX12_refusesPay_29 K (by first | rfl | assumption) (by first | decide | omega) (by first | decide | omega) (by decide) (by omega) (by omega) (by repeat (first | assumption | exact upA_eq | (apply upA_ne; first | decide | omega) | (apply SA_at; assumption; first | decide | (simp; omega)) | exact rfl)) (by first | exact flat5 (by omega) (by omega) | exact flat3 (by omega) (by omega) | exact flat2 (by omega) (by omega) | exact flat6 (by omega) (by omega) | exact flat4 (by omega) (by omega) | exact flat1 (by omega) (by omega) | exact flat0 (by omega) (by omega) | exact flat7 | exact rfl) ?_
      refine wp_if_gt (pc := 30) 45 dX12_refusesPay_30 (by decide) (by first | omega | exact TI.i5 (by assumption) | exact TI.i3 (by assumption) | exact TI.i2 (by assumption) | exact TI.i1 (by assumption) | exact TI.i0 (by assumption) | exact TI.i4 (by assumption) | exact TI.i6 (by assumption) | exact TI.i7 (by assumption)) (fun c30 => ?_) (fun c30 => ?_)
      ·
        refine wp_bipush (pc := 45) (y := (-4)) dX12_refusesPay_45 (by decide) ?_
        exact wp_ir (pc := 47) dX12_refusesPay_47 rfl (by decide) (by decide) (by (repeat' split) <;> omega) (by first | exact ⟨K, O⟩ | rfl)
      ·
        refine wp_aload_n (pc := 33) dX12_refusesPay_33 rfl ?_
        refine wm_get dX12_refusesPay_34 gf_X12_9 K (by rfl) ?_
        refine wp_bipush (pc := 37) (y := 54) dX12_refusesPay_37 (by decide) ?_
        refine wp_iload_n (pc := 39) dX12_refusesPay_39 rfl ?_
        refine wp_iadd (pc := 40) dX12_refusesPay_40 ?_
        refine wm_iald dX12_refusesPay_41 K (by first | rfl | assumption) (by first | decide | omega) (by first | decide | omega) (by decide) (by omega) (by omega) (by repeat (first | assumption | exact upA_eq | (apply upA_ne; first | decide | omega) | (apply SA_at; assumption; first | decide | (simp; omega)) | exact rfl)) (by first | exact flat5 (by omega) (by omega) | exact flat3 (by omega) (by omega) | exact flat2 (by omega) (by omega) | exact flat6 (by omega) (by omega) | exact flat4 (by omega) (by omega) | exact flat1 (by omega) (by omega) | exact flat0 (by omega) (by omega) | exact flat7 | exact rfl) ?_
        refine wp_if_le (pc := 42) 48 dX12_refusesPay_42 (by decide) (by first | omega | exact TI.i5 (by assumption) | exact TI.i3 (by assumption) | exact TI.i2 (by assumption) | exact TI.i1 (by assumption) | exact TI.i0 (by assumption) | exact TI.i4 (by assumption) | exact TI.i6 (by assumption) | exact TI.i7 (by assumption)) (fun c42 => ?_) (fun c42 => ?_)
        ·
          refine wp_aload_n (pc := 48) dX12_refusesPay_48 rfl ?_
          refine wm_get dX12_refusesPay_49 gf_X12_9 K (by rfl) ?_
          refine wp_bipush (pc := 52) (y := 36) dX12_refusesPay_52 (by decide) ?_
          refine wp_iload_n (pc := 54) dX12_refusesPay_54 rfl ?_
          refine wp_iadd (pc := 55) dX12_refusesPay_55 ?_
          refine wm_iald dX12_refusesPay_56 K (by first | rfl | assumption) (by first | decide | omega) (by first | decide | omega) (by decide) (by omega) (by omega) (by repeat (first | assumption | exact upA_eq | (apply upA_ne; first | decide | omega) | (apply SA_at; assumption; first | decide | (simp; omega)) | exact rfl)) (by first | exact flat5 (by omega) (by omega) | exact flat3 (by omega) (by omega) | exact flat2 (by omega) (by omega) | exact flat6 (by omega) (by omega) | exact flat4 (by omega) (by omega) | exact flat1 (by omega) (by omega) | exact flat0 (by omega) (by omega) | exact flat7 | exact rfl) ?_
          refine wp_iload_n (pc := 57) dX12_refusesPay_57 rfl ?_
          refine wp_icmp_ge (pc := 58) 64 dX12_refusesPay_58 (by decide) (by first | omega | exact TI.i5 (by assumption) | exact TI.i3 (by assumption) | exact TI.i2 (by assumption) | exact TI.i1 (by assumption) | exact TI.i0 (by assumption) | exact TI.i4 (by assumption) | exact TI.i6 (by assumption) | exact TI.i7 (by assumption)) (by first | omega | exact TI.i5 (by assumption) | exact TI.i3 (by assumption) | exact TI.i2 (by assumption) | exact TI.i1 (by assumption) | exact TI.i0 (by assumption) | exact TI.i4 (by assumption) | exact TI.i6 (by assumption) | exact TI.i7 (by assumption)) (fun c58 => ?_) (fun c58 => ?_)
          ·
            refine wp_aload_n (pc := 64) dX12_refusesPay_64 rfl ?_
            refine wm_get dX12_refusesPay_65 gf_X12_9 K (by rfl) ?_
            refine wp_bipush (pc := 68) (y := 66) dX12_refusesPay_68 (by decide) ?_
            refine wp_iload_n (pc := 70) dX12_refusesPay_70 rfl ?_
            refine wp_iload_n (pc := 71) dX12_refusesPay_71 rfl ?_
            refine wp_Sp (pc := 72) dX12_refusesPay_72 cl_X12_151 sp_Ref_pair rfl rfl (by decide) (Nat.le_of_ble_eq_true rfl) ?_
            refine wp_iadd (pc := 75) dX12_refusesPay_75 ?_
            refine wm_iald dX12_refusesPay_76 K (by first | rfl | assumption) (by first | decide | omega) (by first | decide | omega) (by decide) (by omega) (by omega) (by repeat (first | assumption | exact upA_eq | (apply upA_ne; first | decide | omega) | (apply SA_at; assumption; first | decide | (simp; omega)) | exact rfl)) (by first | exact flat5 (by omega) (by omega) | exact flat3 (by omega) (by omega) | exact flat2 (by omega) (by omega) | exact flat6 (by omega) (by omega) | exact flat4 (by omega) (by omega) | exact flat1 (by omega) (by omega) | exact flat0 (by omega) (by omega) | exact flat7 | exact rfl) ?_
            refine wp_iload_n (pc := 77) dX12_refusesPay_77 rfl ?_
            refine wp_icmp_lt (pc := 78) 97 dX12_refusesPay_78 (by decide) (by first | omega | exact TI.i5 (by assumption) | exact TI.i3 (by assumption) | exact TI.i2 (by assumption) | exact TI.i1 (by assumption) | exact TI.i0 (by assumption) | exact TI.i4 (by assumption) | exact TI.i6 (by assumption) | exact TI.i7 (by assumption)) (by first | omega | exact TI.i5 (by assumption) | exact TI.i3 (by assumption) | exact TI.i2 (by assumption) | exact TI.i1 (by assumption) | exact TI.i0 (by assumption) | exact TI.i4 (by assumption) | exact TI.i6 (by assumption) | exact TI.i7 (by assumption)) (fun c78 => ?_) (fun c78 => ?_)
            ·
              refine wp_bipush (pc := 97) (y := (-3)) dX12_refusesPay_97 (by decide) ?_
              refine wp_goto (pc := 99) 103 dX12_refusesPay_99 (by decide) ?_
              exact wp_ir (pc := 103) dX12_refusesPay_103 rfl (by decide) (by decide) (by (repeat' split) <;> omega) (by first | exact ⟨K, O⟩ | rfl)
            ·
              refine wp_aload_n (pc := 81) dX12_refusesPay_81 rfl ?_
              refine wm_get dX12_refusesPay_82 gf_X12_9 K (by rfl) ?_
              refine wp_bipush (pc := 85) (y := 36) dX12_refusesPay_85 (by decide) ?_
              refine wp_iload_n (pc := 87) dX12_refusesPay_87 rfl ?_
              refine wp_iadd (pc := 88) dX12_refusesPay_88 ?_
              refine wm_iald dX12_refusesPay_89 K (by first | rfl | assumption) (by first | decide | omega) (by first | decide | omega) (by decide) (by omega) (by omega) (by repeat (first | assumption | exact upA_eq | (apply upA_ne; first | decide | omega) | (apply SA_at; assumption; first | decide | (simp; omega)) | exact rfl)) (by first | exact flat5 (by omega) (by omega) | exact flat3 (by omega) (by omega) | exact flat2 (by omega) (by omega) | exact flat6 (by omega) (by omega) | exact flat4 (by omega) (by omega) | exact flat1 (by omega) (by omega) | exact flat0 (by omega) (by omega) | exact flat7 | exact rfl) ?_
              refine wp_iload_n (pc := 90) dX12_refusesPay_90 rfl ?_
              refine wp_iadd (pc := 91) dX12_refusesPay_91 ?_
              refine wp_bipush (pc := 92) (y := 99) dX12_refusesPay_92 (by decide) ?_
              refine wp_icmp_le (pc := 94) 102 dX12_refusesPay_94 (by decide) (by first | omega | exact TI.i5 (by assumption) | exact TI.i3 (by assumption) | exact TI.i2 (by assumption) | exact TI.i1 (by assumption) | exact TI.i0 (by assumption) | exact TI.i4 (by assumption) | exact TI.i6 (by assumption) | exact TI.i7 (by assumption)) (by first | omega | exact TI.i5 (by assumption) | exact TI.i3 (by assumption) | exact TI.i2 (by assumption) | exact TI.i1 (by assumption) | exact TI.i0 (by assumption) | exact TI.i4 (by assumption) | exact TI.i6 (by assumption) | exact TI.i7 (by assumption)) (fun c94 => ?_) (fun c94 => ?_)
              ·
                refine wp_iconst (pc := 102) dX12_refusesPay_102 ?_
                exact wp_ir (pc := 103) dX12_refusesPay_103 rfl (by decide) (by decide) (by (repeat' split) <;> omega) (by first | exact ⟨K, O⟩ | rfl)
              ·
                refine wp_bipush (pc := 97) (y := (-3)) dX12_refusesPay_97 (by decide) ?_
                refine wp_goto (pc := 99) 103 dX12_refusesPay_99 (by decide) ?_
                exact wp_ir (pc := 103) dX12_refusesPay_103 rfl (by decide) (by decide) (by (repeat' split) <;> omega) (by first | exact ⟨K, O⟩ | rfl)
          ·
            refine wp_bipush (pc := 61) (y := (-2)) dX12_refusesPay_61 (by decide) ?_
            exact wp_ir (pc := 63) dX12_refusesPay_63 rfl (by decide) (by decide) (by (repeat' split) <;> omega) (by first | exact ⟨K, O⟩ | rfl)
        ·
          refine wp_bipush (pc := 45) (y := (-4)) dX12_refusesPay_45 (by decide) ?_
          exact wp_ir (pc := 47) dX12_refusesPay_47 rfl (by decide) (by decide) (by (repeat' split) <;> omega) (by first | exact ⟨K, O⟩ | rfl)
    ·
      refine wp_iconst (pc := 19) dX12_refusesPay_19 ?_
      exact wp_ir (pc := 20) dX12_refusesPay_20 rfl (by decide) (by decide) (by (repeat' split) <;> omega) (by first | exact ⟨K, O⟩ | rfl)
theorem sp_Ref_goPay (K : ModAt hp q V A rd rl) (hI : TI T N) (hA : A 1 = flat T) (rx : 0 ≤ x ∧ x < 6) (ry : 0 ≤ y ∧ y < 6) : Sp g MX12_goPay (rm 1 0 0) [.ref q, .int (I x), .int (I y), .int (I z)] hp (Vod (fun hp2 => ModAt hp2 q V (upA A 1 (flat (up (monT T x y z) 1 (x * 6 + y) (T 1 (x * 6 + y) - z)))) rd rl ∧ SO hp hp2 q (q + 25))) := by
  refine Sp_mk rfl (Nat.le_of_ble_eq_true rfl) ?_
  show wp g _ _ _ 0 0 0 [some (.ref q), some (.int (I x)), some (.int (I y)), some (.int (I z))] [] hp
  have O := SO.rf (hp := hp) (lo := q) (hi := q + 25)
  refine wp_aload_n (pc := 0) dX12_goPay_0 rfl ?_
  refine wm_get dX12_goPay_1 gf_X12_9 K (by rfl) ?_
  refine wp_bipush (pc := 4) (y := 36) dX12_goPay_4 (by decide) ?_
  refine wp_iload_n (pc := 6) dX12_goPay_6 rfl ?_
  refine wp_iadd (pc := 7) dX12_goPay_7 ?_
  first | refine wp_dup2 (pc := 8) dX12_goPay_8 rfl rfl ?_ | refine wp_dup2l (pc := 8) dX12_goPay_8 rfl ?_
  refine wm_iald dX12_goPay_9 K (by first | rfl | assumption) (by first | decide | omega) (by first | decide | omega) (by decide) (by omega) (by omega) (by repeat (first | assumption | exact upA_eq | (apply upA_ne; first | decide | omega) | (apply SA_at; assumption; first | decide | (simp; omega)) | exact rfl)) (by first | exact flat5 (by omega) (by omega) | exact flat3 (by omega) (by omega) | exact flat2 (by omega) (by omega) | exact flat6 (by omega) (by omega) | exact flat4 (by omega) (by omega) | exact flat1 (by omega) (by omega) | exact flat0 (by omega) (by omega) | exact flat7 | exact rfl) ?_
  refine wp_iload_n (pc := 10) dX12_goPay_10 rfl ?_
  refine wp_isub (pc := 11) dX12_goPay_11 ?_
  refine wm_iast dX12_goPay_12 K O (by first | rfl | assumption) (by first | decide | omega) (by first | decide | omega) (by decide) (by omega) (by omega) (by repeat (first | assumption | exact upA_eq | (apply upA_ne; first | decide | omega) | (apply SA_at; assumption; first | decide | (simp; omega)) | exact rfl)) (by first | exact flatv5 (by omega) (by omega) | exact flatv3 (by omega) (by omega) | exact flatv2 (by omega) (by omega) | exact flatv6 (by omega) (by omega) | exact flatv4 (by omega) (by omega) | exact flatw1 (by omega) (by omega) | exact flatw0 (by omega) (by omega) | exact flatw7 | exact rfl) (fun hp K O => ?_)
  refine wp_aload_n (pc := 13) dX12_goPay_13 rfl ?_
  refine wm_get dX12_goPay_14 gf_X12_9 K (by rfl) ?_
  refine wp_bipush (pc := 17) (y := 36) dX12_goPay_17 (by decide) ?_
  refine wp_iload_n (pc := 19) dX12_goPay_19 rfl ?_
  refine wp_iadd (pc := 20) dX12_goPay_20 ?_
  first | refine wp_dup2 (pc := 21) dX12_goPay_21 rfl rfl ?_ | refine wp_dup2l (pc := 21) dX12_goPay_21 rfl ?_
  refine wm_iald dX12_goPay_22 K (by first | rfl | assumption) (by first | decide | omega) (by first | decide | omega) (by decide) (by omega) (by omega) (by repeat (first | assumption | exact upA_eq | (apply upA_ne; first | decide | omega) | (apply SA_at; assumption; first | decide | (simp; omega)) | exact rfl)) (by first | exact flat5 (by omega) (by omega) | exact flat3 (by omega) (by omega) | exact flat2 (by omega) (by omega) | exact flat6 (by omega) (by omega) | exact flat4 (by omega) (by omega) | exact flat1 (by omega) (by omega) | exact flat0 (by omega) (by omega) | exact flat7 | exact rfl) ?_
  refine wp_iload_n (pc := 23) dX12_goPay_23 rfl ?_
  refine wp_iadd (pc := 24) dX12_goPay_24 ?_
  refine wm_iast dX12_goPay_25 K O (by first | rfl | assumption) (by first | decide | omega) (by first | decide | omega) (by decide) (by omega) (by omega) (by repeat (first | assumption | exact upA_eq | (apply upA_ne; first | decide | omega) | (apply SA_at; assumption; first | decide | (simp; omega)) | exact rfl)) (by first | exact flatv5 (by omega) (by omega) | exact flatv3 (by omega) (by omega) | exact flatv2 (by omega) (by omega) | exact flatv6 (by omega) (by omega) | exact flatv4 (by omega) (by omega) | exact flatw1 (by omega) (by omega) | exact flatw0 (by omega) (by omega) | exact flatw7 | exact rfl) (fun hp K O => ?_)
  rw [upA_upA] at K
  refine wp_aload_n (pc := 26) dX12_goPay_26 rfl ?_
  refine wm_get dX12_goPay_27 gf_X12_9 K (by rfl) ?_
  refine wp_bipush (pc := 30) (y := 66) dX12_goPay_30 (by decide) ?_
  refine wp_iload_n (pc := 32) dX12_goPay_32 rfl ?_
  refine wp_iload_n (pc := 33) dX12_goPay_33 rfl ?_
  refine wp_Sp (pc := 34) dX12_goPay_34 cl_X12_151 sp_Ref_pair rfl rfl (by decide) (Nat.le_of_ble_eq_true rfl) ?_
  refine wp_iadd (pc := 37) dX12_goPay_37 ?_
  first | refine wp_dup2 (pc := 38) dX12_goPay_38 rfl rfl ?_ | refine wp_dup2l (pc := 38) dX12_goPay_38 rfl ?_
  refine wm_iald dX12_goPay_39 K (by first | rfl | assumption) (by first | decide | omega) (by first | decide | omega) (by decide) (by omega) (by omega) (by repeat (first | assumption | exact upA_eq | (apply upA_ne; first | decide | omega) | (apply SA_at; assumption; first | decide | (simp; omega)) | exact rfl)) (by first | exact flat5 (by omega) (by omega) | exact flat3 (by omega) (by omega) | exact flat2 (by omega) (by omega) | exact flat6 (by omega) (by omega) | exact flat4 (by omega) (by omega) | exact flat1 (by omega) (by omega) | exact flat0 (by omega) (by omega) | exact flat7 | exact rfl) ?_
  refine wp_iload_n (pc := 40) dX12_goPay_40 rfl ?_
  refine wp_isub (pc := 41) dX12_goPay_41 ?_
  refine wm_iast dX12_goPay_42 K O (by first | rfl | assumption) (by first | decide | omega) (by first | decide | omega) (by decide) (by omega) (by omega) (by repeat (first | assumption | exact upA_eq | (apply upA_ne; first | decide | omega) | (apply SA_at; assumption; first | decide | (simp; omega)) | exact rfl)) (by first | exact flatv5 (by omega) (by omega) | exact flatv3 (by omega) (by omega) | exact flatv2 (by omega) (by omega) | exact flatv6 (by omega) (by omega) | exact flatv4 (by omega) (by omega) | exact flatw1 (by omega) (by omega) | exact flatw0 (by omega) (by omega) | exact flatw7 | exact rfl) (fun hp K O => ?_)
  rw [upA_upA] at K
  exact wp_vr (pc := 43) dX12_goPay_43 rfl (by decide) (by decide) (by first | exact ⟨K, O⟩ | rfl)
/-! the deeds -/
theorem dct_in (T : Nat → Int → Int) (N : Nat) : 0 ≤ dct T N ∧ dct T N ≤ N := by
  have := cnt_le (lv T) N
  unfold dct
  omega
theorem sp_Ref_dies (hM : MAt hp q th N T U tx rw rt hs ss KT) (hI : TI T N) (rx : InR x) (ry : InR y) : Sp g MX12_dies (rm 3 0 0) [.ref q, .int (I x), .int (I y)] hp (Eff (.int (I (dieA T N x y))) (fun hp2 => MAt hp2 q 0 N (dieT T N x y) (if 0 ≤ dieA T N x y then (T :: U).take 12 else U) tx rw rt hs ss KT ∧ SO hp hp2 q (q + 25))) := by
  have hN := hI.men.2
  have hdd := dct_in (dieT T N x y) N
  refine Sp_mk rfl (Nat.le_of_ble_eq_true rfl) ?_
  show wp g _ _ _ 0 0 0 [some (.ref q), some (.int (I x)), some (.int (I y)), none] [] hp
  have O := SO.rf (hp := hp) (lo := q) (hi := q + 25)
  obtain ⟨V, A, rd, K, hth, M⟩ := hM
  have hu := M.ru (q := q)
  have M2 := M
  obtain ⟨m1, mA, mt, mr, mu, mU, mh, ms, mk⟩ := M2
  refine wp_aload_n (pc := 0) dX12_dies_0 rfl ?_
  refine wp_iconst (pc := 1) dX12_dies_1 ?_
  refine wm_put dX12_dies_2 pf_X12_85 K O (by decide) mset_6 rfl rfl (fun hp K O => ?_)
  refine wp_aload_n (pc := 5) dX12_dies_5 rfl ?_
  refine wp_aload_n (pc := 6) dX12_dies_6 rfl ?_
  refine wm_get dX12_dies_7 gf_X12_9 K (by rfl) ?_
  refine wp_iload_n (pc := 10) dX12_dies_10 rfl ?_
  refine wp_iload_n (pc := 11) dX12_dies_11 rfl ?_
  refine wp_Vp (pc := 12) dX12_dies_12 cl_X12_260 (sp_Ref_refusesDeath K (by repeat (first | assumption | exact pv10 | exact pv11 | (apply pv_o; decide; decide) | exact upN_eq | (apply upN_ne; decide) | (apply SV_at; assumption; decide) | exact rfl)) hI (.inl rfl) (by repeat (first | assumption | exact upA_eq | (apply upA_ne; first | decide | omega) | (apply SA_at; assumption; first | decide | (simp; omega)) | exact rfl)) rx ry) rfl rfl K.1 (by rfl) (by decide) (Nat.le_of_ble_eq_true rfl) ?_
  refine wp_istore_n (pc := 15) dX12_dies_15 (by decide) ?_
  refine wp_iload_n (pc := 16) dX12_dies_16 rfl ?_
  refine wp_if_ge (pc := 17) 22 dX12_dies_17 (by decide) (by (repeat' split) <;> omega) (fun c17 => ?_) (fun c17 => ?_)
  ·
    have hc : 0 ≤ x ∧ x < N ∧ 1 ≤ y ∧ y ≤ 9 ∧ T 5 x = 0 := by revert c17; (repeat' split) <;> omega
    have eT : dieT T N x y = up (up (up T 5 x y) 4 x (mi 99 (T 4 x + 1))) 6 x 0 := if_pos hc
    have eA : dieA T N x y = dct (dieT T N x y) N := by unfold dieA; rw [if_neg (by omega), if_neg (by omega)]
    have hI2 := dieT_I (p := x) (n := y) hI
    rw [if_pos (by omega)] -- go
    refine wp_aload_n (pc := 22) dX12_dies_22 rfl ?_
    refine wp_aload_n (pc := 23) dX12_dies_23 rfl ?_
    refine wm_get dX12_dies_24 gf_X12_9 K (by rfl) ?_
    refine wp_Vn (pc := 27) dX12_dies_27 cl_X12_246 (sp_Ref_remember K (by first | assumption | exact MU.tr (by assumption) (by repeat (first | assumption | exact pv10 | exact pv11 | (apply pv_o; decide; decide) | exact upN_eq | (apply upN_ne; decide) | (apply SV_at; assumption; decide) | exact rfl)) (by repeat (first | assumption | exact upA_eq | (apply upA_ne; first | decide | omega) | (apply SA_at; assumption; first | decide | (simp; omega)) | exact rfl))) rfl (by decide) (by decide) (by repeat (first | assumption | exact upA_eq | (apply upA_ne; first | decide | omega) | (apply SA_at; assumption; first | decide | (simp; omega)) | exact rfl))) rfl rfl K.1 (by rfl) (by decide) (Nat.le_of_ble_eq_true rfl) (fun hp27 e27 => ?_)
    obtain ⟨⟨V27, A27, K, sV27, sA27, hU27⟩, O1⟩ := e27; replace O := SO.tr O O1
    refine wp_aload_n (pc := 30) dX12_dies_30 rfl ?_
    refine wm_get dX12_dies_31 gf_X12_9 K (by rfl) ?_
    refine wp_iload_n (pc := 34) dX12_dies_34 rfl ?_
    refine wp_iload_n (pc := 35) dX12_dies_35 rfl ?_
    refine wp_Sn (pc := 36) dX12_dies_36 cl_X12_263 (sp_Ref_goDeath K hI (.inl rfl) (by repeat (first | assumption | exact upA_eq | (apply upA_ne; first | decide | omega) | (apply SA_at; assumption; first | decide | (simp; omega)) | exact rfl)) (by omega)) rfl rfl (by decide) (Nat.le_of_ble_eq_true rfl) (fun hp36 e36 => ?_)
    obtain ⟨K, O1⟩ := e36
    replace O := SO.tr O O1
    rw [← eT] at K
    refine wp_aload_n (pc := 39) dX12_dies_39 rfl ?_
    refine wp_aload_n (pc := 40) dX12_dies_40 rfl ?_
    refine wm_get dX12_dies_41 gf_X12_9 K (by rfl) ?_
    refine wp_Vp (pc := 44) dX12_dies_44 cl_X12_235 (sp_Ref_deadOnes K (by repeat (first | assumption | exact pv10 | exact pv11 | (apply pv_o; decide; decide) | exact upN_eq | (apply upN_ne; decide) | (apply SV_at; assumption; decide) | exact rfl)) hI2 (.inl rfl) (by repeat (first | assumption | exact upA_eq | (apply upA_ne; first | decide | omega) | (apply SA_at; assumption; first | decide | (simp; omega)) | exact rfl))) rfl rfl K.1 (by rfl) (by decide) (Nat.le_of_ble_eq_true rfl) ?_
    refine wp_Sp (pc := 47) dX12_dies_47 cl_X12_257 (sp_Integer_bitCount (bits64 hN)) rfl rfl (by decide) (Nat.le_of_ble_eq_true rfl) ?_
    refine wp_topE (dct_eq hN) ?_
    exact wp_ir (pc := 50) dX12_dies_50 rfl (by decide) (by decide) eA.symm ⟨⟨_, _, _, K, (by repeat (first | assumption | exact pv10 | exact pv11 | (apply pv_o; decide; decide) | exact upN_eq | (apply upN_ne; decide) | (apply SV_at; assumption; decide) | exact rfl)), M.ch (by repeat (first | exact SV.rf | assumption | (apply SV.up1; decide) | (apply SV.tr2; assumption; decide))) (by repeat (first | exact SA.rf | assumption | (apply SA.up1; decide) | (apply SA.tr2; assumption; decide))) (by repeat (first | assumption | exact upA_eq | (apply upA_ne; first | decide | omega) | (apply SA_at; assumption; first | decide | (simp; omega)) | exact rfl)) (by first | assumption | exact MU.tr (by assumption) (by repeat (first | assumption | exact pv10 | exact pv11 | (apply pv_o; decide; decide) | exact upN_eq | (apply upN_ne; decide) | (apply SV_at; assumption; decide) | exact rfl)) (by repeat (first | assumption | exact upA_eq | (apply upA_ne; first | decide | omega) | (apply SA_at; assumption; first | decide | (simp; omega)) | exact rfl))) (by first | assumption | exact Mrw.z (by repeat (first | assumption | exact pv10 | exact pv11 | (apply pv_o; decide; decide) | exact upN_eq | (apply upN_ne; decide) | (apply SV_at; assumption; decide) | exact rfl)) | exact Mrw.tr (by assumption) (by repeat (first | assumption | exact pv10 | exact pv11 | (apply pv_o; decide; decide) | exact upN_eq | (apply upN_ne; decide) | (apply SV_at; assumption; decide) | exact rfl)) (by repeat (first | assumption | exact upA_eq | (apply upA_ne; first | decide | omega) | (apply SA_at; assumption; first | decide | (simp; omega)) | exact rfl)))⟩, O⟩
  ·
    have hv : (if ¬ (0 ≤ x ∧ x < N ∧ 1 ≤ y ∧ y ≤ 9) then (-1 : Int) else if ¬ T 5 x = 0 then -2 else 0) = dieA T N x y := by unfold dieA; revert c17; (repeat' split) <;> omega
    have hneg : ¬ 0 ≤ dieA T N x y := by rw [← hv]; exact c17
    have eT : dieT T N x y = T := if_neg (fun z => by revert hneg; unfold dieA; rw [if_neg (by omega), if_neg (by omega)]; omega)
    rw [eT, if_neg hneg] -- go
    refine wp_iload_n (pc := 20) dX12_dies_20 rfl ?_
    exact wp_ir (pc := 21) dX12_dies_21 rfl (by decide) (by decide) hv ⟨⟨_, _, _, K, (by repeat (first | assumption | exact pv10 | exact pv11 | (apply pv_o; decide; decide) | exact upN_eq | (apply upN_ne; decide) | (apply SV_at; assumption; decide) | exact rfl)), M.ch (by repeat (first | exact SV.rf | assumption | (apply SV.up1; decide) | (apply SV.tr2; assumption; decide))) (by repeat (first | exact SA.rf | assumption | (apply SA.up1; decide) | (apply SA.tr2; assumption; decide))) (by repeat (first | assumption | exact upA_eq | (apply upA_ne; first | decide | omega) | (apply SA_at; assumption; first | decide | (simp; omega)) | exact rfl)) (by first | assumption | exact MU.tr (by assumption) (by repeat (first | assumption | exact pv10 | exact pv11 | (apply pv_o; decide; decide) | exact upN_eq | (apply upN_ne; decide) | (apply SV_at; assumption; decide) | exact rfl)) (by repeat (first | assumption | exact upA_eq | (apply upA_ne; first | decide | omega) | (apply SA_at; assumption; first | decide | (simp; omega)) | exact rfl))) (by first | assumption | exact Mrw.z (by repeat (first | assumption | exact pv10 | exact pv11 | (apply pv_o; decide; decide) | exact upN_eq | (apply upN_ne; decide) | (apply SV_at; assumption; decide) | exact rfl)) | exact Mrw.tr (by assumption) (by repeat (first | assumption | exact pv10 | exact pv11 | (apply pv_o; decide; decide) | exact upN_eq | (apply upN_ne; decide) | (apply SV_at; assumption; decide) | exact rfl)) (by repeat (first | assumption | exact upA_eq | (apply upA_ne; first | decide | omega) | (apply SA_at; assumption; first | decide | (simp; omega)) | exact rfl)))⟩, O⟩
end MI

