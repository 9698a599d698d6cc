/-! person, between, row: what they answer, and where they throw -/
section TR
variable {g : GT} {hp hp2 hp0 : Hp} {D r s N n k i P h o : Nat} {T T2 Tr Z X : Nat → Int → Int} {z x y a b c : Int} {U : List (Nat → Int → Int)} {tx rw rt l : List Int} {hs : List (Int × Int)} {ss : List (Int × Int × Int)} {KT KT2 : Nat → Option (Nat → Int → Int)}
theorem sz_has (hT : TownAt hp h T) (hI : TI T N) (rp : InR x) : Sz g MX10_has (rm 0 0 0) [.ref h, .int (I x)] hp (fun v => v = some (.int (B (0 ≤ x ∧ x < N)))) := by
  obtain ⟨h8, hN⟩ := hI.men
  refine Sz_mk rfl (Nat.le_of_ble_eq_true rfl) ?_
  show wq g _ _ _ _ 0 [some (.ref h), some (.int (I x))] [] hp
  refine wq_iload_n (pc := 0) dX10_has_0 rfl ?_
  refine wq_if_lt (pc := 1) 16 dX10_has_1 (by decide) rp (fun c1 => ?_) (fun c1 => ?_)
  · refine wq_iconst (pc := 16) dX10_has_16 ?_
    exact wq_z0 (pc := 17) dX10_has_17 rfl (by omega) rfl
  · refine wq_iload_n (pc := 4) dX10_has_4 rfl ?_
    refine wq_aload_n (pc := 5) dX10_has_5 rfl ?_
    refine wq_getf (pc := 6) dX10_has_6 gf_X10_43 hT.1 (by rfl) ?_
    refine wq_icmp_ge (pc := 9) 16 dX10_has_9 (by decide) rp (by omega) (fun c9 => ?_) (fun c9 => ?_)
    · refine wq_iconst (pc := 16) dX10_has_16 ?_
      exact wq_z0 (pc := 17) dX10_has_17 rfl (by omega) rfl
    · refine wq_iconst (pc := 12) dX10_has_12 ?_
      refine wq_goto (pc := 13) 17 dX10_has_13 (by decide) ?_
      exact wq_z1 (pc := 17) dX10_has_17 rfl (by omega) rfl
theorem sz_hasTwo (hT : TownAt hp h T) (hI : TI T N) (rp : InR x) (rq : InR y) : Sz g MX10_hasTwo (rm 1 0 0) [.ref h, .int (I x), .int (I y)] hp (fun v => v = some (.int (B (0 ≤ x ∧ x < N ∧ 0 ≤ y ∧ y < N ∧ x ≠ y)))) := by
  refine Sz_mk rfl (Nat.le_of_ble_eq_true rfl) ?_
  show wq g _ _ _ _ 0 [some (.ref h), some (.int (I x)), some (.int (I y))] [] hp
  refine wq_aload_n (pc := 0) dX10_hasTwo_0 rfl ?_
  refine wq_iload_n (pc := 1) dX10_hasTwo_1 rfl ?_
  refine wq_V (pc := 2) dX10_hasTwo_2 cl_X10_46 (as := [.int (I x)]) (sz_has hT hI rp) rfl hT.1 (by rfl) ⟨by decide, by decide, rfl, rfl⟩ (Nat.le_of_ble_eq_true rfl) ?_
  refine wq_ifb_eq (pc := 5) 25 dX10_hasTwo_5 (by decide) (fun c5 => ?_) (fun c5 => ?_)
  · refine wq_iconst (pc := 25) dX10_hasTwo_25 ?_
    exact wq_z0 (pc := 26) dX10_hasTwo_26 rfl (by omega) rfl
  · refine wq_aload_n (pc := 8) dX10_hasTwo_8 rfl ?_
    refine wq_iload_n (pc := 9) dX10_hasTwo_9 rfl ?_
    refine wq_V (pc := 10) dX10_hasTwo_10 cl_X10_46 (as := [.int (I y)]) (sz_has hT hI rq) rfl hT.1 (by rfl) ⟨by decide, by decide, rfl, rfl⟩ (Nat.le_of_ble_eq_true rfl) ?_
    refine wq_ifb_eq (pc := 13) 25 dX10_hasTwo_13 (by decide) (fun c13 => ?_) (fun c13 => ?_)
    · refine wq_iconst (pc := 25) dX10_hasTwo_25 ?_
      exact wq_z0 (pc := 26) dX10_hasTwo_26 rfl (by omega) rfl
    · refine wq_iload_n (pc := 16) dX10_hasTwo_16 rfl ?_
      refine wq_iload_n (pc := 17) dX10_hasTwo_17 rfl ?_
      refine wq_icmp_eq (pc := 18) 25 dX10_hasTwo_18 (by decide) rp rq (fun c18 => ?_) (fun c18 => ?_)
      · refine wq_iconst (pc := 25) dX10_hasTwo_25 ?_
        exact wq_z0 (pc := 26) dX10_hasTwo_26 rfl (by omega) rfl
      · refine wq_iconst (pc := 21) dX10_hasTwo_21 ?_
        refine wq_goto (pc := 22) 26 dX10_hasTwo_22 (by decide) ?_
        exact wq_z1 (pc := 26) dX10_hasTwo_26 rfl (by omega) rfl
theorem sz_size (hR : RowAt hp h l) : Sz g MX6_size (rm 0 0 0) [.ref h] hp (fun v => v = some (.int (I (l.length : Int)))) := by
  obtain ⟨F, r0, r1, hl, hF⟩ := hR
  refine Sz_mk rfl (Nat.le_of_ble_eq_true rfl) ?_
  show wq g _ _ _ _ 0 [some (.ref h)] [] hp
  refine wq_aload_n (pc := 0) dX6_size_0 rfl ?_
  refine wq_getf (pc := 1) dX6_size_1 gf_X6_15 r0 (by rfl) ?_
  exact wq_ir (pc := 4) dX6_size_4 rfl rfl rfl
theorem tp_person (K : DA hp D r s Tr z Z T U tx rw rt hs ss KT) (hI : TI T N) (rx : InR x) (ry : InR y) (hn : ¬ psO N x y) : Tp g MX11_person (rm 7 1 6) [.ref D, .int (I x), .int (I y)] hp := by
  refine Tp_mk rfl (Nat.le_of_ble_eq_true rfl) ?_
  show wq g _ _ _ _ 0 [some (.ref D), some (.int (I x)), some (.int (I y))] [] hp
  refine wq_aload_n (pc := 0) dX11_person_0 rfl ?_
  refine wq_getf (pc := 1) dX11_person_1 gf_X11_26 K.ob (by rfl) ?_
  refine wq_iload_n (pc := 4) dX11_person_4 rfl ?_
  refine wq_V (pc := 5) dX11_person_5 cl_X11_148 (as := [.int (I x)]) (sz_has K.to hI rx) rfl K.to.1 (by rfl) ⟨by decide, by decide, rfl, rfl⟩ (Nat.le_of_ble_eq_true rfl) ?_
  refine wq_ifb_ne (pc := 8) 19 dX11_person_8 (by decide) (fun c8 => ?_) (fun c8 => ?_)
  · refine wq_iload_n (pc := 19) dX11_person_19 rfl ?_
    refine wq_tswOut (pc := 20) 132 dX11_person_20 ry (by omega) (by decide) ?_
    exact wq_throw (pc := 132) rfl dX11_person_132 dX11_person_135 dX11_person_136 dX11_person_139 ⟨by decide, by decide, by decide, by decide⟩
  · exact wq_throw (pc := 11) rfl dX11_person_11 dX11_person_14 dX11_person_15 dX11_person_18 ⟨by decide, by decide, by decide, by decide⟩
theorem tp_between (K : DA hp D r s Tr z Z T U tx rw rt hs ss KT) (hI : TI T N) (rx : InR x) (ry : InR y) (rc : InR c) (hn : ¬ btO N x y c) : Tp g MX11_between (rm 7 1 6) [.ref D, .int (I x), .int (I y), .int (I c)] hp := by
  refine Tp_mk rfl (Nat.le_of_ble_eq_true rfl) ?_
  show wq g _ _ _ _ 0 [some (.ref D), some (.int (I x)), some (.int (I y)), some (.int (I c))] [] hp
  refine wq_aload_n (pc := 0) dX11_between_0 rfl ?_
  refine wq_getf (pc := 1) dX11_between_1 gf_X11_26 K.ob (by rfl) ?_
  refine wq_iload_n (pc := 4) dX11_between_4 rfl ?_
  refine wq_iload_n (pc := 5) dX11_between_5 rfl ?_
  refine wq_V (pc := 6) dX11_between_6 cl_X11_172 (as := [.int (I x), .int (I y)]) (sz_hasTwo K.to hI rx ry) rfl K.to.1 (by rfl) ⟨by decide, by decide, rfl, rfl⟩ (Nat.le_of_ble_eq_true rfl) ?_
  refine wq_ifb_ne (pc := 9) 20 dX11_between_9 (by decide) (fun c9 => ?_) (fun c9 => ?_)
  · refine wq_iload_n (pc := 20) dX11_between_20 rfl ?_
    refine wq_tswOut (pc := 21) 90 dX11_between_21 rc (by omega) (by decide) ?_
    exact wq_throw (pc := 90) rfl dX11_between_90 dX11_between_93 dX11_between_94 dX11_between_97 ⟨by decide, by decide, by decide, by decide⟩
  · exact wq_throw (pc := 12) rfl dX11_between_12 dX11_between_15 dX11_between_16 dX11_between_19 ⟨by decide, by decide, by decide, by decide⟩
theorem tp_row (K : DA hp D r s Tr z Z T U tx rw rt hs ss KT) (rx : InR x) (hn : ¬ (0 ≤ x ∧ x < rw.length)) : Tp g MX11_row (rm 7 1 6) [.ref D, .int (I x)] hp := by
  have hl : rw.length ≤ 6 := by obtain ⟨F, r0, r1, hl, hF⟩ := K.ro; exact hl
  refine Tp_mk rfl (Nat.le_of_ble_eq_true rfl) ?_
  show wq g _ _ _ _ 0 [some (.ref D), some (.int (I x))] [] hp
  refine wq_iload_n (pc := 0) dX11_row_0 rfl ?_
  refine wq_if_lt (pc := 1) 15 dX11_row_1 (by decide) rx (fun c1 => ?_) (fun c1 => ?_)
  · exact wq_throw (pc := 15) rfl dX11_row_15 dX11_row_18 dX11_row_19 dX11_row_22 ⟨by decide, by decide, by decide, by decide⟩
  · refine wq_iload_n (pc := 4) dX11_row_4 rfl ?_
    refine wq_aload_n (pc := 5) dX11_row_5 rfl ?_
    refine wq_getf (pc := 6) dX11_row_6 gf_X11_19 K.ob (by rfl) ?_
    obtain ⟨fs, hob⟩ := K.ro.o
    refine wq_V (pc := 9) dX11_row_9 cl_X11_378 (as := []) (sz_size K.ro) rfl hob (by rfl) ⟨by decide, by decide, rfl, rfl⟩ (Nat.le_of_ble_eq_true rfl) ?_
    refine wq_icmp_lt (pc := 12) 23 dX11_row_12 (by decide) rx (by omega) (fun c12 => ?_) (fun c12 => ?_)
    · exact absurd ⟨by omega, c12⟩ hn
    · exact wq_throw (pc := 15) rfl dX11_row_15 dX11_row_18 dX11_row_19 dX11_row_22 ⟨by decide, by decide, by decide, by decide⟩
/-! where they answer -/
theorem sp_D_person (K : DA hp D r s Tr z Z T U tx rw rt hs ss KT) (hI : TI T N) (rx : InR x) (ry : InR y) (hn : psO N x y) : Sp g MX11_person (rm 2 0 0) [.ref D, .int (I x), .int (I y)] hp (Eff (.int (I (psA T N x y))) (fun hp2 => DX hp2 D T U tx rw rt hs ss KT ∧ SO hp hp2 D (D + 171))) := by
  obtain ⟨h8, hN⟩ := hI.men
  refine Sp_mk rfl (Nat.le_of_ble_eq_true rfl) ?_
  show wp g _ _ _ 0 0 0 [some (.ref D), some (.int (I x)), some (.int (I y))] [] hp
  have O := SO.rf (hp := hp) (lo := D) (hi := D + 171)
  refine wp_aload_n (pc := 0) dX11_person_0 rfl ?_
  refine wp_getf (pc := 1) dX11_person_1 gf_X11_26 K.ob (by rfl) ?_
  refine wp_iload_n (pc := 4) dX11_person_4 rfl ?_
  refine wd_Vp (pc := 5) dX11_person_5 cl_X11_148 (sp_Town_has (by first | assumption | omega | exact K.to | exact K.tr | exact K.to.2.1 | exact K.to.2.2.1 | exact K.to.2.2.2.1 | exact K.to.2.2.2.2.1 | exact K.to.2.2.2.2.2.1 | exact K.to.2.2.2.2.2.2.1 | exact K.to.2.2.2.2.2.2.2 | exact K.tr.2.1 | exact K.tr.2.2.1 | exact K.tr.2.2.2.1 | exact K.tr.2.2.2.2.1 | exact K.tr.2.2.2.2.2.1 | exact K.tr.2.2.2.2.2.2.1 | exact K.tr.2.2.2.2.2.2.2) (by first | assumption | omega | exact K.to | exact K.tr | exact K.to.2.1 | exact K.to.2.2.1 | exact K.to.2.2.2.1 | exact K.to.2.2.2.2.1 | exact K.to.2.2.2.2.2.1 | exact K.to.2.2.2.2.2.2.1 | exact K.to.2.2.2.2.2.2.2 | exact K.tr.2.1 | exact K.tr.2.2.1 | exact K.tr.2.2.2.1 | exact K.tr.2.2.2.2.1 | exact K.tr.2.2.2.2.2.1 | exact K.tr.2.2.2.2.2.2.1 | exact K.tr.2.2.2.2.2.2.2) (by first | assumption | omega | exact K.to | exact K.tr | exact K.to.2.1 | exact K.to.2.2.1 | exact K.to.2.2.2.1 | exact K.to.2.2.2.2.1 | exact K.to.2.2.2.2.2.1 | exact K.to.2.2.2.2.2.2.1 | exact K.to.2.2.2.2.2.2.2 | exact K.tr.2.1 | exact K.tr.2.2.1 | exact K.tr.2.2.2.1 | exact K.tr.2.2.2.2.1 | exact K.tr.2.2.2.2.2.1 | exact K.tr.2.2.2.2.2.2.1 | exact K.tr.2.2.2.2.2.2.2)) rfl rfl (by first | exact K.to.o | exact K.tr.o | exact K.k0.o | exact K.k1.o) (by rfl) (by decide) (Nat.le_of_ble_eq_true rfl) ?_
  first | refine wp_ifb_ne (pc := 8) 19 dX11_person_8 (by decide) (fun c8 => ?_) (fun c8 => ?_) | refine wp_if_ne (pc := 8) 19 dX11_person_8 (by decide) (by first | omega | exact TI.i5 (by assumption) | exact TI.i3 (by assumption) | exact TI.i2 (by assumption) | exact TI.i1 (by assumption) | exact TI.i0 (by assumption) | exact TI.i4 (by assumption) | exact TI.i6 (by assumption) | exact TI.i7 (by assumption)) (fun c8 => ?_) (fun c8 => ?_)
  ·
    refine wp_iload_n (pc := 19) dX11_person_19 rfl ?_
    rcases (show y = 0 ∨ y = 1 ∨ y = 2 ∨ y = 3 ∨ y = 4 ∨ y = 5 ∨ y = 6 by omega) with e | e | e | e | e | e | e
    · subst e
      refine wp_tswIn (pc := 20) 64 dX11_person_20 (by omega) (by decide) (by decide) rfl (by decide) ?_
      refine wp_aload_n (pc := 64) dX11_person_64 rfl ?_
      refine wp_getf (pc := 65) dX11_person_65 gf_X11_26 K.ob (by rfl) ?_
      refine wp_getf (pc := 68) dX11_person_68 gf_X11_141 (by first | exact K.ob | exact K.to.1 | exact K.tr.1 | exact K.to.2.1 | exact K.to.2.2.1 | exact K.to.2.2.2.1 | exact K.to.2.2.2.2.1 | exact K.to.2.2.2.2.2.1 | exact K.to.2.2.2.2.2.2.1 | exact K.to.2.2.2.2.2.2.2 | exact K.tr.2.1 | exact K.tr.2.2.1 | exact K.tr.2.2.2.1 | exact K.tr.2.2.2.2.1 | exact K.tr.2.2.2.2.2.1 | exact K.tr.2.2.2.2.2.2.1 | exact K.tr.2.2.2.2.2.2.2) (by rfl) ?_
      refine wp_iload_n (pc := 71) dX11_person_71 rfl ?_
      refine wp_iald (pc := 72) dX11_person_72 (by first | exact K.ob | exact K.to.1 | exact K.tr.1 | exact K.to.2.1 | exact K.to.2.2.1 | exact K.to.2.2.2.1 | exact K.to.2.2.2.2.1 | exact K.to.2.2.2.2.2.1 | exact K.to.2.2.2.2.2.2.1 | exact K.to.2.2.2.2.2.2.2 | exact K.tr.2.1 | exact K.tr.2.2.1 | exact K.tr.2.2.2.1 | exact K.tr.2.2.2.2.1 | exact K.tr.2.2.2.2.2.1 | exact K.tr.2.2.2.2.2.2.1 | exact K.tr.2.2.2.2.2.2.2) (by omega) (by omega) (by decide) ?_
      exact wp_ir (pc := 73) dX11_person_73 rfl (by decide) (by decide) (by first | rfl | omega) ⟨⟨_, _, _, _, _, K⟩, O⟩
    · subst e
      refine wp_tswIn (pc := 20) 74 dX11_person_20 (by omega) (by decide) (by decide) rfl (by decide) ?_
      refine wp_aload_n (pc := 74) dX11_person_74 rfl ?_
      refine wp_getf (pc := 75) dX11_person_75 gf_X11_26 K.ob (by rfl) ?_
      refine wp_getf (pc := 78) dX11_person_78 gf_X11_154 (by first | exact K.ob | exact K.to.1 | exact K.tr.1 | exact K.to.2.1 | exact K.to.2.2.1 | exact K.to.2.2.2.1 | exact K.to.2.2.2.2.1 | exact K.to.2.2.2.2.2.1 | exact K.to.2.2.2.2.2.2.1 | exact K.to.2.2.2.2.2.2.2 | exact K.tr.2.1 | exact K.tr.2.2.1 | exact K.tr.2.2.2.1 | exact K.tr.2.2.2.2.1 | exact K.tr.2.2.2.2.2.1 | exact K.tr.2.2.2.2.2.2.1 | exact K.tr.2.2.2.2.2.2.2) (by rfl) ?_
      refine wp_iload_n (pc := 81) dX11_person_81 rfl ?_
      refine wp_iald (pc := 82) dX11_person_82 (by first | exact K.ob | exact K.to.1 | exact K.tr.1 | exact K.to.2.1 | exact K.to.2.2.1 | exact K.to.2.2.2.1 | exact K.to.2.2.2.2.1 | exact K.to.2.2.2.2.2.1 | exact K.to.2.2.2.2.2.2.1 | exact K.to.2.2.2.2.2.2.2 | exact K.tr.2.1 | exact K.tr.2.2.1 | exact K.tr.2.2.2.1 | exact K.tr.2.2.2.2.1 | exact K.tr.2.2.2.2.2.1 | exact K.tr.2.2.2.2.2.2.1 | exact K.tr.2.2.2.2.2.2.2) (by omega) (by omega) (by decide) ?_
      exact wp_ir (pc := 83) dX11_person_83 rfl (by decide) (by decide) (by first | rfl | omega) ⟨⟨_, _, _, _, _, K⟩, O⟩
    · subst e
      refine wp_tswIn (pc := 20) 84 dX11_person_20 (by omega) (by decide) (by decide) rfl (by decide) ?_
      refine wp_aload_n (pc := 84) dX11_person_84 rfl ?_
      refine wp_getf (pc := 85) dX11_person_85 gf_X11_26 K.ob (by rfl) ?_
      refine wp_getf (pc := 88) dX11_person_88 gf_X11_157 (by first | exact K.ob | exact K.to.1 | exact K.tr.1 | exact K.to.2.1 | exact K.to.2.2.1 | exact K.to.2.2.2.1 | exact K.to.2.2.2.2.1 | exact K.to.2.2.2.2.2.1 | exact K.to.2.2.2.2.2.2.1 | exact K.to.2.2.2.2.2.2.2 | exact K.tr.2.1 | exact K.tr.2.2.1 | exact K.tr.2.2.2.1 | exact K.tr.2.2.2.2.1 | exact K.tr.2.2.2.2.2.1 | exact K.tr.2.2.2.2.2.2.1 | exact K.tr.2.2.2.2.2.2.2) (by rfl) ?_
      refine wp_iload_n (pc := 91) dX11_person_91 rfl ?_
      refine wp_iald (pc := 92) dX11_person_92 (by first | exact K.ob | exact K.to.1 | exact K.tr.1 | exact K.to.2.1 | exact K.to.2.2.1 | exact K.to.2.2.2.1 | exact K.to.2.2.2.2.1 | exact K.to.2.2.2.2.2.1 | exact K.to.2.2.2.2.2.2.1 | exact K.to.2.2.2.2.2.2.2 | exact K.tr.2.1 | exact K.tr.2.2.1 | exact K.tr.2.2.2.1 | exact K.tr.2.2.2.2.1 | exact K.tr.2.2.2.2.2.1 | exact K.tr.2.2.2.2.2.2.1 | exact K.tr.2.2.2.2.2.2.2) (by omega) (by omega) (by decide) ?_
      exact wp_ir (pc := 93) dX11_person_93 rfl (by decide) (by decide) (by first | rfl | omega) ⟨⟨_, _, _, _, _, K⟩, O⟩
    · subst e
      refine wp_tswIn (pc := 20) 94 dX11_person_20 (by omega) (by decide) (by decide) rfl (by decide) ?_
      refine wp_aload_n (pc := 94) dX11_person_94 rfl ?_
      refine wp_getf (pc := 95) dX11_person_95 gf_X11_26 K.ob (by rfl) ?_
      refine wp_getf (pc := 98) dX11_person_98 gf_X11_160 (by first | exact K.ob | exact K.to.1 | exact K.tr.1 | exact K.to.2.1 | exact K.to.2.2.1 | exact K.to.2.2.2.1 | exact K.to.2.2.2.2.1 | exact K.to.2.2.2.2.2.1 | exact K.to.2.2.2.2.2.2.1 | exact K.to.2.2.2.2.2.2.2 | exact K.tr.2.1 | exact K.tr.2.2.1 | exact K.tr.2.2.2.1 | exact K.tr.2.2.2.2.1 | exact K.tr.2.2.2.2.2.1 | exact K.tr.2.2.2.2.2.2.1 | exact K.tr.2.2.2.2.2.2.2) (by rfl) ?_
      refine wp_iload_n (pc := 101) dX11_person_101 rfl ?_
      refine wp_iald (pc := 102) dX11_person_102 (by first | exact K.ob | exact K.to.1 | exact K.tr.1 | exact K.to.2.1 | exact K.to.2.2.1 | exact K.to.2.2.2.1 | exact K.to.2.2.2.2.1 | exact K.to.2.2.2.2.2.1 | exact K.to.2.2.2.2.2.2.1 | exact K.to.2.2.2.2.2.2.2 | exact K.tr.2.1 | exact K.tr.2.2.1 | exact K.tr.2.2.2.1 | exact K.tr.2.2.2.2.1 | exact K.tr.2.2.2.2.2.1 | exact K.tr.2.2.2.2.2.2.1 | exact K.tr.2.2.2.2.2.2.2) (by omega) (by omega) (by decide) ?_
      exact wp_ir (pc := 103) dX11_person_103 rfl (by decide) (by decide) (by first | rfl | omega) ⟨⟨_, _, _, _, _, K⟩, O⟩
    · subst e
      refine wp_tswIn (pc := 20) 104 dX11_person_20 (by omega) (by decide) (by decide) rfl (by decide) ?_
      refine wp_aload_n (pc := 104) dX11_person_104 rfl ?_
      refine wp_getf (pc := 105) dX11_person_105 gf_X11_26 K.ob (by rfl) ?_
      refine wp_getf (pc := 108) dX11_person_108 gf_X11_163 (by first | exact K.ob | exact K.to.1 | exact K.tr.1 | exact K.to.2.1 | exact K.to.2.2.1 | exact K.to.2.2.2.1 | exact K.to.2.2.2.2.1 | exact K.to.2.2.2.2.2.1 | exact K.to.2.2.2.2.2.2.1 | exact K.to.2.2.2.2.2.2.2 | exact K.tr.2.1 | exact K.tr.2.2.1 | exact K.tr.2.2.2.1 | exact K.tr.2.2.2.2.1 | exact K.tr.2.2.2.2.2.1 | exact K.tr.2.2.2.2.2.2.1 | exact K.tr.2.2.2.2.2.2.2) (by rfl) ?_
      refine wp_iload_n (pc := 111) dX11_person_111 rfl ?_
      refine wp_iald (pc := 112) dX11_person_112 (by first | exact K.ob | exact K.to.1 | exact K.tr.1 | exact K.to.2.1 | exact K.to.2.2.1 | exact K.to.2.2.2.1 | exact K.to.2.2.2.2.1 | exact K.to.2.2.2.2.2.1 | exact K.to.2.2.2.2.2.2.1 | exact K.to.2.2.2.2.2.2.2 | exact K.tr.2.1 | exact K.tr.2.2.1 | exact K.tr.2.2.2.1 | exact K.tr.2.2.2.2.1 | exact K.tr.2.2.2.2.2.1 | exact K.tr.2.2.2.2.2.2.1 | exact K.tr.2.2.2.2.2.2.2) (by omega) (by omega) (by decide) ?_
      exact wp_ir (pc := 113) dX11_person_113 rfl (by decide) (by decide) (by first | rfl | omega) ⟨⟨_, _, _, _, _, K⟩, O⟩
    · subst e
      refine wp_tswIn (pc := 20) 114 dX11_person_20 (by omega) (by decide) (by decide) rfl (by decide) ?_
      refine wp_aload_n (pc := 114) dX11_person_114 rfl ?_
      refine wp_getf (pc := 115) dX11_person_115 gf_X11_26 K.ob (by rfl) ?_
      refine wp_iload_n (pc := 118) dX11_person_118 rfl ?_
      refine wd_Vp (pc := 119) dX11_person_119 cl_X11_166 (sp_Town_owedBy (by first | assumption | omega | exact K.to | exact K.tr | exact K.to.2.1 | exact K.to.2.2.1 | exact K.to.2.2.2.1 | exact K.to.2.2.2.2.1 | exact K.to.2.2.2.2.2.1 | exact K.to.2.2.2.2.2.2.1 | exact K.to.2.2.2.2.2.2.2 | exact K.tr.2.1 | exact K.tr.2.2.1 | exact K.tr.2.2.2.1 | exact K.tr.2.2.2.2.1 | exact K.tr.2.2.2.2.2.1 | exact K.tr.2.2.2.2.2.2.1 | exact K.tr.2.2.2.2.2.2.2) (by first | assumption | omega | exact K.to | exact K.tr | exact K.to.2.1 | exact K.to.2.2.1 | exact K.to.2.2.2.1 | exact K.to.2.2.2.2.1 | exact K.to.2.2.2.2.2.1 | exact K.to.2.2.2.2.2.2.1 | exact K.to.2.2.2.2.2.2.2 | exact K.tr.2.1 | exact K.tr.2.2.1 | exact K.tr.2.2.2.1 | exact K.tr.2.2.2.2.1 | exact K.tr.2.2.2.2.2.1 | exact K.tr.2.2.2.2.2.2.1 | exact K.tr.2.2.2.2.2.2.2) (by first | assumption | omega | exact K.to | exact K.tr | exact K.to.2.1 | exact K.to.2.2.1 | exact K.to.2.2.2.1 | exact K.to.2.2.2.2.1 | exact K.to.2.2.2.2.2.1 | exact K.to.2.2.2.2.2.2.1 | exact K.to.2.2.2.2.2.2.2 | exact K.tr.2.1 | exact K.tr.2.2.1 | exact K.tr.2.2.2.1 | exact K.tr.2.2.2.2.1 | exact K.tr.2.2.2.2.2.1 | exact K.tr.2.2.2.2.2.2.1 | exact K.tr.2.2.2.2.2.2.2) (by first | assumption | omega | exact K.to | exact K.tr | exact K.to.2.1 | exact K.to.2.2.1 | exact K.to.2.2.2.1 | exact K.to.2.2.2.2.1 | exact K.to.2.2.2.2.2.1 | exact K.to.2.2.2.2.2.2.1 | exact K.to.2.2.2.2.2.2.2 | exact K.tr.2.1 | exact K.tr.2.2.1 | exact K.tr.2.2.2.1 | exact K.tr.2.2.2.2.1 | exact K.tr.2.2.2.2.2.1 | exact K.tr.2.2.2.2.2.2.1 | exact K.tr.2.2.2.2.2.2.2)) rfl rfl (by first | exact K.to.o | exact K.tr.o | exact K.k0.o | exact K.k1.o) (by rfl) (by decide) (Nat.le_of_ble_eq_true rfl) ?_
      exact wp_ir (pc := 122) dX11_person_122 rfl (by decide) (by decide) (by first | rfl | omega) ⟨⟨_, _, _, _, _, K⟩, O⟩
    · subst e
      refine wp_tswIn (pc := 20) 123 dX11_person_20 (by omega) (by decide) (by decide) rfl (by decide) ?_
      refine wp_aload_n (pc := 123) dX11_person_123 rfl ?_
      refine wp_getf (pc := 124) dX11_person_124 gf_X11_26 K.ob (by rfl) ?_
      refine wp_iload_n (pc := 127) dX11_person_127 rfl ?_
      refine wd_Vp (pc := 128) dX11_person_128 cl_X11_169 (sp_Town_owedTo (by first | assumption | omega | exact K.to | exact K.tr | exact K.to.2.1 | exact K.to.2.2.1 | exact K.to.2.2.2.1 | exact K.to.2.2.2.2.1 | exact K.to.2.2.2.2.2.1 | exact K.to.2.2.2.2.2.2.1 | exact K.to.2.2.2.2.2.2.2 | exact K.tr.2.1 | exact K.tr.2.2.1 | exact K.tr.2.2.2.1 | exact K.tr.2.2.2.2.1 | exact K.tr.2.2.2.2.2.1 | exact K.tr.2.2.2.2.2.2.1 | exact K.tr.2.2.2.2.2.2.2) (by first | assumption | omega | exact K.to | exact K.tr | exact K.to.2.1 | exact K.to.2.2.1 | exact K.to.2.2.2.1 | exact K.to.2.2.2.2.1 | exact K.to.2.2.2.2.2.1 | exact K.to.2.2.2.2.2.2.1 | exact K.to.2.2.2.2.2.2.2 | exact K.tr.2.1 | exact K.tr.2.2.1 | exact K.tr.2.2.2.1 | exact K.tr.2.2.2.2.1 | exact K.tr.2.2.2.2.2.1 | exact K.tr.2.2.2.2.2.2.1 | exact K.tr.2.2.2.2.2.2.2) (by first | assumption | omega | exact K.to | exact K.tr | exact K.to.2.1 | exact K.to.2.2.1 | exact K.to.2.2.2.1 | exact K.to.2.2.2.2.1 | exact K.to.2.2.2.2.2.1 | exact K.to.2.2.2.2.2.2.1 | exact K.to.2.2.2.2.2.2.2 | exact K.tr.2.1 | exact K.tr.2.2.1 | exact K.tr.2.2.2.1 | exact K.tr.2.2.2.2.1 | exact K.tr.2.2.2.2.2.1 | exact K.tr.2.2.2.2.2.2.1 | exact K.tr.2.2.2.2.2.2.2) (by first | assumption | omega | exact K.to | exact K.tr | exact K.to.2.1 | exact K.to.2.2.1 | exact K.to.2.2.2.1 | exact K.to.2.2.2.2.1 | exact K.to.2.2.2.2.2.1 | exact K.to.2.2.2.2.2.2.1 | exact K.to.2.2.2.2.2.2.2 | exact K.tr.2.1 | exact K.tr.2.2.1 | exact K.tr.2.2.2.1 | exact K.tr.2.2.2.2.1 | exact K.tr.2.2.2.2.2.1 | exact K.tr.2.2.2.2.2.2.1 | exact K.tr.2.2.2.2.2.2.2)) rfl rfl (by first | exact K.to.o | exact K.tr.o | exact K.k0.o | exact K.k1.o) (by rfl) (by decide) (Nat.le_of_ble_eq_true rfl) ?_
      exact wp_ir (pc := 131) dX11_person_131 rfl (by decide) (by decide) (by first | rfl | omega) ⟨⟨_, _, _, _, _, K⟩, O⟩
  ·
    exact absurd c8 (by omega)
theorem sp_D_between (K : DA hp D r s Tr z Z T U tx rw rt hs ss KT) (hI : TI T N) (rx : InR x) (ry : InR y) (rc : InR c) (hn : btO N x y c) : Sp g MX11_between (rm 3 0 0) [.ref D, .int (I x), .int (I y), .int (I c)] hp (Eff (.int (I (btA (stl rt) T x y c))) (fun hp2 => DX hp2 D T U tx rw rt hs ss KT ∧ SO hp hp2 D (D + 171))) := by
  obtain ⟨h8, hN⟩ := hI.men
  refine Sp_mk rfl (Nat.le_of_ble_eq_true rfl) ?_
  show wp g _ _ _ 0 0 0 [some (.ref D), some (.int (I x)), some (.int (I y)), some (.int (I c))] [] hp
  have O := SO.rf (hp := hp) (lo := D) (hi := D + 171)
  refine wp_aload_n (pc := 0) dX11_between_0 rfl ?_
  refine wp_getf (pc := 1) dX11_between_1 gf_X11_26 K.ob (by rfl) ?_
  refine wp_iload_n (pc := 4) dX11_between_4 rfl ?_
  refine wp_iload_n (pc := 5) dX11_between_5 rfl ?_
  refine wd_Vp (pc := 6) dX11_between_6 cl_X11_172 (sp_Town_hasTwo (by first | assumption | omega | exact K.to | exact K.tr | exact K.to.2.1 | exact K.to.2.2.1 | exact K.to.2.2.2.1 | exact K.to.2.2.2.2.1 | exact K.to.2.2.2.2.2.1 | exact K.to.2.2.2.2.2.2.1 | exact K.to.2.2.2.2.2.2.2 | exact K.tr.2.1 | exact K.tr.2.2.1 | exact K.tr.2.2.2.1 | exact K.tr.2.2.2.2.1 | exact K.tr.2.2.2.2.2.1 | exact K.tr.2.2.2.2.2.2.1 | exact K.tr.2.2.2.2.2.2.2) (by first | assumption | omega | exact K.to | exact K.tr | exact K.to.2.1 | exact K.to.2.2.1 | exact K.to.2.2.2.1 | exact K.to.2.2.2.2.1 | exact K.to.2.2.2.2.2.1 | exact K.to.2.2.2.2.2.2.1 | exact K.to.2.2.2.2.2.2.2 | exact K.tr.2.1 | exact K.tr.2.2.1 | exact K.tr.2.2.2.1 | exact K.tr.2.2.2.2.1 | exact K.tr.2.2.2.2.2.1 | exact K.tr.2.2.2.2.2.2.1 | exact K.tr.2.2.2.2.2.2.2) (by first | assumption | omega | exact K.to | exact K.tr | exact K.to.2.1 | exact K.to.2.2.1 | exact K.to.2.2.2.1 | exact K.to.2.2.2.2.1 | exact K.to.2.2.2.2.2.1 | exact K.to.2.2.2.2.2.2.1 | exact K.to.2.2.2.2.2.2.2 | exact K.tr.2.1 | exact K.tr.2.2.1 | exact K.tr.2.2.2.1 | exact K.tr.2.2.2.2.1 | exact K.tr.2.2.2.2.2.1 | exact K.tr.2.2.2.2.2.2.1 | exact K.tr.2.2.2.2.2.2.2) (by first | assumption | omega | exact K.to | exact K.tr | exact K.to.2.1 | exact K.to.2.2.1 | exact K.to.2.2.2.1 | exact K.to.2.2.2.2.1 | exact K.to.2.2.2.2.2.1 | exact K.to.2.2.2.2.2.2.1 | exact K.to.2.2.2.2.2.2.2 | exact K.tr.2.1 | exact K.tr.2.2.1 | exact K.tr.2.2.2.1 | exact K.tr.2.2.2.2.1 | exact K.tr.2.2.2.2.2.1 | exact K.tr.2.2.2.2.2.2.1 | exact K.tr.2.2.2.2.2.2.2)) rfl rfl (by first | exact K.to.o | exact K.tr.o | exact K.k0.o | exact K.k1.o) (by rfl) (by decide) (Nat.le_of_ble_eq_true rfl) ?_
  first | refine wp_ifb_ne (pc := 9) 20 dX11_between_9 (by decide) (fun c9 => ?_) (fun c9 => ?_) | refine wp_if_ne (pc := 9) 20 dX11_between_9 (by decide) (by first | omega | exact TI.i5 (by assumption) | exact TI.i3 (by assumption) | exact TI.i2 (by assumption) | exact TI.i1 (by assumption) | exact TI.i0 (by assumption) | exact TI.i4 (by assumption) | exact TI.i6 (by assumption) | exact TI.i7 (by assumption)) (fun c9 => ?_) (fun c9 => ?_)
  ·
    refine wp_iload_n (pc := 20) dX11_between_20 rfl ?_
    rcases (show c = 0 ∨ c = 1 ∨ c = 2 by omega) with e | e | e
    · subst e
      refine wp_tswIn (pc := 21) 48 dX11_between_21 (by omega) (by decide) (by decide) rfl (by decide) ?_
      refine wp_aload_n (pc := 48) dX11_between_48 rfl ?_
      refine wp_getf (pc := 49) dX11_between_49 gf_X11_26 K.ob (by rfl) ?_
      refine wp_getf (pc := 52) dX11_between_52 gf_X11_133 (by first | exact K.ob | exact K.to.1 | exact K.tr.1 | exact K.to.2.1 | exact K.to.2.2.1 | exact K.to.2.2.2.1 | exact K.to.2.2.2.2.1 | exact K.to.2.2.2.2.2.1 | exact K.to.2.2.2.2.2.2.1 | exact K.to.2.2.2.2.2.2.2 | exact K.tr.2.1 | exact K.tr.2.2.1 | exact K.tr.2.2.2.1 | exact K.tr.2.2.2.2.1 | exact K.tr.2.2.2.2.2.1 | exact K.tr.2.2.2.2.2.2.1 | exact K.tr.2.2.2.2.2.2.2) (by rfl) ?_
      refine wp_iload_n (pc := 55) dX11_between_55 rfl ?_
      refine wp_iload_n (pc := 56) dX11_between_56 rfl ?_
      refine wp_Sp (pc := 57) dX11_between_57 cl_X11_137 sp_D_pair rfl rfl (by decide) (Nat.le_of_ble_eq_true rfl) ?_
      refine wp_iald (pc := 60) dX11_between_60 (by first | exact K.ob | exact K.to.1 | exact K.tr.1 | exact K.to.2.1 | exact K.to.2.2.1 | exact K.to.2.2.2.1 | exact K.to.2.2.2.2.1 | exact K.to.2.2.2.2.2.1 | exact K.to.2.2.2.2.2.2.1 | exact K.to.2.2.2.2.2.2.2 | exact K.tr.2.1 | exact K.tr.2.2.1 | exact K.tr.2.2.2.1 | exact K.tr.2.2.2.2.1 | exact K.tr.2.2.2.2.2.1 | exact K.tr.2.2.2.2.2.2.1 | exact K.tr.2.2.2.2.2.2.2) (by omega) (by omega) (by decide) ?_
      exact wp_ir (pc := 61) dX11_between_61 rfl (by decide) (by decide) (by first | rfl | omega) ⟨⟨_, _, _, _, _, K⟩, O⟩
    · subst e
      refine wp_tswIn (pc := 21) 62 dX11_between_21 (by omega) (by decide) (by decide) rfl (by decide) ?_
      refine wp_aload_n (pc := 62) dX11_between_62 rfl ?_
      refine wp_getf (pc := 63) dX11_between_63 gf_X11_91 K.ob (by rfl) ?_
      refine wp_aload_n (pc := 66) dX11_between_66 rfl ?_
      refine wp_getf (pc := 67) dX11_between_67 gf_X11_26 K.ob (by rfl) ?_
      refine wp_iload_n (pc := 70) dX11_between_70 rfl ?_
      refine wp_iload_n (pc := 71) dX11_between_71 rfl ?_
      refine wd_Vs (pc := 72) dX11_between_72 cl_X11_176 (sp_Rule_words K.ru (by first | exact K.to | exact K.tr) (by first | assumption | omega) (by first | assumption | omega) (by first | assumption | omega) (by have := K.rs; omega)) rfl rfl (by first | exact K.ru.o | exact K.sp.o) (by rfl) (by decide) (Nat.le_of_ble_eq_true rfl) (fun hp72 e72 => ?_)
      obtain ⟨h72, o72⟩ := e72
      replace O := O.inn o72 (by have := K.rs; omega) (by have := K.rs; omega)
      replace K := K.uRu h72 o72
      exact wp_ir (pc := 75) dX11_between_75 rfl (by decide) (by decide) (by first | rfl | omega) ⟨⟨_, _, _, _, _, K⟩, O⟩
    · subst e
      refine wp_tswIn (pc := 21) 76 dX11_between_21 (by omega) (by decide) (by decide) rfl (by decide) ?_
      refine wp_aload_n (pc := 76) dX11_between_76 rfl ?_
      refine wp_getf (pc := 77) dX11_between_77 gf_X11_26 K.ob (by rfl) ?_
      refine wp_getf (pc := 80) dX11_between_80 gf_X11_180 (by first | exact K.ob | exact K.to.1 | exact K.tr.1 | exact K.to.2.1 | exact K.to.2.2.1 | exact K.to.2.2.2.1 | exact K.to.2.2.2.2.1 | exact K.to.2.2.2.2.2.1 | exact K.to.2.2.2.2.2.2.1 | exact K.to.2.2.2.2.2.2.2 | exact K.tr.2.1 | exact K.tr.2.2.1 | exact K.tr.2.2.2.1 | exact K.tr.2.2.2.2.1 | exact K.tr.2.2.2.2.2.1 | exact K.tr.2.2.2.2.2.2.1 | exact K.tr.2.2.2.2.2.2.2) (by rfl) ?_
      refine wp_iload_n (pc := 83) dX11_between_83 rfl ?_
      refine wp_iload_n (pc := 84) dX11_between_84 rfl ?_
      refine wp_Sp (pc := 85) dX11_between_85 cl_X11_137 sp_D_pair rfl rfl (by decide) (Nat.le_of_ble_eq_true rfl) ?_
      refine wp_iald (pc := 88) dX11_between_88 (by first | exact K.ob | exact K.to.1 | exact K.tr.1 | exact K.to.2.1 | exact K.to.2.2.1 | exact K.to.2.2.2.1 | exact K.to.2.2.2.2.1 | exact K.to.2.2.2.2.2.1 | exact K.to.2.2.2.2.2.2.1 | exact K.to.2.2.2.2.2.2.2 | exact K.tr.2.1 | exact K.tr.2.2.1 | exact K.tr.2.2.2.1 | exact K.tr.2.2.2.2.1 | exact K.tr.2.2.2.2.2.1 | exact K.tr.2.2.2.2.2.2.1 | exact K.tr.2.2.2.2.2.2.2) (by omega) (by omega) (by decide) ?_
      exact wp_ir (pc := 89) dX11_between_89 rfl (by decide) (by decide) (by first | rfl | omega) ⟨⟨_, _, _, _, _, K⟩, O⟩
  ·
    exact absurd c9 (by omega)
theorem sp_D_row (K : DA hp D r s Tr z Z T U tx rw rt hs ss KT) (rx : InR x) (hn : 0 ≤ x ∧ x < rw.length) : Sp g MX11_row (rm 1 0 0) [.ref D, .int (I x)] hp (Eff (.long (J (rw.getD x.toNat 0))) (fun hp2 => DX hp2 D T U tx rw rt hs ss KT ∧ SO hp hp2 D (D + 171))) := by
  have hl : rw.length ≤ 6 := by obtain ⟨F, r0, r1, hl, hF⟩ := K.ro; exact hl
  refine Sp_mk rfl (Nat.le_of_ble_eq_true rfl) ?_
  show wp g _ _ _ 0 0 0 [some (.ref D), some (.int (I x))] [] hp
  have O := SO.rf (hp := hp) (lo := D) (hi := D + 171)
  refine wp_iload_n (pc := 0) dX11_row_0 rfl ?_
  refine wp_if_lt (pc := 1) 15 dX11_row_1 (by decide) (by first | omega | exact TI.i5 (by assumption) | exact TI.i3 (by assumption) | exact TI.i2 (by assumption) | exact TI.i1 (by assumption) | exact TI.i0 (by assumption) | exact TI.i4 (by assumption) | exact TI.i6 (by assumption) | exact TI.i7 (by assumption)) (fun c1 => ?_) (fun c1 => ?_)
  ·
    exact absurd c1 (by omega)
  ·
    refine wp_iload_n (pc := 4) dX11_row_4 rfl ?_
    refine wp_aload_n (pc := 5) dX11_row_5 rfl ?_
    refine wp_getf (pc := 6) dX11_row_6 gf_X11_19 K.ob (by rfl) ?_
    refine wd_Vp (pc := 9) dX11_row_9 cl_X11_378 (sp_Row_size K.ro) rfl rfl K.ro.o (by rfl) (by decide) (Nat.le_of_ble_eq_true rfl) ?_
    refine wp_icmp_lt (pc := 12) 23 dX11_row_12 (by decide) (by first | omega | exact TI.i5 (by assumption) | exact TI.i3 (by assumption) | exact TI.i2 (by assumption) | exact TI.i1 (by assumption) | exact TI.i0 (by assumption) | exact TI.i4 (by assumption) | exact TI.i6 (by assumption) | exact TI.i7 (by assumption)) (by first | omega | exact TI.i5 (by assumption) | exact TI.i3 (by assumption) | exact TI.i2 (by assumption) | exact TI.i1 (by assumption) | exact TI.i0 (by assumption) | exact TI.i4 (by assumption) | exact TI.i6 (by assumption) | exact TI.i7 (by assumption)) (fun c12 => ?_) (fun c12 => ?_)
    ·
      refine wp_aload_n (pc := 23) dX11_row_23 rfl ?_
      refine wp_getf (pc := 24) dX11_row_24 gf_X11_19 K.ob (by rfl) ?_
      refine wp_iload_n (pc := 27) dX11_row_27 rfl ?_
      refine wd_Vp (pc := 28) dX11_row_28 cl_X11_382 (sp_Row_at K.ro (by first | assumption | omega)) rfl rfl K.ro.o (by rfl) (by decide) (Nat.le_of_ble_eq_true rfl) ?_
      rw [if_pos hn]
      exact wp_lr (pc := 31) dX11_row_31 rfl (by decide) (by decide) (by first | rfl | omega) ⟨⟨_, _, _, _, _, K⟩, O⟩
    ·
      exact absurd c12 (by omega)
end TR

