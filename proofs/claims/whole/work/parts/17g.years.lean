/-! the class: laws tried, years, kept towns, counts, sheets -/
section D6
variable {g : GT} {hp hp2 hp0 : Hp} {D r s N n k i P : Nat} {T T2 Tr Z X : Nat → Int → Int} {z x y a b c : Int} {U : List (Nat → Int → Int)} {tx rw rt : List Int} {hs : List (Int × Int)} {ss : List (Int × Int × Int)} {KT KT2 : Nat → Option (Nat → Int → Int)}
theorem sp_D_law (K : DA hp D r s Tr z Z T U tx rw rt hs ss KT) (hI : TI T N) (hH : HS T) (hb : T 7 0 < 1900000000) (hl : byl tx) : Sp g MX11_law (rm 34 0 0) [.ref D] hp (Eff (.int (I (if rdv tx = -1 then h12 (stl tx) T N - h12 (stl rt) T N else -100000 - rdv tx))) (fun hp2 => DX hp2 D T U [] (if rdv tx = -1 then [h12 (stl tx) T N, h12 (stl rt) T N] else rw) rt hs ss KT ∧ SO hp hp2 D (D + 171))) := by
  have hv := rdv_in hl
  have hN := hI.men.2
  have hI2 := runT_I (cs := stl rt) hI 12 (by omega)
  have hI3 := runT_I (cs := stl tx) hI 12 (by omega)
  have e1 := h12_in (cs := stl tx) hI hb
  have e2 := h12_in (cs := stl rt) hI hb
  have e3 : sm (runT (stl tx) T N 12 3) N = h12 (stl tx) T N := rfl
  have e4 : sm (runT (stl rt) T N 12 3) N = h12 (stl rt) T N := rfl
  refine Sp_mk rfl (Nat.le_of_ble_eq_true rfl) ?_
  show wp g _ _ _ 0 0 0 [some (.ref D), none, none, none] [] hp
  have O := SO.rf (hp := hp) (lo := D) (hi := D + 171)
  refine wp_aload_n (pc := 0) dX11_law_0 rfl ?_
  refine wp_getf (pc := 1) dX11_law_1 gf_X11_95 K.ob (by rfl) ?_
  refine wp_aload_n (pc := 4) dX11_law_4 rfl ?_
  refine wp_getf (pc := 5) dX11_law_5 gf_X11_12 K.ob (by rfl) ?_
  refine wd_Vs (pc := 8) dX11_law_8 cl_X11_144 (sp_Rule_read K.sp K.te (by first | assumption | omega) (by have := K.rs; omega)) rfl rfl (by first | exact K.ru.o | exact K.sp.o) (by rfl) (by decide) (Nat.le_of_ble_eq_true rfl) (fun hp8 e8 => ?_)
  obtain ⟨h8, hr8, o8⟩ := e8
  replace O := O.inn o8 (by have := K.rs; omega) (by have := K.rs; omega)
  replace K := K.uSp h8 o8
  refine wp_istore_n (pc := 11) dX11_law_11 (by decide) ?_
  refine wp_aload_n (pc := 12) dX11_law_12 rfl ?_
  refine wp_getf (pc := 13) dX11_law_13 gf_X11_12 K.ob (by rfl) ?_
  refine wd_Vn (pc := 16) dX11_law_16 cl_X11_124 (sp_Text_clear K.te) rfl rfl K.te.o (by rfl) (by decide) (Nat.le_of_ble_eq_true rfl) (fun hp16 e16 => ?_)
  obtain ⟨h16, o16⟩ := e16
  replace O := O.inn o16 (by omega) (by omega)
  replace K := K.uTe h16 o16
  replace hr8 := fun c => (hr8 c).off fun x _ _ => o16.2 x (by have := K.rs; omega)
  refine wp_iload_n (pc := 19) dX11_law_19 rfl ?_
  refine wp_iconst (pc := 20) dX11_law_20 ?_
  refine wp_icmp_eq (pc := 21) 30 dX11_law_21 (by decide) (by first | omega | exact TI.i5 (by assumption) | exact TI.i3 (by assumption) | exact TI.i2 (by assumption) | exact TI.i1 (by assumption) | exact TI.i0 (by assumption) | exact TI.i4 (by assumption) | exact TI.i6 (by assumption) | exact TI.i7 (by assumption)) (by first | omega | exact TI.i5 (by assumption) | exact TI.i3 (by assumption) | exact TI.i2 (by assumption) | exact TI.i1 (by assumption) | exact TI.i0 (by assumption) | exact TI.i4 (by assumption) | exact TI.i6 (by assumption) | exact TI.i7 (by assumption)) (fun c21 => ?_) (fun c21 => ?_)
  ·
    rw [if_pos c21, if_pos c21] -- go
    refine wp_aload_n (pc := 30) dX11_law_30 rfl ?_
    refine wp_getf (pc := 31) dX11_law_31 gf_X11_30 K.ob (by rfl) ?_
    refine wp_aload_n (pc := 34) dX11_law_34 rfl ?_
    refine wp_getf (pc := 35) dX11_law_35 gf_X11_26 K.ob (by rfl) ?_
    refine wd_Vn (pc := 38) dX11_law_38 cl_X11_250 (sp_Town_copy K.tr K.to (by omega)) rfl rfl (by first | exact K.to.o | exact K.tr.o | exact K.k0.o | exact K.k1.o) (by rfl) (by decide) (Nat.le_of_ble_eq_true rfl) (fun hp38 e38 => ?_)
    obtain ⟨h38, o38⟩ := e38
    replace O := O.inn o38 (by omega) (by omega)
    replace K := K.uTr h38 o38
    replace hr8 := (hr8 c21).off fun x _ _ => o38.2 x (by have := K.rs; omega)
    refine wp_aload_n (pc := 41) dX11_law_41 rfl ?_
    refine wp_getf (pc := 42) dX11_law_42 gf_X11_36 K.ob (by rfl) ?_
    refine wp_aload_n (pc := 45) dX11_law_45 rfl ?_
    refine wp_getf (pc := 46) dX11_law_46 gf_X11_30 K.ob (by rfl) ?_
    refine wp_aload_n (pc := 49) dX11_law_49 rfl ?_
    refine wp_getf (pc := 50) dX11_law_50 gf_X11_95 K.ob (by rfl) ?_
    refine wp_bipush (pc := 53) (y := 12) dX11_law_53 (by decide) ?_
    refine wd_Vs (pc := 55) dX11_law_55 cl_X11_197 (sp_Clock_run (n := 12) K.tr hI hH (by omega) (by omega) K.cl hr8 (by omega) (by have := K.rs; omega) (by have := K.rs; omega)) rfl rfl K.cl.o (by rfl) (by decide) (Nat.le_of_ble_eq_true rfl) (fun hp55 e55 => ?_)
    obtain ⟨t55, c55, u55, q55, o55⟩ := e55; replace O := O.cr q55 o55 (by have := K.rs; omega) (by omega) (by omega); replace K := K.cSp t55 c55 u55.raw o55
    refine wp_pop (pc := 58) dX11_law_58 rfl ?_
    refine wp_aload_n (pc := 59) dX11_law_59 rfl ?_
    refine wp_getf (pc := 60) dX11_law_60 gf_X11_30 K.ob (by rfl) ?_
    refine wp_aload_n (pc := 63) dX11_law_63 rfl ?_
    refine wp_getf (pc := 64) dX11_law_64 gf_X11_30 K.ob (by rfl) ?_
    refine wp_getf (pc := 67) dX11_law_67 gf_X11_154 (by first | exact K.ob | exact K.to.1 | exact K.tr.1 | exact K.to.2.1 | exact K.to.2.2.1 | exact K.to.2.2.2.1 | exact K.to.2.2.2.2.1 | exact K.to.2.2.2.2.2.1 | exact K.to.2.2.2.2.2.2.1 | exact K.to.2.2.2.2.2.2.2 | exact K.tr.2.1 | exact K.tr.2.2.1 | exact K.tr.2.2.2.1 | exact K.tr.2.2.2.2.1 | exact K.tr.2.2.2.2.2.1 | exact K.tr.2.2.2.2.2.2.1 | exact K.tr.2.2.2.2.2.2.2) (by rfl) ?_
    refine wd_Vp (pc := 70) dX11_law_70 cl_X11_189 (sp_Town_sum K.tr hI3 K.tr.2.2.2.2.1 (by omega) (by omega)) rfl rfl (by first | exact K.to.o | exact K.tr.o | exact K.k0.o | exact K.k1.o) (by rfl) (by decide) (Nat.le_of_ble_eq_true rfl) ?_
    rw [e3]
    refine wp_istore_n (pc := 73) dX11_law_73 (by decide) ?_
    refine wp_aload_n (pc := 74) dX11_law_74 rfl ?_
    refine wp_bipush (pc := 75) (y := 12) dX11_law_75 (by decide) ?_
    refine wd_Vn (pc := 77) dX11_law_77 cl_X11_256 (sp_D_lookAhead (n := 12) K hI hH hb (by omega)) rfl rfl K.o (by rfl) (by decide) (Nat.le_of_ble_eq_true rfl) (fun hp77 e77 => ?_)
    obtain ⟨K, O1⟩ := e77; replace O := SO.tr O O1
    refine wp_aload_n (pc := 80) dX11_law_80 rfl ?_
    refine wp_getf (pc := 81) dX11_law_81 gf_X11_30 K.ob (by rfl) ?_
    refine wp_aload_n (pc := 84) dX11_law_84 rfl ?_
    refine wp_getf (pc := 85) dX11_law_85 gf_X11_30 K.ob (by rfl) ?_
    refine wp_getf (pc := 88) dX11_law_88 gf_X11_154 (by first | exact K.ob | exact K.to.1 | exact K.tr.1 | exact K.to.2.1 | exact K.to.2.2.1 | exact K.to.2.2.2.1 | exact K.to.2.2.2.2.1 | exact K.to.2.2.2.2.2.1 | exact K.to.2.2.2.2.2.2.1 | exact K.to.2.2.2.2.2.2.2 | exact K.tr.2.1 | exact K.tr.2.2.1 | exact K.tr.2.2.2.1 | exact K.tr.2.2.2.2.1 | exact K.tr.2.2.2.2.2.1 | exact K.tr.2.2.2.2.2.2.1 | exact K.tr.2.2.2.2.2.2.2) (by rfl) ?_
    refine wd_Vp (pc := 91) dX11_law_91 cl_X11_189 (sp_Town_sum K.tr hI2 K.tr.2.2.2.2.1 (by omega) (by omega)) rfl rfl (by first | exact K.to.o | exact K.tr.o | exact K.k0.o | exact K.k1.o) (by rfl) (by decide) (Nat.le_of_ble_eq_true rfl) ?_
    rw [e4]
    refine wp_istore_n (pc := 94) dX11_law_94 (by decide) ?_
    refine wp_aload_n (pc := 95) dX11_law_95 rfl ?_
    refine wp_getf (pc := 96) dX11_law_96 gf_X11_19 K.ob (by rfl) ?_
    refine wp_iload_n (pc := 99) dX11_law_99 rfl ?_
    refine wp_i2l (pc := 100) dX11_law_100 (by first | omega | exact TI.i5 (by assumption) | exact TI.i3 (by assumption) | exact TI.i2 (by assumption) | exact TI.i1 (by assumption) | exact TI.i0 (by assumption) | exact TI.i4 (by assumption) | exact TI.i6 (by assumption) | exact TI.i7 (by assumption)) ?_
    refine wp_iload_n (pc := 101) dX11_law_101 rfl ?_
    refine wp_i2l (pc := 102) dX11_law_102 (by first | omega | exact TI.i5 (by assumption) | exact TI.i3 (by assumption) | exact TI.i2 (by assumption) | exact TI.i1 (by assumption) | exact TI.i0 (by assumption) | exact TI.i4 (by assumption) | exact TI.i6 (by assumption) | exact TI.i7 (by assumption)) ?_
    refine wd_Vn (pc := 103) dX11_law_103 cl_X11_204 (sp_Row_tell_ K.ro) rfl rfl K.ro.o (by rfl) (by decide) (Nat.le_of_ble_eq_true rfl) (fun hp103 e103 => ?_)
    obtain ⟨h103, o103⟩ := e103
    replace O := O.inn o103 (by omega) (by omega)
    replace K := K.uRo h103 o103
    refine wp_iload_n (pc := 106) dX11_law_106 rfl ?_
    refine wp_iload_n (pc := 107) dX11_law_107 rfl ?_
    refine wp_isub (pc := 108) dX11_law_108 ?_
    exact wp_ir (pc := 109) dX11_law_109 rfl (by decide) (by decide) (by first | rfl | omega) ⟨⟨_, _, _, _, _, K⟩, O⟩
  ·
    rw [if_neg c21, if_neg c21] -- go
    refine wp_ldcw (pc := 24) dX11_law_24 kc_X11_350 ?_
    refine wp_iload_n (pc := 27) dX11_law_27 rfl ?_
    refine wp_isub (pc := 28) dX11_law_28 ?_
    exact wp_ir (pc := 29) dX11_law_29 rfl (by decide) (by decide) (by first | rfl | omega) ⟨⟨_, _, _, _, _, K⟩, O⟩
/-! years -/
theorem sp_D_drawEvent (hI : TI Tr N) (hH : HS Tr) (hb : Tr 7 0 + 1 < 2000000000) (K : DA hp D r s Tr (nxt z) Z T U tx rw rt hs ss KT) : Sp g MX11_drawEvent (rm 6 0 0) [.ref D, .int (I (hi16 (nxt z) % 4))] hp (Vod (fun hp2 => DA hp2 D r s (yst (stl rt) N (Tr, z)).1 (yst (stl rt) N (Tr, z)).2 Z T U tx rw rt hs ss KT ∧ SO hp hp2 D (D + 171))) := by
  obtain ⟨h8, hN⟩ := hI.men
  have q1 := hi16_in (nxt z)
  have q2 := hi16_in (nxt (nxt z))
  have q3 := hi16_in (nxt (nxt (nxt z)))
  have hp0 : 0 < N → 0 ≤ hi16 (nxt (nxt z)) % (N : Int) ∧ hi16 (nxt (nxt z)) % (N : Int) < N := fun q => ⟨Int.emod_nonneg _ (by omega), Int.emod_lt_of_pos _ (by omega)⟩
  have hr : hi16 (nxt z) % 4 < 2 → yst (stl rt) N (Tr, z) = (pasT (stl rt) Tr N, nxt z) := fun q => if_pos q
  have hr0 : ¬ hi16 (nxt z) % 4 < 2 → N = 0 → yst (stl rt) N (Tr, z) = (Tr, nxt z) := fun q q' => (if_neg q).trans (if_pos q')
  have hr2 : ¬ hi16 (nxt z) % 4 < 2 → ¬ N = 0 → hi16 (nxt z) % 4 = 2 → yst (stl rt) N (Tr, z) = (dieT Tr N (hi16 (nxt (nxt z)) % N) (hi16 (nxt (nxt (nxt z))) % 9 + 1), nxt (nxt (nxt z))) := fun q q' q'' => (if_neg q).trans ((if_neg q').trans (if_pos q''))
  have hr3 : ¬ hi16 (nxt z) % 4 < 2 → ¬ N = 0 → ¬ hi16 (nxt z) % 4 = 2 → yst (stl rt) N (Tr, z) = (couT Tr N (hi16 (nxt (nxt z)) % N), nxt (nxt z)) := fun q q' q'' => (if_neg q).trans ((if_neg q').trans (if_neg q''))
  refine Sp_mk rfl (Nat.le_of_ble_eq_true rfl) ?_
  show wp g _ _ _ 0 0 0 [some (.ref D), some (.int (I (hi16 (nxt z) % 4))), none] [] hp
  have O := SO.rf (hp := hp) (lo := D) (hi := D + 171)
  refine wp_iload_n (pc := 0) dX11_drawEvent_0 rfl ?_
  refine wp_iconst (pc := 1) dX11_drawEvent_1 ?_
  refine wp_icmp_ge (pc := 2) 25 dX11_drawEvent_2 (by decide) (by first | omega | exact TI.i5 (by assumption) | exact TI.i3 (by assumption) | exact TI.i2 (by assumption) | exact TI.i1 (by assumption) | exact TI.i0 (by assumption) | exact TI.i4 (by assumption) | exact TI.i6 (by assumption) | exact TI.i7 (by assumption)) (by first | omega | exact TI.i5 (by assumption) | exact TI.i3 (by assumption) | exact TI.i2 (by assumption) | exact TI.i1 (by assumption) | exact TI.i0 (by assumption) | exact TI.i4 (by assumption) | exact TI.i6 (by assumption) | exact TI.i7 (by assumption)) (fun c2 => ?_) (fun c2 => ?_)
  ·
    refine wp_aload_n (pc := 25) dX11_drawEvent_25 rfl ?_
    refine wp_getf (pc := 26) dX11_drawEvent_26 gf_X11_30 K.ob (by rfl) ?_
    refine wp_getf (pc := 29) dX11_drawEvent_29 gf_X11_110 (by first | exact K.ob | exact K.to.1 | exact K.tr.1 | exact K.to.2.1 | exact K.to.2.2.1 | exact K.to.2.2.2.1 | exact K.to.2.2.2.2.1 | exact K.to.2.2.2.2.2.1 | exact K.to.2.2.2.2.2.2.1 | exact K.to.2.2.2.2.2.2.2 | exact K.tr.2.1 | exact K.tr.2.2.1 | exact K.tr.2.2.2.1 | exact K.tr.2.2.2.2.1 | exact K.tr.2.2.2.2.2.1 | exact K.tr.2.2.2.2.2.2.1 | exact K.tr.2.2.2.2.2.2.2) (by rfl) ?_
    refine wp_if_le (pc := 32) 87 dX11_drawEvent_32 (by decide) (by first | omega | exact TI.i5 (by assumption) | exact TI.i3 (by assumption) | exact TI.i2 (by assumption) | exact TI.i1 (by assumption) | exact TI.i0 (by assumption) | exact TI.i4 (by assumption) | exact TI.i6 (by assumption) | exact TI.i7 (by assumption)) (fun c32 => ?_) (fun c32 => ?_)
    ·
      rw [hr0 (by omega) (by omega)] -- go
      exact wp_vr (pc := 87) dX11_drawEvent_87 rfl (by decide) (by decide) ⟨K, O⟩
    ·
      refine wp_aload_n (pc := 35) dX11_drawEvent_35 rfl ?_
      refine wp_getf (pc := 36) dX11_drawEvent_36 gf_X11_84 K.ob (by rfl) ?_
      refine wp_aload_n (pc := 39) dX11_drawEvent_39 rfl ?_
      refine wp_getf (pc := 40) dX11_drawEvent_40 gf_X11_30 K.ob (by rfl) ?_
      refine wp_getf (pc := 43) dX11_drawEvent_43 gf_X11_110 (by first | exact K.ob | exact K.to.1 | exact K.tr.1 | exact K.to.2.1 | exact K.to.2.2.1 | exact K.to.2.2.2.1 | exact K.to.2.2.2.2.1 | exact K.to.2.2.2.2.2.1 | exact K.to.2.2.2.2.2.2.1 | exact K.to.2.2.2.2.2.2.2 | exact K.tr.2.1 | exact K.tr.2.2.1 | exact K.tr.2.2.2.1 | exact K.tr.2.2.2.2.1 | exact K.tr.2.2.2.2.2.1 | exact K.tr.2.2.2.2.2.2.1 | exact K.tr.2.2.2.2.2.2.2) (by rfl) ?_
      rw [h8]
      refine wd_Vs (pc := 46) dX11_drawEvent_46 cl_X11_354 (sp_Draws_of (a := (N : Int)) K.dr (by omega) (by omega)) rfl rfl K.dr.o (by rfl) (by decide) (Nat.le_of_ble_eq_true rfl) (fun hp46 e46 => ?_)
      obtain ⟨h46, o46⟩ := e46
      replace O := O.inn o46 (by omega) (by omega)
      replace K := K.uDr h46 o46
      refine wp_istore_n (pc := 49) dX11_drawEvent_49 (by decide) ?_
      have hp1 := hp0 (by omega)
      refine wp_iload_n (pc := 50) dX11_drawEvent_50 rfl ?_
      refine wp_iconst (pc := 51) dX11_drawEvent_51 ?_
      refine wp_icmp_ne (pc := 52) 78 dX11_drawEvent_52 (by decide) (by first | omega | exact TI.i5 (by assumption) | exact TI.i3 (by assumption) | exact TI.i2 (by assumption) | exact TI.i1 (by assumption) | exact TI.i0 (by assumption) | exact TI.i4 (by assumption) | exact TI.i6 (by assumption) | exact TI.i7 (by assumption)) (by first | omega | exact TI.i5 (by assumption) | exact TI.i3 (by assumption) | exact TI.i2 (by assumption) | exact TI.i1 (by assumption) | exact TI.i0 (by assumption) | exact TI.i4 (by assumption) | exact TI.i6 (by assumption) | exact TI.i7 (by assumption)) (fun c52 => ?_) (fun c52 => ?_)
      ·
        rw [hr3 (by omega) (by omega) (by omega)] -- go
        refine wp_aload_n (pc := 78) dX11_drawEvent_78 rfl ?_
        refine wp_getf (pc := 79) dX11_drawEvent_79 gf_X11_30 K.ob (by rfl) ?_
        refine wp_iload_n (pc := 82) dX11_drawEvent_82 rfl ?_
        refine wd_Vs (pc := 83) dX11_drawEvent_83 cl_X11_217 (sp_Town_letCough (by first | exact K.to | exact K.tr) (by first | assumption | omega) (by first | assumption | omega)) rfl rfl (by first | exact K.to.o | exact K.tr.o | exact K.k0.o | exact K.k1.o) (by rfl) (by decide) (Nat.le_of_ble_eq_true rfl) (fun hp83 e83 => ?_)
        obtain ⟨h83, o83⟩ := e83
        replace O := O.inn o83 (by omega) (by omega)
        first | replace K := K.uTo h83 o83 | replace K := K.uTr h83 o83
        refine wp_pop (pc := 86) dX11_drawEvent_86 rfl ?_
        exact wp_vr (pc := 87) dX11_drawEvent_87 rfl (by decide) (by decide) ⟨K, O⟩
      ·
        rw [hr2 (by omega) (by omega) (by omega)] -- go
        refine wp_aload_n (pc := 55) dX11_drawEvent_55 rfl ?_
        refine wp_getf (pc := 56) dX11_drawEvent_56 gf_X11_30 K.ob (by rfl) ?_
        refine wp_iload_n (pc := 59) dX11_drawEvent_59 rfl ?_
        refine wp_aload_n (pc := 60) dX11_drawEvent_60 rfl ?_
        refine wp_getf (pc := 61) dX11_drawEvent_61 gf_X11_84 K.ob (by rfl) ?_
        refine wp_bipush (pc := 64) (y := 9) dX11_drawEvent_64 (by decide) ?_
        refine wd_Vs (pc := 66) dX11_drawEvent_66 cl_X11_354 (sp_Draws_of K.dr (by first | assumption | omega) (by first | assumption | omega)) rfl rfl K.dr.o (by rfl) (by decide) (Nat.le_of_ble_eq_true rfl) (fun hp66 e66 => ?_)
        obtain ⟨h66, o66⟩ := e66
        replace O := O.inn o66 (by omega) (by omega)
        replace K := K.uDr h66 o66
        refine wp_iconst (pc := 69) dX11_drawEvent_69 ?_
        refine wp_iadd (pc := 70) dX11_drawEvent_70 ?_
        refine wd_Vs (pc := 71) dX11_drawEvent_71 cl_X11_211 (sp_Town_letDie (by first | exact K.to | exact K.tr) (by first | assumption | omega) (by first | assumption | omega) (by first | assumption | omega)) rfl rfl (by first | exact K.to.o | exact K.tr.o | exact K.k0.o | exact K.k1.o) (by rfl) (by decide) (Nat.le_of_ble_eq_true rfl) (fun hp71 e71 => ?_)
        obtain ⟨h71, o71⟩ := e71
        replace O := O.inn o71 (by omega) (by omega)
        first | replace K := K.uTo h71 o71 | replace K := K.uTr h71 o71
        refine wp_pop (pc := 74) dX11_drawEvent_74 rfl ?_
        refine wp_goto (pc := 75) 87 dX11_drawEvent_75 (by decide) ?_
        exact wp_vr (pc := 87) dX11_drawEvent_87 rfl (by decide) (by decide) ⟨K, O⟩
  ·
    rw [hr (by omega)] -- go
    refine wp_aload_n (pc := 5) dX11_drawEvent_5 rfl ?_
    refine wp_getf (pc := 6) dX11_drawEvent_6 gf_X11_36 K.ob (by rfl) ?_
    refine wp_aload_n (pc := 9) dX11_drawEvent_9 rfl ?_
    refine wp_getf (pc := 10) dX11_drawEvent_10 gf_X11_30 K.ob (by rfl) ?_
    refine wp_aload_n (pc := 13) dX11_drawEvent_13 rfl ?_
    refine wp_getf (pc := 14) dX11_drawEvent_14 gf_X11_91 K.ob (by rfl) ?_
    refine wp_iconst (pc := 17) dX11_drawEvent_17 ?_
    refine wd_Vs (pc := 18) dX11_drawEvent_18 cl_X11_197 (sp_Clock_run (n := 1) K.tr hI hH (by omega) (by omega) K.cl K.ru (by omega) (by have := K.rs; omega) (by have := K.rs; omega)) rfl rfl K.cl.o (by rfl) (by decide) (Nat.le_of_ble_eq_true rfl) (fun hp18 e18 => ?_)
    obtain ⟨t18, c18, u18, e1, o18⟩ := e18
    replace O := O.cr e1 o18 (by have := K.rs; omega) (by omega) (by omega)
    first | replace K := K.cTo t18 c18 u18 o18 | replace K := K.cTr t18 c18 u18 o18
    refine wp_pop (pc := 21) dX11_drawEvent_21 rfl ?_
    refine wp_goto (pc := 22) 87 dX11_drawEvent_22 (by decide) ?_
    exact wp_vr (pc := 87) dX11_drawEvent_87 rfl (by decide) (by decide) ⟨K, O⟩
theorem lp_D_years (hI : TI T N) (hH : HS T) (hb : T 7 0 < 1900000000) (hn : n ≤ 60) : ∀ (m i : Nat), n < i + m → i ≤ n → ∀ (hp2 : Hp) (K : DA hp2 D r s (yrs (stl rt) T N x i).1 (yrs (stl rt) T N x i).2 Z T U tx rw rt hs ss KT) (O : SO hp hp2 D (D + 171)), wp g MX11_years (rm 7 0 0) (Eff (.int (I (sm ((yrs (stl rt) T N x n).1 3) N))) (fun hp3 => DX hp3 D T U tx [dct (yrs (stl rt) T N x n).1 N, sm ((yrs (stl rt) T N x n).1 4) N] rt hs ss KT ∧ SO hp hp3 D (D + 171))) 0 0 34 [some (.ref D), some (.int (I x)), some (.int (I (n : Int))), some (.int (I (i : Int)))] [] hp2 := by
  intro m
  induction m with
  | zero => intro i h1 h2; exact absurd h1 (by omega)
  | succ m ih =>
    intro i h1 h2 hp2 K O
    have hN := hI.men.2
    obtain ⟨hI2, hH2, h72⟩ := yrs_I (cs := stl rt) (x := x) hI hH hb i (by omega)
    have q1 := dct_in (yrs (stl rt) T N x i).1 N
    have q2 := sm_range (f := (yrs (stl rt) T N x i).1 4) (lo := 0) (hi := 99) (n := N) (fun j _ => hI2.r4 j)
    refine wp_iload_n (pc := 34) dX11_years_34 rfl ?_
    refine wp_iload_n (pc := 35) dX11_years_35 rfl ?_
    refine wp_icmp_ge (pc := 36) 57 dX11_years_36 (by decide) (by first | omega | exact TI.i5 (by assumption) | exact TI.i3 (by assumption) | exact TI.i2 (by assumption) | exact TI.i1 (by assumption) | exact TI.i0 (by assumption) | exact TI.i4 (by assumption) | exact TI.i6 (by assumption) | exact TI.i7 (by assumption)) (by first | omega | exact TI.i5 (by assumption) | exact TI.i3 (by assumption) | exact TI.i2 (by assumption) | exact TI.i1 (by assumption) | exact TI.i0 (by assumption) | exact TI.i4 (by assumption) | exact TI.i6 (by assumption) | exact TI.i7 (by assumption)) (fun c36 => ?_) (fun c36 => ?_)
    ·
      have e : i = n := by omega
      subst e -- go
      refine wp_aload_n (pc := 57) dX11_years_57 rfl ?_
      refine wp_getf (pc := 58) dX11_years_58 gf_X11_19 K.ob (by rfl) ?_
      refine wp_aload_n (pc := 61) dX11_years_61 rfl ?_
      refine wp_getf (pc := 62) dX11_years_62 gf_X11_30 K.ob (by rfl) ?_
      refine wd_Vp (pc := 65) dX11_years_65 cl_X11_208 (sp_Town_deadCount (by first | assumption | omega | exact K.to | exact K.tr | exact K.to.2.1 | exact K.to.2.2.1 | exact K.to.2.2.2.1 | exact K.to.2.2.2.2.1 | exact K.to.2.2.2.2.2.1 | exact K.to.2.2.2.2.2.2.1 | exact K.to.2.2.2.2.2.2.2 | exact K.tr.2.1 | exact K.tr.2.2.1 | exact K.tr.2.2.2.1 | exact K.tr.2.2.2.2.1 | exact K.tr.2.2.2.2.2.1 | exact K.tr.2.2.2.2.2.2.1 | exact K.tr.2.2.2.2.2.2.2) (by first | assumption | omega | exact K.to | exact K.tr | exact K.to.2.1 | exact K.to.2.2.1 | exact K.to.2.2.2.1 | exact K.to.2.2.2.2.1 | exact K.to.2.2.2.2.2.1 | exact K.to.2.2.2.2.2.2.1 | exact K.to.2.2.2.2.2.2.2 | exact K.tr.2.1 | exact K.tr.2.2.1 | exact K.tr.2.2.2.1 | exact K.tr.2.2.2.2.1 | exact K.tr.2.2.2.2.2.1 | exact K.tr.2.2.2.2.2.2.1 | exact K.tr.2.2.2.2.2.2.2)) rfl rfl (by first | exact K.to.o | exact K.tr.o | exact K.k0.o | exact K.k1.o) (by rfl) (by decide) (Nat.le_of_ble_eq_true rfl) ?_
      refine wp_i2l (pc := 68) dX11_years_68 (by first | omega | exact TI.i5 (by assumption) | exact TI.i3 (by assumption) | exact TI.i2 (by assumption) | exact TI.i1 (by assumption) | exact TI.i0 (by assumption) | exact TI.i4 (by assumption) | exact TI.i6 (by assumption) | exact TI.i7 (by assumption)) ?_
      refine wp_aload_n (pc := 69) dX11_years_69 rfl ?_
      refine wp_getf (pc := 70) dX11_years_70 gf_X11_30 K.ob (by rfl) ?_
      refine wp_aload_n (pc := 73) dX11_years_73 rfl ?_
      refine wp_getf (pc := 74) dX11_years_74 gf_X11_30 K.ob (by rfl) ?_
      refine wp_getf (pc := 77) dX11_years_77 gf_X11_157 (by first | exact K.ob | exact K.to.1 | exact K.tr.1 | exact K.to.2.1 | exact K.to.2.2.1 | exact K.to.2.2.2.1 | exact K.to.2.2.2.2.1 | exact K.to.2.2.2.2.2.1 | exact K.to.2.2.2.2.2.2.1 | exact K.to.2.2.2.2.2.2.2 | exact K.tr.2.1 | exact K.tr.2.2.1 | exact K.tr.2.2.2.1 | exact K.tr.2.2.2.2.1 | exact K.tr.2.2.2.2.2.1 | exact K.tr.2.2.2.2.2.2.1 | exact K.tr.2.2.2.2.2.2.2) (by rfl) ?_
      refine wd_Vp (pc := 80) dX11_years_80 cl_X11_189 (sp_Town_sum (by first | assumption | omega | exact K.to | exact K.tr | exact K.to.2.1 | exact K.to.2.2.1 | exact K.to.2.2.2.1 | exact K.to.2.2.2.2.1 | exact K.to.2.2.2.2.2.1 | exact K.to.2.2.2.2.2.2.1 | exact K.to.2.2.2.2.2.2.2 | exact K.tr.2.1 | exact K.tr.2.2.1 | exact K.tr.2.2.2.1 | exact K.tr.2.2.2.2.1 | exact K.tr.2.2.2.2.2.1 | exact K.tr.2.2.2.2.2.2.1 | exact K.tr.2.2.2.2.2.2.2) (by first | assumption | omega | exact K.to | exact K.tr | exact K.to.2.1 | exact K.to.2.2.1 | exact K.to.2.2.2.1 | exact K.to.2.2.2.2.1 | exact K.to.2.2.2.2.2.1 | exact K.to.2.2.2.2.2.2.1 | exact K.to.2.2.2.2.2.2.2 | exact K.tr.2.1 | exact K.tr.2.2.1 | exact K.tr.2.2.2.1 | exact K.tr.2.2.2.2.1 | exact K.tr.2.2.2.2.2.1 | exact K.tr.2.2.2.2.2.2.1 | exact K.tr.2.2.2.2.2.2.2) (by first | assumption | omega | exact K.to | exact K.tr | exact K.to.2.1 | exact K.to.2.2.1 | exact K.to.2.2.2.1 | exact K.to.2.2.2.2.1 | exact K.to.2.2.2.2.2.1 | exact K.to.2.2.2.2.2.2.1 | exact K.to.2.2.2.2.2.2.2 | exact K.tr.2.1 | exact K.tr.2.2.1 | exact K.tr.2.2.2.1 | exact K.tr.2.2.2.2.1 | exact K.tr.2.2.2.2.2.1 | exact K.tr.2.2.2.2.2.2.1 | exact K.tr.2.2.2.2.2.2.2) (by first | assumption | omega | exact K.to | exact K.tr | exact K.to.2.1 | exact K.to.2.2.1 | exact K.to.2.2.2.1 | exact K.to.2.2.2.2.1 | exact K.to.2.2.2.2.2.1 | exact K.to.2.2.2.2.2.2.1 | exact K.to.2.2.2.2.2.2.2 | exact K.tr.2.1 | exact K.tr.2.2.1 | exact K.tr.2.2.2.1 | exact K.tr.2.2.2.2.1 | exact K.tr.2.2.2.2.2.1 | exact K.tr.2.2.2.2.2.2.1 | exact K.tr.2.2.2.2.2.2.2) (by first | assumption | omega | exact K.to | exact K.tr | exact K.to.2.1 | exact K.to.2.2.1 | exact K.to.2.2.2.1 | exact K.to.2.2.2.2.1 | exact K.to.2.2.2.2.2.1 | exact K.to.2.2.2.2.2.2.1 | exact K.to.2.2.2.2.2.2.2 | exact K.tr.2.1 | exact K.tr.2.2.1 | exact K.tr.2.2.2.1 | exact K.tr.2.2.2.2.1 | exact K.tr.2.2.2.2.2.1 | exact K.tr.2.2.2.2.2.2.1 | exact K.tr.2.2.2.2.2.2.2)) rfl rfl (by first | exact K.to.o | exact K.tr.o | exact K.k0.o | exact K.k1.o) (by rfl) (by decide) (Nat.le_of_ble_eq_true rfl) ?_
      refine wp_i2l (pc := 83) dX11_years_83 (by first | omega | exact TI.i5 (by assumption) | exact TI.i3 (by assumption) | exact TI.i2 (by assumption) | exact TI.i1 (by assumption) | exact TI.i0 (by assumption) | exact TI.i4 (by assumption) | exact TI.i6 (by assumption) | exact TI.i7 (by assumption)) ?_
      refine wd_Vn (pc := 84) dX11_years_84 cl_X11_204 (sp_Row_tell_ K.ro) rfl rfl K.ro.o (by rfl) (by decide) (Nat.le_of_ble_eq_true rfl) (fun hp84 e84 => ?_)
      obtain ⟨h84, o84⟩ := e84
      replace O := O.inn o84 (by omega) (by omega)
      replace K := K.uRo h84 o84
      refine wp_aload_n (pc := 87) dX11_years_87 rfl ?_
      refine wp_getf (pc := 88) dX11_years_88 gf_X11_30 K.ob (by rfl) ?_
      refine wp_aload_n (pc := 91) dX11_years_91 rfl ?_
      refine wp_getf (pc := 92) dX11_years_92 gf_X11_30 K.ob (by rfl) ?_
      refine wp_getf (pc := 95) dX11_years_95 gf_X11_154 (by first | exact K.ob | exact K.to.1 | exact K.tr.1 | exact K.to.2.1 | exact K.to.2.2.1 | exact K.to.2.2.2.1 | exact K.to.2.2.2.2.1 | exact K.to.2.2.2.2.2.1 | exact K.to.2.2.2.2.2.2.1 | exact K.to.2.2.2.2.2.2.2 | exact K.tr.2.1 | exact K.tr.2.2.1 | exact K.tr.2.2.2.1 | exact K.tr.2.2.2.2.1 | exact K.tr.2.2.2.2.2.1 | exact K.tr.2.2.2.2.2.2.1 | exact K.tr.2.2.2.2.2.2.2) (by rfl) ?_
      refine wd_Vp (pc := 98) dX11_years_98 cl_X11_189 (sp_Town_sum (by first | assumption | omega | exact K.to | exact K.tr | exact K.to.2.1 | exact K.to.2.2.1 | exact K.to.2.2.2.1 | exact K.to.2.2.2.2.1 | exact K.to.2.2.2.2.2.1 | exact K.to.2.2.2.2.2.2.1 | exact K.to.2.2.2.2.2.2.2 | exact K.tr.2.1 | exact K.tr.2.2.1 | exact K.tr.2.2.2.1 | exact K.tr.2.2.2.2.1 | exact K.tr.2.2.2.2.2.1 | exact K.tr.2.2.2.2.2.2.1 | exact K.tr.2.2.2.2.2.2.2) (by first | assumption | omega | exact K.to | exact K.tr | exact K.to.2.1 | exact K.to.2.2.1 | exact K.to.2.2.2.1 | exact K.to.2.2.2.2.1 | exact K.to.2.2.2.2.2.1 | exact K.to.2.2.2.2.2.2.1 | exact K.to.2.2.2.2.2.2.2 | exact K.tr.2.1 | exact K.tr.2.2.1 | exact K.tr.2.2.2.1 | exact K.tr.2.2.2.2.1 | exact K.tr.2.2.2.2.2.1 | exact K.tr.2.2.2.2.2.2.1 | exact K.tr.2.2.2.2.2.2.2) (by first | assumption | omega | exact K.to | exact K.tr | exact K.to.2.1 | exact K.to.2.2.1 | exact K.to.2.2.2.1 | exact K.to.2.2.2.2.1 | exact K.to.2.2.2.2.2.1 | exact K.to.2.2.2.2.2.2.1 | exact K.to.2.2.2.2.2.2.2 | exact K.tr.2.1 | exact K.tr.2.2.1 | exact K.tr.2.2.2.1 | exact K.tr.2.2.2.2.1 | exact K.tr.2.2.2.2.2.1 | exact K.tr.2.2.2.2.2.2.1 | exact K.tr.2.2.2.2.2.2.2) (by first | assumption | omega | exact K.to | exact K.tr | exact K.to.2.1 | exact K.to.2.2.1 | exact K.to.2.2.2.1 | exact K.to.2.2.2.2.1 | exact K.to.2.2.2.2.2.1 | exact K.to.2.2.2.2.2.2.1 | exact K.to.2.2.2.2.2.2.2 | exact K.tr.2.1 | exact K.tr.2.2.1 | exact K.tr.2.2.2.1 | exact K.tr.2.2.2.2.1 | exact K.tr.2.2.2.2.2.1 | exact K.tr.2.2.2.2.2.2.1 | exact K.tr.2.2.2.2.2.2.2) (by first | assumption | omega | exact K.to | exact K.tr | exact K.to.2.1 | exact K.to.2.2.1 | exact K.to.2.2.2.1 | exact K.to.2.2.2.2.1 | exact K.to.2.2.2.2.2.1 | exact K.to.2.2.2.2.2.2.1 | exact K.to.2.2.2.2.2.2.2 | exact K.tr.2.1 | exact K.tr.2.2.1 | exact K.tr.2.2.2.1 | exact K.tr.2.2.2.2.1 | exact K.tr.2.2.2.2.2.1 | exact K.tr.2.2.2.2.2.2.1 | exact K.tr.2.2.2.2.2.2.2)) rfl rfl (by first | exact K.to.o | exact K.tr.o | exact K.k0.o | exact K.k1.o) (by rfl) (by decide) (Nat.le_of_ble_eq_true rfl) ?_
      exact wp_ir (pc := 101) dX11_years_101 rfl (by decide) (by decide) (by first | rfl | omega) ⟨⟨_, _, _, _, _, K⟩, O⟩
    ·
      refine wp_aload_n (pc := 39) dX11_years_39 rfl ?_
      refine wp_aload_n (pc := 40) dX11_years_40 rfl ?_
      refine wp_getf (pc := 41) dX11_years_41 gf_X11_84 K.ob (by rfl) ?_
      refine wp_iconst (pc := 44) dX11_years_44 ?_
      refine wd_Vs (pc := 45) dX11_years_45 cl_X11_354 (sp_Draws_of K.dr (by first | assumption | omega) (by first | assumption | omega)) rfl rfl K.dr.o (by rfl) (by decide) (Nat.le_of_ble_eq_true rfl) (fun hp45 e45 => ?_)
      obtain ⟨h45, o45⟩ := e45
      replace O := O.inn o45 (by omega) (by omega)
      replace K := K.uDr h45 o45
      refine wd_Vn (pc := 48) dX11_years_48 cl_X11_357 (sp_D_drawEvent (z := (yrs (stl rt) T N x i).2) hI2 hH2 (by omega) K) rfl rfl K.o (by rfl) (by decide) (Nat.le_of_ble_eq_true rfl) (fun hp48 e48 => ?_)
      obtain ⟨K, O1⟩ := e48; replace O := SO.tr O O1
      refine wp_iinc (pc := 51) dX11_years_51 rfl (by decide) ?_
      refine wp_goto (pc := 54) 34 dX11_years_54 (by decide) ?_
      refine wp_ls ?_ (ih (i + 1) (by omega) (by omega) _ K O)
      repeat' (first | exact LE_0 | refine LE_s rfl ?_ | refine LE_s (I_c (by first | omega | (simp only [sm]; omega))) ?_ | refine LE_s (J_c (by first | omega | exact Int.pow_succ _ _ | exact (Int.pow_succ _ _).symm | exact (Int.pow_zero _).symm | (simp only [sm]; omega))) ?_ | refine LE_n ?_)
theorem sp_D_years (K : DA hp D r s Tr z Z T U tx rw rt hs ss KT) (hI : TI T N) (hH : HS T) (hb : T 7 0 < 1900000000) (ry : InR y) : Sp g MX11_years (rm 7 0 0) [.ref D, .int (I x), .int (I y)] hp (Eff (.int (I (if 1 ≤ y ∧ y ≤ 60 then sm ((yrs (stl rt) T N x y.toNat).1 3) N else -1))) (fun hp2 => DX hp2 D T U tx (if 1 ≤ y ∧ y ≤ 60 then [dct (yrs (stl rt) T N x y.toNat).1 N, sm ((yrs (stl rt) T N x y.toNat).1 4) N] else rw) rt hs ss KT ∧ SO hp hp2 D (D + 171))) := by
  refine Sp_mk rfl (Nat.le_of_ble_eq_true rfl) ?_
  show wp g _ _ _ 0 0 0 [some (.ref D), some (.int (I x)), some (.int (I y)), none] [] hp
  have O := SO.rf (hp := hp) (lo := D) (hi := D + 171)
  refine wp_iload_n (pc := 0) dX11_years_0 rfl ?_
  refine wp_iconst (pc := 1) dX11_years_1 ?_
  refine wp_icmp_lt (pc := 2) 11 dX11_years_2 (by decide) (by first | omega | exact TI.i5 (by assumption) | exact TI.i3 (by assumption) | exact TI.i2 (by assumption) | exact TI.i1 (by assumption) | exact TI.i0 (by assumption) | exact TI.i4 (by assumption) | exact TI.i6 (by assumption) | exact TI.i7 (by assumption)) (by first | omega | exact TI.i5 (by assumption) | exact TI.i3 (by assumption) | exact TI.i2 (by assumption) | exact TI.i1 (by assumption) | exact TI.i0 (by assumption) | exact TI.i4 (by assumption) | exact TI.i6 (by assumption) | exact TI.i7 (by assumption)) (fun c2 => ?_) (fun c2 => ?_)
  ·
    rw [if_neg (show ¬ (1 ≤ y ∧ y ≤ 60) by omega), if_neg (show ¬ (1 ≤ y ∧ y ≤ 60) by omega)]
    refine wp_iconst (pc := 11) dX11_years_11 ?_
    exact wp_ir (pc := 12) dX11_years_12 rfl (by decide) (by decide) (by first | rfl | omega) ⟨⟨_, _, _, _, _, K⟩, O⟩
  ·
    refine wp_iload_n (pc := 5) dX11_years_5 rfl ?_
    refine wp_bipush (pc := 6) (y := 60) dX11_years_6 (by decide) ?_
    refine wp_icmp_le (pc := 8) 13 dX11_years_8 (by decide) (by first | omega | exact TI.i5 (by assumption) | exact TI.i3 (by assumption) | exact TI.i2 (by assumption) | exact TI.i1 (by assumption) | exact TI.i0 (by assumption) | exact TI.i4 (by assumption) | exact TI.i6 (by assumption) | exact TI.i7 (by assumption)) (by first | omega | exact TI.i5 (by assumption) | exact TI.i3 (by assumption) | exact TI.i2 (by assumption) | exact TI.i1 (by assumption) | exact TI.i0 (by assumption) | exact TI.i4 (by assumption) | exact TI.i6 (by assumption) | exact TI.i7 (by assumption)) (fun c8 => ?_) (fun c8 => ?_)
    ·
      rw [if_pos (show 1 ≤ y ∧ y ≤ 60 by omega), if_pos (show 1 ≤ y ∧ y ≤ 60 by omega)]
      obtain ⟨n, rfl⟩ := Int.eq_ofNat_of_zero_le (show 0 ≤ y by omega)
      refine wp_aload_n (pc := 13) dX11_years_13 rfl ?_
      refine wp_getf (pc := 14) dX11_years_14 gf_X11_30 K.ob (by rfl) ?_
      refine wp_aload_n (pc := 17) dX11_years_17 rfl ?_
      refine wp_getf (pc := 18) dX11_years_18 gf_X11_26 K.ob (by rfl) ?_
      refine wd_Vn (pc := 21) dX11_years_21 cl_X11_250 (sp_Town_copy K.tr K.to (by omega)) rfl rfl (by first | exact K.to.o | exact K.tr.o | exact K.k0.o | exact K.k1.o) (by rfl) (by decide) (Nat.le_of_ble_eq_true rfl) (fun hp21 e21 => ?_)
      obtain ⟨h21, o21⟩ := e21
      replace O := O.inn o21 (by omega) (by omega)
      replace K := K.uTr h21 o21
      refine wp_aload_n (pc := 24) dX11_years_24 rfl ?_
      refine wp_getf (pc := 25) dX11_years_25 gf_X11_84 K.ob (by rfl) ?_
      refine wp_iload_n (pc := 28) dX11_years_28 rfl ?_
      refine wd_Vn (pc := 29) dX11_years_29 cl_X11_351 (sp_Draws_start K.dr) rfl rfl K.dr.o (by rfl) (by decide) (Nat.le_of_ble_eq_true rfl) (fun hp29 e29 => ?_)
      obtain ⟨h29, o29⟩ := e29
      replace O := O.inn o29 (by omega) (by omega)
      replace K := K.uDr h29 o29
      refine wp_iconst (pc := 32) dX11_years_32 ?_
      refine wp_istore_n (pc := 33) dX11_years_33 (by decide) ?_
      refine wp_ls ?_ (lp_D_years (x := x) hI hH hb (by omega) (n + 1) 0 (by omega) (by omega) _ K O)
      repeat' (first | exact LE_0 | refine LE_s rfl ?_ | refine LE_s (I_c (by first | omega | (simp only [sm]; omega))) ?_ | refine LE_s (J_c (by first | omega | exact Int.pow_succ _ _ | exact (Int.pow_succ _ _).symm | exact (Int.pow_zero _).symm | (simp only [sm]; omega))) ?_ | refine LE_n ?_)
    ·
      rw [if_neg (show ¬ (1 ≤ y ∧ y ≤ 60) by omega), if_neg (show ¬ (1 ≤ y ∧ y ≤ 60) by omega)]
      refine wp_iconst (pc := 11) dX11_years_11 ?_
      exact wp_ir (pc := 12) dX11_years_12 rfl (by decide) (by decide) (by first | rfl | omega) ⟨⟨_, _, _, _, _, K⟩, O⟩
/-! kept towns -/
theorem DA.kp (K : DA hp D r s Tr z Z T U tx rw rt hs ss KT) (e : hp2.2 D = some (dobj D r s (KT2 0).isSome (KT2 1).isSome)) (h0 : KtA hp2 (D + 129) (KT2 0)) (h1 : KtA hp2 (D + 137) (KT2 1)) (o : ∀ x, x ≠ D → (x < D + 129 ∨ D + 145 ≤ x) → hp2.2 x = hp.2 x) : DA hp2 D r s Tr z Z T U tx rw rt hs ss KT2 := ⟨e, K.rs, K.te.off fun x _ _ => o x (by omega) (by omega), K.ro.off fun x _ _ => o x (by omega) (by omega), K.to.off fun x _ _ => o x (by omega) (by omega), K.tr.off fun x _ _ => o x (by omega) (by omega), K.cl.off fun x _ _ => o x (by omega) (by omega), K.pa.off fun x _ _ => o x (by omega) (by omega), h0, h1, K.he.off fun x _ _ => o x (by omega) (by omega), K.sh.off fun x _ _ => o x (by omega) (by omega), K.ga.off fun x _ _ => o x (by omega) (by omega), K.pt.off fun x _ _ => o x (by omega) (by omega), K.dr.off fun x _ _ => o x (by omega) (by omega), K.ru.off fun x _ _ => o x (by have := K.rs; omega) (by have := K.rs; omega), K.sp.off fun x _ _ => o x (by have := K.rs; omega) (by have := K.rs; omega)⟩
theorem I1_B {q : Prop} [Decidable q] (h : q) : Value.int (I 1) = .int (B q) := by rw [B_t h]; rfl
theorem sp_D_keep (K : DA hp D r s Tr z Z T U tx rw rt hs ss KT) (rx : InR x) : Sp g MX11_keep (rm 2 0 0) [.ref D, .int (I x)] hp (Eff (.int (B (0 ≤ x ∧ x ≤ 1))) (fun hp2 => DX hp2 D T U tx rw rt hs ss (if 0 ≤ x ∧ x ≤ 1 then upK KT x.toNat (some T) else KT) ∧ SO hp hp2 D (D + 171))) := by
  obtain ⟨X0, x0, f0⟩ := K.k0
  obtain ⟨X1, x1, f1⟩ := K.k1
  have K0 := K
  refine Sp_mk rfl (Nat.le_of_ble_eq_true rfl) ?_
  show wp g _ _ _ 0 0 0 [some (.ref D), some (.int (I x))] [] hp
  have O := SO.rf (hp := hp) (lo := D) (hi := D + 171)
  refine wp_iload_n (pc := 0) dX11_keep_0 rfl ?_
  first | refine wp_ifb_ne (pc := 1) 23 dX11_keep_1 (by decide) (fun c1 => ?_) (fun c1 => ?_) | refine wp_if_ne (pc := 1) 23 dX11_keep_1 (by decide) (by first | omega | exact TI.i5 (by assumption) | exact TI.i3 (by assumption) | exact TI.i2 (by assumption) | exact TI.i1 (by assumption) | exact TI.i0 (by assumption) | exact TI.i4 (by assumption) | exact TI.i6 (by assumption) | exact TI.i7 (by assumption)) (fun c1 => ?_) (fun c1 => ?_)
  ·
    refine wp_iload_n (pc := 23) dX11_keep_23 rfl ?_
    refine wp_iconst (pc := 24) dX11_keep_24 ?_
    refine wp_icmp_ne (pc := 25) 44 dX11_keep_25 (by decide) (by first | omega | exact TI.i5 (by assumption) | exact TI.i3 (by assumption) | exact TI.i2 (by assumption) | exact TI.i1 (by assumption) | exact TI.i0 (by assumption) | exact TI.i4 (by assumption) | exact TI.i6 (by assumption) | exact TI.i7 (by assumption)) (by first | omega | exact TI.i5 (by assumption) | exact TI.i3 (by assumption) | exact TI.i2 (by assumption) | exact TI.i1 (by assumption) | exact TI.i0 (by assumption) | exact TI.i4 (by assumption) | exact TI.i6 (by assumption) | exact TI.i7 (by assumption)) (fun c25 => ?_) (fun c25 => ?_)
    ·
      first | rw [if_pos (by omega)] | rw [if_neg (by omega)]
      refine wp_iload_n (pc := 44) dX11_keep_44 rfl ?_
      first | refine wp_ifb_eq (pc := 45) 53 dX11_keep_45 (by decide) (fun c45 => ?_) (fun c45 => ?_) | refine wp_if_eq (pc := 45) 53 dX11_keep_45 (by decide) (by first | omega | exact TI.i5 (by assumption) | exact TI.i3 (by assumption) | exact TI.i2 (by assumption) | exact TI.i1 (by assumption) | exact TI.i0 (by assumption) | exact TI.i4 (by assumption) | exact TI.i6 (by assumption) | exact TI.i7 (by assumption)) (fun c45 => ?_) (fun c45 => ?_)
      ·
        refine wp_iconst (pc := 53) dX11_keep_53 ?_
        refine wp_goto (pc := 54) 58 dX11_keep_54 (by decide) ?_
        first | exact wp_z1 (pc := 58) dX11_keep_58 rfl (by decide) (by decide) (by omega) ⟨⟨_, _, _, _, _, K⟩, O⟩ | exact wp_z0 (pc := 58) dX11_keep_58 rfl (by decide) (by decide) (by omega) ⟨⟨_, _, _, _, _, K⟩, O⟩ | exact wp_zb (pc := 58) dX11_keep_58 rfl (by decide) (by decide) Iff.rfl ⟨⟨_, _, _, _, _, K⟩, O⟩
      ·
        refine wp_iload_n (pc := 48) dX11_keep_48 rfl ?_
        refine wp_iconst (pc := 49) dX11_keep_49 ?_
        refine wp_icmp_ne (pc := 50) 57 dX11_keep_50 (by decide) (by first | omega | exact TI.i5 (by assumption) | exact TI.i3 (by assumption) | exact TI.i2 (by assumption) | exact TI.i1 (by assumption) | exact TI.i0 (by assumption) | exact TI.i4 (by assumption) | exact TI.i6 (by assumption) | exact TI.i7 (by assumption)) (by first | omega | exact TI.i5 (by assumption) | exact TI.i3 (by assumption) | exact TI.i2 (by assumption) | exact TI.i1 (by assumption) | exact TI.i0 (by assumption) | exact TI.i4 (by assumption) | exact TI.i6 (by assumption) | exact TI.i7 (by assumption)) (fun c50 => ?_) (fun c50 => ?_)
        ·
          refine wp_iconst (pc := 57) dX11_keep_57 ?_
          first | exact wp_z1 (pc := 58) dX11_keep_58 rfl (by decide) (by decide) (by omega) ⟨⟨_, _, _, _, _, K⟩, O⟩ | exact wp_z0 (pc := 58) dX11_keep_58 rfl (by decide) (by decide) (by omega) ⟨⟨_, _, _, _, _, K⟩, O⟩ | exact wp_zb (pc := 58) dX11_keep_58 rfl (by decide) (by decide) Iff.rfl ⟨⟨_, _, _, _, _, K⟩, O⟩
        ·
          refine wp_iconst (pc := 53) dX11_keep_53 ?_
          refine wp_goto (pc := 54) 58 dX11_keep_54 (by decide) ?_
          first | exact wp_z1 (pc := 58) dX11_keep_58 rfl (by decide) (by decide) (by omega) ⟨⟨_, _, _, _, _, K⟩, O⟩ | exact wp_z0 (pc := 58) dX11_keep_58 rfl (by decide) (by decide) (by omega) ⟨⟨_, _, _, _, _, K⟩, O⟩ | exact wp_zb (pc := 58) dX11_keep_58 rfl (by decide) (by decide) Iff.rfl ⟨⟨_, _, _, _, _, K⟩, O⟩
    ·
      have ex : x = 1 := by omega
      subst ex -- go
      refine wp_aload_n (pc := 28) dX11_keep_28 rfl ?_
      refine wp_getf (pc := 29) dX11_keep_29 gf_X11_50 K.ob (by rfl) ?_
      refine wp_aload_n (pc := 32) dX11_keep_32 rfl ?_
      refine wp_getf (pc := 33) dX11_keep_33 gf_X11_26 K.ob (by rfl) ?_
      refine wd_Vn (pc := 36) dX11_keep_36 cl_X11_250 (sp_Town_copy x1 K.to (by omega)) rfl rfl ⟨_, x1.1⟩ (by rfl) (by decide) (Nat.le_of_ble_eq_true rfl) (fun hp36 e36 => ?_)
      obtain ⟨t36, o36⟩ := e36
      refine wp_aload_n (pc := 39) dX11_keep_39 rfl ?_
      refine wp_iconst (pc := 40) dX11_keep_40 ?_
      refine wp_putf (pc := 41) dX11_keep_41 pf_X11_364 ((o36.2 _ (by omega)).trans K.ob) (by first | decide | exact Nat.lt_of_sub_pos (by decide) | simp) rfl rfl (by first | decide | intro h; cases h) ?_
      refine wp_gen (fun hp9 e9 => ?_)
      have K9 : DA hp9 D r s Tr z Z T U tx rw rt hs ss (upK KT 1 (some T)) := K0.kp (by rw [e9]; exact hset_eq) (by rw [e9]; exact (K0.k0.off fun x _ _ => o36.2 x (by omega)).off fun x _ _ => hset_ne (by omega)) ⟨T, by rw [e9]; exact t36.off fun x _ _ => hset_ne (by omega), fun Y q => Option.some.inj q⟩ (fun x q1 q2 => by rw [e9]; exact (hset_ne q1).trans (o36.2 x (by omega)))
      have O9 : SO hp hp9 D (D + 171) := by rw [e9]; exact (O.inn o36 (by omega) (by omega)).set (by omega) (by omega)
      replace K := K9
      replace O := O9
      first | rw [if_pos (by omega)] | rw [if_neg (by omega)]
      refine wp_iload_n (pc := 44) dX11_keep_44 rfl ?_
      first | refine wp_ifb_eq (pc := 45) 53 dX11_keep_45 (by decide) (fun c45 => ?_) (fun c45 => ?_) | refine wp_if_eq (pc := 45) 53 dX11_keep_45 (by decide) (by first | omega | exact TI.i5 (by assumption) | exact TI.i3 (by assumption) | exact TI.i2 (by assumption) | exact TI.i1 (by assumption) | exact TI.i0 (by assumption) | exact TI.i4 (by assumption) | exact TI.i6 (by assumption) | exact TI.i7 (by assumption)) (fun c45 => ?_) (fun c45 => ?_)
      ·
        refine wp_iconst (pc := 53) dX11_keep_53 ?_
        refine wp_goto (pc := 54) 58 dX11_keep_54 (by decide) ?_
        first | exact wp_z1 (pc := 58) dX11_keep_58 rfl (by decide) (by decide) (by omega) ⟨⟨_, _, _, _, _, K⟩, O⟩ | exact wp_z0 (pc := 58) dX11_keep_58 rfl (by decide) (by decide) (by omega) ⟨⟨_, _, _, _, _, K⟩, O⟩ | exact wp_zb (pc := 58) dX11_keep_58 rfl (by decide) (by decide) Iff.rfl ⟨⟨_, _, _, _, _, K⟩, O⟩
      ·
        refine wp_iload_n (pc := 48) dX11_keep_48 rfl ?_
        refine wp_iconst (pc := 49) dX11_keep_49 ?_
        refine wp_icmp_ne (pc := 50) 57 dX11_keep_50 (by decide) (by first | omega | exact TI.i5 (by assumption) | exact TI.i3 (by assumption) | exact TI.i2 (by assumption) | exact TI.i1 (by assumption) | exact TI.i0 (by assumption) | exact TI.i4 (by assumption) | exact TI.i6 (by assumption) | exact TI.i7 (by assumption)) (by first | omega | exact TI.i5 (by assumption) | exact TI.i3 (by assumption) | exact TI.i2 (by assumption) | exact TI.i1 (by assumption) | exact TI.i0 (by assumption) | exact TI.i4 (by assumption) | exact TI.i6 (by assumption) | exact TI.i7 (by assumption)) (fun c50 => ?_) (fun c50 => ?_)
        ·
          refine wp_iconst (pc := 57) dX11_keep_57 ?_
          first | exact wp_z1 (pc := 58) dX11_keep_58 rfl (by decide) (by decide) (by omega) ⟨⟨_, _, _, _, _, K⟩, O⟩ | exact wp_z0 (pc := 58) dX11_keep_58 rfl (by decide) (by decide) (by omega) ⟨⟨_, _, _, _, _, K⟩, O⟩ | exact wp_zb (pc := 58) dX11_keep_58 rfl (by decide) (by decide) Iff.rfl ⟨⟨_, _, _, _, _, K⟩, O⟩
        ·
          refine wp_iconst (pc := 53) dX11_keep_53 ?_
          refine wp_goto (pc := 54) 58 dX11_keep_54 (by decide) ?_
          first | exact wp_z1 (pc := 58) dX11_keep_58 rfl (by decide) (by decide) (by omega) ⟨⟨_, _, _, _, _, K⟩, O⟩ | exact wp_z0 (pc := 58) dX11_keep_58 rfl (by decide) (by decide) (by omega) ⟨⟨_, _, _, _, _, K⟩, O⟩ | exact wp_zb (pc := 58) dX11_keep_58 rfl (by decide) (by decide) Iff.rfl ⟨⟨_, _, _, _, _, K⟩, O⟩
  ·
    have ex : x = 0 := by omega
    subst ex -- go
    refine wp_aload_n (pc := 4) dX11_keep_4 rfl ?_
    refine wp_getf (pc := 5) dX11_keep_5 gf_X11_47 K.ob (by rfl) ?_
    refine wp_aload_n (pc := 8) dX11_keep_8 rfl ?_
    refine wp_getf (pc := 9) dX11_keep_9 gf_X11_26 K.ob (by rfl) ?_
    refine wd_Vn (pc := 12) dX11_keep_12 cl_X11_250 (sp_Town_copy x0 K.to (by omega)) rfl rfl ⟨_, x0.1⟩ (by rfl) (by decide) (Nat.le_of_ble_eq_true rfl) (fun hp12 e12 => ?_)
    obtain ⟨t12, o12⟩ := e12
    refine wp_aload_n (pc := 15) dX11_keep_15 rfl ?_
    refine wp_iconst (pc := 16) dX11_keep_16 ?_
    refine wp_putf (pc := 17) dX11_keep_17 pf_X11_360 ((o12.2 _ (by omega)).trans K.ob) (by first | decide | exact Nat.lt_of_sub_pos (by decide) | simp) rfl rfl (by first | decide | intro h; cases h) ?_
    refine wp_gen (fun hp9 e9 => ?_)
    have K9 : DA hp9 D r s Tr z Z T U tx rw rt hs ss (upK KT 0 (some T)) := K0.kp (by rw [e9]; exact hset_eq) ⟨T, by rw [e9]; exact t12.off fun x _ _ => hset_ne (by omega), fun Y q => Option.some.inj q⟩ (by rw [e9]; exact (K0.k1.off fun x _ _ => o12.2 x (by omega)).off fun x _ _ => hset_ne (by omega)) (fun x q1 q2 => by rw [e9]; exact (hset_ne q1).trans (o12.2 x (by omega)))
    have O9 : SO hp hp9 D (D + 171) := by rw [e9]; exact (O.inn o12 (by omega) (by omega)).set (by omega) (by omega)
    replace K := K9
    replace O := O9
    refine wp_goto (pc := 20) 44 dX11_keep_20 (by decide) ?_
    first | rw [if_pos (by omega)] | rw [if_neg (by omega)]
    refine wp_iload_n (pc := 44) dX11_keep_44 rfl ?_
    first | refine wp_ifb_eq (pc := 45) 53 dX11_keep_45 (by decide) (fun c45 => ?_) (fun c45 => ?_) | refine wp_if_eq (pc := 45) 53 dX11_keep_45 (by decide) (by first | omega | exact TI.i5 (by assumption) | exact TI.i3 (by assumption) | exact TI.i2 (by assumption) | exact TI.i1 (by assumption) | exact TI.i0 (by assumption) | exact TI.i4 (by assumption) | exact TI.i6 (by assumption) | exact TI.i7 (by assumption)) (fun c45 => ?_) (fun c45 => ?_)
    ·
      refine wp_iconst (pc := 53) dX11_keep_53 ?_
      refine wp_goto (pc := 54) 58 dX11_keep_54 (by decide) ?_
      first | exact wp_z1 (pc := 58) dX11_keep_58 rfl (by decide) (by decide) (by omega) ⟨⟨_, _, _, _, _, K⟩, O⟩ | exact wp_z0 (pc := 58) dX11_keep_58 rfl (by decide) (by decide) (by omega) ⟨⟨_, _, _, _, _, K⟩, O⟩ | exact wp_zb (pc := 58) dX11_keep_58 rfl (by decide) (by decide) Iff.rfl ⟨⟨_, _, _, _, _, K⟩, O⟩
    ·
      refine wp_iload_n (pc := 48) dX11_keep_48 rfl ?_
      refine wp_iconst (pc := 49) dX11_keep_49 ?_
      refine wp_icmp_ne (pc := 50) 57 dX11_keep_50 (by decide) (by first | omega | exact TI.i5 (by assumption) | exact TI.i3 (by assumption) | exact TI.i2 (by assumption) | exact TI.i1 (by assumption) | exact TI.i0 (by assumption) | exact TI.i4 (by assumption) | exact TI.i6 (by assumption) | exact TI.i7 (by assumption)) (by first | omega | exact TI.i5 (by assumption) | exact TI.i3 (by assumption) | exact TI.i2 (by assumption) | exact TI.i1 (by assumption) | exact TI.i0 (by assumption) | exact TI.i4 (by assumption) | exact TI.i6 (by assumption) | exact TI.i7 (by assumption)) (fun c50 => ?_) (fun c50 => ?_)
      ·
        refine wp_iconst (pc := 57) dX11_keep_57 ?_
        first | exact wp_z1 (pc := 58) dX11_keep_58 rfl (by decide) (by decide) (by omega) ⟨⟨_, _, _, _, _, K⟩, O⟩ | exact wp_z0 (pc := 58) dX11_keep_58 rfl (by decide) (by decide) (by omega) ⟨⟨_, _, _, _, _, K⟩, O⟩ | exact wp_zb (pc := 58) dX11_keep_58 rfl (by decide) (by decide) Iff.rfl ⟨⟨_, _, _, _, _, K⟩, O⟩
      ·
        refine wp_iconst (pc := 53) dX11_keep_53 ?_
        refine wp_goto (pc := 54) 58 dX11_keep_54 (by decide) ?_
        first | exact wp_z1 (pc := 58) dX11_keep_58 rfl (by decide) (by decide) (by omega) ⟨⟨_, _, _, _, _, K⟩, O⟩ | exact wp_z0 (pc := 58) dX11_keep_58 rfl (by decide) (by decide) (by omega) ⟨⟨_, _, _, _, _, K⟩, O⟩ | exact wp_zb (pc := 58) dX11_keep_58 rfl (by decide) (by decide) Iff.rfl ⟨⟨_, _, _, _, _, K⟩, O⟩
theorem sp_D_bringBack (K : DA hp D r s Tr z Z T U tx rw rt hs ss KT) (hI : TI T N) (hX : TownAt hp k X) (hk : k = D + 129 ∨ k = D + 137) (h8 : InR (X 8 0)) : Sp g MX11_bringBack (rm 2 0 0) [.ref D, .ref k] hp (Eff (.int (B (X 8 0 = (N : Int)))) (fun hp2 => DX hp2 D (if X 8 0 = (N : Int) then X else T) (if X 8 0 = (N : Int) then [] else U) tx rw rt hs ss KT ∧ SO hp hp2 D (D + 171))) := by
  obtain ⟨h88, hN⟩ := hI.men
  refine Sp_mk rfl (Nat.le_of_ble_eq_true rfl) ?_
  show wp g _ _ _ 0 0 0 [some (.ref D), some (.ref k)] [] hp
  have O := SO.rf (hp := hp) (lo := D) (hi := D + 171)
  refine wp_aload_n (pc := 0) dX11_bringBack_0 rfl ?_
  refine wp_getf (pc := 1) dX11_bringBack_1 gf_X11_110 hX.1 (by rfl) ?_
  refine wp_aload_n (pc := 4) dX11_bringBack_4 rfl ?_
  refine wp_getf (pc := 5) dX11_bringBack_5 gf_X11_26 K.ob (by rfl) ?_
  refine wp_getf (pc := 8) dX11_bringBack_8 gf_X11_110 (by first | exact K.ob | exact K.to.1 | exact K.tr.1 | exact K.to.2.1 | exact K.to.2.2.1 | exact K.to.2.2.2.1 | exact K.to.2.2.2.2.1 | exact K.to.2.2.2.2.2.1 | exact K.to.2.2.2.2.2.2.1 | exact K.to.2.2.2.2.2.2.2 | exact K.tr.2.1 | exact K.tr.2.2.1 | exact K.tr.2.2.2.1 | exact K.tr.2.2.2.2.1 | exact K.tr.2.2.2.2.2.1 | exact K.tr.2.2.2.2.2.2.1 | exact K.tr.2.2.2.2.2.2.2) (by rfl) ?_
  refine wp_icmp_eq (pc := 11) 16 dX11_bringBack_11 (by decide) (by first | omega | exact TI.i5 (by assumption) | exact TI.i3 (by assumption) | exact TI.i2 (by assumption) | exact TI.i1 (by assumption) | exact TI.i0 (by assumption) | exact TI.i4 (by assumption) | exact TI.i6 (by assumption) | exact TI.i7 (by assumption)) (by first | omega | exact TI.i5 (by assumption) | exact TI.i3 (by assumption) | exact TI.i2 (by assumption) | exact TI.i1 (by assumption) | exact TI.i0 (by assumption) | exact TI.i4 (by assumption) | exact TI.i6 (by assumption) | exact TI.i7 (by assumption)) (fun c11 => ?_) (fun c11 => ?_)
  ·
    rw [if_pos (by omega), if_pos (by omega)] -- go
    refine wp_aload_n (pc := 16) dX11_bringBack_16 rfl ?_
    refine wp_getf (pc := 17) dX11_bringBack_17 gf_X11_26 K.ob (by rfl) ?_
    refine wp_aload_n (pc := 20) dX11_bringBack_20 rfl ?_
    refine wd_Vn (pc := 21) dX11_bringBack_21 cl_X11_250 (sp_Town_copy K.to hX (by omega)) rfl rfl (by first | exact K.to.o | exact K.tr.o | exact K.k0.o | exact K.k1.o) (by rfl) (by decide) (Nat.le_of_ble_eq_true rfl) (fun hp21 e21 => ?_)
    obtain ⟨h21, o21⟩ := e21; replace O := O.inn o21 (by omega) (by omega); replace K := K.uTo h21 o21
    refine wp_aload_n (pc := 24) dX11_bringBack_24 rfl ?_
    refine wp_getf (pc := 25) dX11_bringBack_25 gf_X11_43 K.ob (by rfl) ?_
    refine wd_Vn (pc := 28) dX11_bringBack_28 cl_X11_121 (sp_L_forget K.pa) rfl rfl K.pa.o (by rfl) (by decide) (Nat.le_of_ble_eq_true rfl) (fun hp28 e28 => ?_)
    obtain ⟨h28, o28⟩ := e28
    replace O := O.inn o28 (by omega) (by omega)
    replace K := K.uPa h28 o28
    refine wp_iconst (pc := 31) dX11_bringBack_31 ?_
    first | exact wp_z1 (pc := 32) dX11_bringBack_32 rfl (by decide) (by decide) (by omega) ⟨⟨_, _, _, _, _, K⟩, O⟩ | exact wp_z0 (pc := 32) dX11_bringBack_32 rfl (by decide) (by decide) (by omega) ⟨⟨_, _, _, _, _, K⟩, O⟩ | exact wp_zb (pc := 32) dX11_bringBack_32 rfl (by decide) (by decide) Iff.rfl ⟨⟨_, _, _, _, _, K⟩, O⟩
  ·
    rw [if_neg (by omega), if_neg (by omega)] -- go
    refine wp_iconst (pc := 14) dX11_bringBack_14 ?_
    first | exact wp_z1 (pc := 15) dX11_bringBack_15 rfl (by decide) (by decide) (by omega) ⟨⟨_, _, _, _, _, K⟩, O⟩ | exact wp_z0 (pc := 15) dX11_bringBack_15 rfl (by decide) (by decide) (by omega) ⟨⟨_, _, _, _, _, K⟩, O⟩ | exact wp_zb (pc := 15) dX11_bringBack_15 rfl (by decide) (by decide) Iff.rfl ⟨⟨_, _, _, _, _, K⟩, O⟩
theorem sp_D_again (K : DA hp D r s Tr z Z T U tx rw rt hs ss KT) (hI : TI T N) (rx : InR x) (hK : ∀ k X, KT k = some X → InR (X 8 0)) : Sp g MX11_again (rm 3 0 0) [.ref D, .int (I x)] hp (Eff (.int (B ((agT KT N x).isSome = true))) (fun hp2 => DX hp2 D ((agT KT N x).getD T) (if (agT KT N x).isSome = true then [] else U) tx rw rt hs ss KT ∧ SO hp hp2 D (D + 171))) := by
  obtain ⟨X0, x0, f0⟩ := K.k0
  obtain ⟨X1, x1, f1⟩ := K.k1
  by_cases d0 : x = 0
  · subst d0
    cases e0 : KT 0 with
    | none =>
      have ea : agT KT N 0 = none := by unfold agT; rw [if_pos (by decide)]; show (match KT 0 with | none => none | some T => _) = _; rw [e0]
      rw [ea]
      refine Sp_mk rfl (Nat.le_of_ble_eq_true rfl) ?_
      show wp g _ _ _ 0 0 0 [some (.ref D), some (.int (I 0))] [] hp
      have O := SO.rf (hp := hp) (lo := D) (hi := D + 171)
      refine wp_iload_n (pc := 0) dX11_again_0 rfl ?_
      first | refine wp_ifb_ne (pc := 1) 28 dX11_again_1 (by decide) (fun c1 => ?_) (fun c1 => ?_) | refine wp_if_ne (pc := 1) 28 dX11_again_1 (by decide) (by first | omega | exact TI.i5 (by assumption) | exact TI.i3 (by assumption) | exact TI.i2 (by assumption) | exact TI.i1 (by assumption) | exact TI.i0 (by assumption) | exact TI.i4 (by assumption) | exact TI.i6 (by assumption) | exact TI.i7 (by assumption)) (fun c1 => ?_) (fun c1 => ?_)
      ·
        exact absurd c1 (by omega)
      ·
        refine wp_aload_n (pc := 4) dX11_again_4 rfl ?_
        refine wp_getf (pc := 5) dX11_again_5 gf_X11_360 K.ob (by rfl) ?_
        first | refine wp_ifb_eq (pc := 8) 26 dX11_again_8 (by decide) (fun c8 => ?_) (fun c8 => ?_) | refine wp_if_eq (pc := 8) 26 dX11_again_8 (by decide) (by first | omega | exact TI.i5 (by assumption) | exact TI.i3 (by assumption) | exact TI.i2 (by assumption) | exact TI.i1 (by assumption) | exact TI.i0 (by assumption) | exact TI.i4 (by assumption) | exact TI.i6 (by assumption) | exact TI.i7 (by assumption)) (fun c8 => ?_) (fun c8 => ?_)
        ·
          refine wp_iconst (pc := 26) dX11_again_26 ?_
          first | exact wp_z1 (pc := 27) dX11_again_27 rfl (by decide) (by decide) (by simp) ⟨⟨_, _, _, _, _, K⟩, O⟩ | exact wp_z0 (pc := 27) dX11_again_27 rfl (by decide) (by decide) (by simp) ⟨⟨_, _, _, _, _, K⟩, O⟩ | exact wp_zb (pc := 27) dX11_again_27 rfl (by decide) (by decide) Iff.rfl ⟨⟨_, _, _, _, _, K⟩, O⟩
        ·
          exact absurd c8 (by rw [e0]; simp)
    | some Y =>
      have eY := f0 Y e0
      subst eY
      have ea : agT KT N 0 = if X0 8 0 = (N : Int) then some X0 else none := by unfold agT; rw [if_pos (by decide)]; show (match KT 0 with | none => none | some T => _) = _; rw [e0]
      have h8 := hK 0 X0 e0
      refine Sp_mk rfl (Nat.le_of_ble_eq_true rfl) ?_
      show wp g _ _ _ 0 0 0 [some (.ref D), some (.int (I 0))] [] hp
      have O := SO.rf (hp := hp) (lo := D) (hi := D + 171)
      refine wp_iload_n (pc := 0) dX11_again_0 rfl ?_
      first | refine wp_ifb_ne (pc := 1) 28 dX11_again_1 (by decide) (fun c1 => ?_) (fun c1 => ?_) | refine wp_if_ne (pc := 1) 28 dX11_again_1 (by decide) (by first | omega | exact TI.i5 (by assumption) | exact TI.i3 (by assumption) | exact TI.i2 (by assumption) | exact TI.i1 (by assumption) | exact TI.i0 (by assumption) | exact TI.i4 (by assumption) | exact TI.i6 (by assumption) | exact TI.i7 (by assumption)) (fun c1 => ?_) (fun c1 => ?_)
      ·
        exact absurd c1 (by omega)
      ·
        refine wp_aload_n (pc := 4) dX11_again_4 rfl ?_
        refine wp_getf (pc := 5) dX11_again_5 gf_X11_360 K.ob (by rfl) ?_
        first | refine wp_ifb_eq (pc := 8) 26 dX11_again_8 (by decide) (fun c8 => ?_) (fun c8 => ?_) | refine wp_if_eq (pc := 8) 26 dX11_again_8 (by decide) (by first | omega | exact TI.i5 (by assumption) | exact TI.i3 (by assumption) | exact TI.i2 (by assumption) | exact TI.i1 (by assumption) | exact TI.i0 (by assumption) | exact TI.i4 (by assumption) | exact TI.i6 (by assumption) | exact TI.i7 (by assumption)) (fun c8 => ?_) (fun c8 => ?_)
        ·
          exact absurd c8 (by rw [e0]; simp)
        ·
          refine wp_aload_n (pc := 11) dX11_again_11 rfl ?_
          refine wp_aload_n (pc := 12) dX11_again_12 rfl ?_
          refine wp_getf (pc := 13) dX11_again_13 gf_X11_47 K.ob (by rfl) ?_
          refine wd_Vs (pc := 16) dX11_again_16 cl_X11_367 (sp_D_bringBack K hI x0 (.inl rfl) h8) rfl rfl K.o (by rfl) (by decide) (Nat.le_of_ble_eq_true rfl) (fun hp16 e16 => ?_)
          obtain ⟨⟨r16, s16, Tr16, z16, Z16, K⟩, O1⟩ := e16; replace O := SO.tr O O1
          first | refine wp_ifb_eq (pc := 19) 26 dX11_again_19 (by decide) (fun c19 => ?_) (fun c19 => ?_) | refine wp_if_eq (pc := 19) 26 dX11_again_19 (by decide) (by first | omega | exact TI.i5 (by assumption) | exact TI.i3 (by assumption) | exact TI.i2 (by assumption) | exact TI.i1 (by assumption) | exact TI.i0 (by assumption) | exact TI.i4 (by assumption) | exact TI.i6 (by assumption) | exact TI.i7 (by assumption)) (fun c19 => ?_) (fun c19 => ?_)
          ·
            rw [if_neg c19, if_neg c19] at K
            rw [ea, if_neg c19] -- go
            refine wp_iconst (pc := 26) dX11_again_26 ?_
            first | exact wp_z1 (pc := 27) dX11_again_27 rfl (by decide) (by decide) (by simp) ⟨⟨_, _, _, _, _, K⟩, O⟩ | exact wp_z0 (pc := 27) dX11_again_27 rfl (by decide) (by decide) (by simp) ⟨⟨_, _, _, _, _, K⟩, O⟩ | exact wp_zb (pc := 27) dX11_again_27 rfl (by decide) (by decide) Iff.rfl ⟨⟨_, _, _, _, _, K⟩, O⟩
          ·
            rw [if_pos c19, if_pos c19] at K
            rw [ea, if_pos c19] -- go
            refine wp_iconst (pc := 22) dX11_again_22 ?_
            refine wp_goto (pc := 23) 27 dX11_again_23 (by decide) ?_
            first | exact wp_z1 (pc := 27) dX11_again_27 rfl (by decide) (by decide) (by simp) ⟨⟨_, _, _, _, _, K⟩, O⟩ | exact wp_z0 (pc := 27) dX11_again_27 rfl (by decide) (by decide) (by simp) ⟨⟨_, _, _, _, _, K⟩, O⟩ | exact wp_zb (pc := 27) dX11_again_27 rfl (by decide) (by decide) Iff.rfl ⟨⟨_, _, _, _, _, K⟩, O⟩
  · by_cases d1 : x = 1
    · subst d1
      cases e1 : KT 1 with
      | none =>
        have ea : agT KT N 1 = none := by unfold agT; rw [if_pos (by decide)]; show (match KT 1 with | none => none | some T => _) = _; rw [e1]
        rw [ea]
        refine Sp_mk rfl (Nat.le_of_ble_eq_true rfl) ?_
        show wp g _ _ _ 0 0 0 [some (.ref D), some (.int (I 1))] [] hp
        have O := SO.rf (hp := hp) (lo := D) (hi := D + 171)
        refine wp_iload_n (pc := 0) dX11_again_0 rfl ?_
        first | refine wp_ifb_ne (pc := 1) 28 dX11_again_1 (by decide) (fun c1 => ?_) (fun c1 => ?_) | refine wp_if_ne (pc := 1) 28 dX11_again_1 (by decide) (by first | omega | exact TI.i5 (by assumption) | exact TI.i3 (by assumption) | exact TI.i2 (by assumption) | exact TI.i1 (by assumption) | exact TI.i0 (by assumption) | exact TI.i4 (by assumption) | exact TI.i6 (by assumption) | exact TI.i7 (by assumption)) (fun c1 => ?_) (fun c1 => ?_)
        ·
          refine wp_iload_n (pc := 28) dX11_again_28 rfl ?_
          refine wp_iconst (pc := 29) dX11_again_29 ?_
          refine wp_icmp_ne (pc := 30) 55 dX11_again_30 (by decide) (by first | omega | exact TI.i5 (by assumption) | exact TI.i3 (by assumption) | exact TI.i2 (by assumption) | exact TI.i1 (by assumption) | exact TI.i0 (by assumption) | exact TI.i4 (by assumption) | exact TI.i6 (by assumption) | exact TI.i7 (by assumption)) (by first | omega | exact TI.i5 (by assumption) | exact TI.i3 (by assumption) | exact TI.i2 (by assumption) | exact TI.i1 (by assumption) | exact TI.i0 (by assumption) | exact TI.i4 (by assumption) | exact TI.i6 (by assumption) | exact TI.i7 (by assumption)) (fun c30 => ?_) (fun c30 => ?_)
          ·
            exact absurd c30 (by omega)
          ·
            refine wp_aload_n (pc := 33) dX11_again_33 rfl ?_
            refine wp_getf (pc := 34) dX11_again_34 gf_X11_364 K.ob (by rfl) ?_
            first | refine wp_ifb_eq (pc := 37) 55 dX11_again_37 (by decide) (fun c37 => ?_) (fun c37 => ?_) | refine wp_if_eq (pc := 37) 55 dX11_again_37 (by decide) (by first | omega | exact TI.i5 (by assumption) | exact TI.i3 (by assumption) | exact TI.i2 (by assumption) | exact TI.i1 (by assumption) | exact TI.i0 (by assumption) | exact TI.i4 (by assumption) | exact TI.i6 (by assumption) | exact TI.i7 (by assumption)) (fun c37 => ?_) (fun c37 => ?_)
            ·
              refine wp_iconst (pc := 55) dX11_again_55 ?_
              first | exact wp_z1 (pc := 56) dX11_again_56 rfl (by decide) (by decide) (by simp) ⟨⟨_, _, _, _, _, K⟩, O⟩ | exact wp_z0 (pc := 56) dX11_again_56 rfl (by decide) (by decide) (by simp) ⟨⟨_, _, _, _, _, K⟩, O⟩ | exact wp_zb (pc := 56) dX11_again_56 rfl (by decide) (by decide) Iff.rfl ⟨⟨_, _, _, _, _, K⟩, O⟩
            ·
              exact absurd c37 (by rw [e1]; simp)
        ·
          exact absurd c1 (by omega)
      | some Y =>
        have eY := f1 Y e1
        subst eY
        have ea : agT KT N 1 = if X1 8 0 = (N : Int) then some X1 else none := by unfold agT; rw [if_pos (by decide)]; show (match KT 1 with | none => none | some T => _) = _; rw [e1]
        have h8 := hK 1 X1 e1
        refine Sp_mk rfl (Nat.le_of_ble_eq_true rfl) ?_
        show wp g _ _ _ 0 0 0 [some (.ref D), some (.int (I 1))] [] hp
        have O := SO.rf (hp := hp) (lo := D) (hi := D + 171)
        refine wp_iload_n (pc := 0) dX11_again_0 rfl ?_
        first | refine wp_ifb_ne (pc := 1) 28 dX11_again_1 (by decide) (fun c1 => ?_) (fun c1 => ?_) | refine wp_if_ne (pc := 1) 28 dX11_again_1 (by decide) (by first | omega | exact TI.i5 (by assumption) | exact TI.i3 (by assumption) | exact TI.i2 (by assumption) | exact TI.i1 (by assumption) | exact TI.i0 (by assumption) | exact TI.i4 (by assumption) | exact TI.i6 (by assumption) | exact TI.i7 (by assumption)) (fun c1 => ?_) (fun c1 => ?_)
        ·
          refine wp_iload_n (pc := 28) dX11_again_28 rfl ?_
          refine wp_iconst (pc := 29) dX11_again_29 ?_
          refine wp_icmp_ne (pc := 30) 55 dX11_again_30 (by decide) (by first | omega | exact TI.i5 (by assumption) | exact TI.i3 (by assumption) | exact TI.i2 (by assumption) | exact TI.i1 (by assumption) | exact TI.i0 (by assumption) | exact TI.i4 (by assumption) | exact TI.i6 (by assumption) | exact TI.i7 (by assumption)) (by first | omega | exact TI.i5 (by assumption) | exact TI.i3 (by assumption) | exact TI.i2 (by assumption) | exact TI.i1 (by assumption) | exact TI.i0 (by assumption) | exact TI.i4 (by assumption) | exact TI.i6 (by assumption) | exact TI.i7 (by assumption)) (fun c30 => ?_) (fun c30 => ?_)
          ·
            exact absurd c30 (by omega)
          ·
            refine wp_aload_n (pc := 33) dX11_again_33 rfl ?_
            refine wp_getf (pc := 34) dX11_again_34 gf_X11_364 K.ob (by rfl) ?_
            first | refine wp_ifb_eq (pc := 37) 55 dX11_again_37 (by decide) (fun c37 => ?_) (fun c37 => ?_) | refine wp_if_eq (pc := 37) 55 dX11_again_37 (by decide) (by first | omega | exact TI.i5 (by assumption) | exact TI.i3 (by assumption) | exact TI.i2 (by assumption) | exact TI.i1 (by assumption) | exact TI.i0 (by assumption) | exact TI.i4 (by assumption) | exact TI.i6 (by assumption) | exact TI.i7 (by assumption)) (fun c37 => ?_) (fun c37 => ?_)
            ·
              exact absurd c37 (by rw [e1]; simp)
            ·
              refine wp_aload_n (pc := 40) dX11_again_40 rfl ?_
              refine wp_aload_n (pc := 41) dX11_again_41 rfl ?_
              refine wp_getf (pc := 42) dX11_again_42 gf_X11_50 K.ob (by rfl) ?_
              refine wd_Vs (pc := 45) dX11_again_45 cl_X11_367 (sp_D_bringBack K hI x1 (.inr rfl) h8) rfl rfl K.o (by rfl) (by decide) (Nat.le_of_ble_eq_true rfl) (fun hp45 e45 => ?_)
              obtain ⟨⟨r45, s45, Tr45, z45, Z45, K⟩, O1⟩ := e45; replace O := SO.tr O O1
              first | refine wp_ifb_eq (pc := 48) 55 dX11_again_48 (by decide) (fun c48 => ?_) (fun c48 => ?_) | refine wp_if_eq (pc := 48) 55 dX11_again_48 (by decide) (by first | omega | exact TI.i5 (by assumption) | exact TI.i3 (by assumption) | exact TI.i2 (by assumption) | exact TI.i1 (by assumption) | exact TI.i0 (by assumption) | exact TI.i4 (by assumption) | exact TI.i6 (by assumption) | exact TI.i7 (by assumption)) (fun c48 => ?_) (fun c48 => ?_)
              ·
                rw [if_neg c48, if_neg c48] at K
                rw [ea, if_neg c48] -- go
                refine wp_iconst (pc := 55) dX11_again_55 ?_
                first | exact wp_z1 (pc := 56) dX11_again_56 rfl (by decide) (by decide) (by simp) ⟨⟨_, _, _, _, _, K⟩, O⟩ | exact wp_z0 (pc := 56) dX11_again_56 rfl (by decide) (by decide) (by simp) ⟨⟨_, _, _, _, _, K⟩, O⟩ | exact wp_zb (pc := 56) dX11_again_56 rfl (by decide) (by decide) Iff.rfl ⟨⟨_, _, _, _, _, K⟩, O⟩
              ·
                rw [if_pos c48, if_pos c48] at K
                rw [ea, if_pos c48] -- go
                refine wp_iconst (pc := 51) dX11_again_51 ?_
                refine wp_goto (pc := 52) 56 dX11_again_52 (by decide) ?_
                first | exact wp_z1 (pc := 56) dX11_again_56 rfl (by decide) (by decide) (by simp) ⟨⟨_, _, _, _, _, K⟩, O⟩ | exact wp_z0 (pc := 56) dX11_again_56 rfl (by decide) (by decide) (by simp) ⟨⟨_, _, _, _, _, K⟩, O⟩ | exact wp_zb (pc := 56) dX11_again_56 rfl (by decide) (by decide) Iff.rfl ⟨⟨_, _, _, _, _, K⟩, O⟩
        ·
          exact absurd c1 (by omega)
    · have ea : agT KT N x = none := if_neg (by omega)
      rw [ea]
      refine Sp_mk rfl (Nat.le_of_ble_eq_true rfl) ?_
      show wp g _ _ _ 0 0 0 [some (.ref D), some (.int (I x))] [] hp
      have O := SO.rf (hp := hp) (lo := D) (hi := D + 171)
      refine wp_iload_n (pc := 0) dX11_again_0 rfl ?_
      first | refine wp_ifb_ne (pc := 1) 28 dX11_again_1 (by decide) (fun c1 => ?_) (fun c1 => ?_) | refine wp_if_ne (pc := 1) 28 dX11_again_1 (by decide) (by first | omega | exact TI.i5 (by assumption) | exact TI.i3 (by assumption) | exact TI.i2 (by assumption) | exact TI.i1 (by assumption) | exact TI.i0 (by assumption) | exact TI.i4 (by assumption) | exact TI.i6 (by assumption) | exact TI.i7 (by assumption)) (fun c1 => ?_) (fun c1 => ?_)
      ·
        refine wp_iload_n (pc := 28) dX11_again_28 rfl ?_
        refine wp_iconst (pc := 29) dX11_again_29 ?_
        refine wp_icmp_ne (pc := 30) 55 dX11_again_30 (by decide) (by first | omega | exact TI.i5 (by assumption) | exact TI.i3 (by assumption) | exact TI.i2 (by assumption) | exact TI.i1 (by assumption) | exact TI.i0 (by assumption) | exact TI.i4 (by assumption) | exact TI.i6 (by assumption) | exact TI.i7 (by assumption)) (by first | omega | exact TI.i5 (by assumption) | exact TI.i3 (by assumption) | exact TI.i2 (by assumption) | exact TI.i1 (by assumption) | exact TI.i0 (by assumption) | exact TI.i4 (by assumption) | exact TI.i6 (by assumption) | exact TI.i7 (by assumption)) (fun c30 => ?_) (fun c30 => ?_)
        ·
          refine wp_iconst (pc := 55) dX11_again_55 ?_
          first | exact wp_z1 (pc := 56) dX11_again_56 rfl (by decide) (by decide) (by simp) ⟨⟨_, _, _, _, _, K⟩, O⟩ | exact wp_z0 (pc := 56) dX11_again_56 rfl (by decide) (by decide) (by simp) ⟨⟨_, _, _, _, _, K⟩, O⟩ | exact wp_zb (pc := 56) dX11_again_56 rfl (by decide) (by decide) Iff.rfl ⟨⟨_, _, _, _, _, K⟩, O⟩
        ·
          exact absurd c30 (by omega)
      ·
        exact absurd c1 (by omega)
end D6

