/-! the reference: one act read, walked -/
section MQc
variable {g : GT} {hp hp0 : Hp} {q N N2 n a s k p F m r tp p1 p2 p3 : Nat} {V V2 V3 : Nat → Int} {A A2 A3 : Nat → Int → Int} {rd rl : Value} {i j x v b c y z w th o d u w1 w2 w3 u1 u2 u3 : Int} {T T2 X : Nat → Int → Int} {l t cs tx rw rw2 rt : List Int} {G f D Y C : Int → Int}
theorem jn_rA {Q : Hp → Prop} (h1 : c ≠ 108) (h2 : c ≠ 112) (rc : InR c) (hQ : Q hp) : wp g MX12_readAct (rm 3 0 0) (Vod Q) 0 0 101 [some (.ref q), some (.int (I u)), some (.int (I c))] [] hp := by
  refine wp_iload_n (pc := 101) dX12_readAct_101 rfl ?_
  refine wp_bipush (pc := 102) (y := 108) dX12_readAct_102 (by decide) ?_
  refine wp_icmp_eq (pc := 104) 114 dX12_readAct_104 (by decide) (by first | omega | exact TI.i5 (by assumption) | exact TI.i3 (by assumption) | exact TI.i2 (by assumption) | exact TI.i1 (by assumption) | exact TI.i0 (by assumption) | exact TI.i4 (by assumption) | exact TI.i6 (by assumption) | exact TI.i7 (by assumption)) (by first | omega | exact TI.i5 (by assumption) | exact TI.i3 (by assumption) | exact TI.i2 (by assumption) | exact TI.i1 (by assumption) | exact TI.i0 (by assumption) | exact TI.i4 (by assumption) | exact TI.i6 (by assumption) | exact TI.i7 (by assumption)) (fun c104 => ?_) (fun c104 => ?_)
  ·
    omega
  ·
    refine wp_iload_n (pc := 107) dX12_readAct_107 rfl ?_
    refine wp_bipush (pc := 108) (y := 112) dX12_readAct_108 (by decide) ?_
    refine wp_icmp_eq (pc := 110) 114 dX12_readAct_110 (by decide) (by first | omega | exact TI.i5 (by assumption) | exact TI.i3 (by assumption) | exact TI.i2 (by assumption) | exact TI.i1 (by assumption) | exact TI.i0 (by assumption) | exact TI.i4 (by assumption) | exact TI.i6 (by assumption) | exact TI.i7 (by assumption)) (by first | omega | exact TI.i5 (by assumption) | exact TI.i3 (by assumption) | exact TI.i2 (by assumption) | exact TI.i1 (by assumption) | exact TI.i0 (by assumption) | exact TI.i4 (by assumption) | exact TI.i6 (by assumption) | exact TI.i7 (by assumption)) (fun c110 => ?_) (fun c110 => ?_)
    ·
      omega
    ·
      exact wp_vr (pc := 113) dX12_readAct_113 rfl (by decide) (by decide) hQ
theorem jn_rB {Q : Hp → Prop} (K : ModAt hp q (pv V p1 w1) (upA A 12 C) rd rl) (O : SO hp0 hp q (q + 25)) (L : RdL A V q rd l 60) (hle : InR w1 ∧ p1 ≤ 63) (hk : k < 79) (hc : c = 108 ∨ c = 112) (Kn : ∀ (hp3 : Hp) (p2 : Nat) (w2 u2 : Int) (p3 : Nat) (w3 u3 : Int), OO l 60 48 10 p1 w1 p2 w2 u2 → OO l 60 49 9 p2 w2 p3 w3 u3 → ModAt hp3 q (pv V p3 w3) (upA A 12 (updI (updI C (4 * (k : Int) + 2) u2) (4 * (k : Int) + 3) (u3 + 1))) rd rl → SO hp0 hp3 q (q + 25) → Q hp3) : wp g MX12_readAct (rm 3 0 0) (Vod Q) 0 0 101 [some (.ref q), some (.int (I (4 * (k : Int)))), some (.int (I c))] [] hp := by
  refine wp_iload_n (pc := 101) dX12_readAct_101 rfl ?_
  refine wp_bipush (pc := 102) (y := 108) dX12_readAct_102 (by decide) ?_
  refine wp_icmp_eq (pc := 104) 114 dX12_readAct_104 (by decide) (by first | omega | exact TI.i5 (by assumption) | exact TI.i3 (by assumption) | exact TI.i2 (by assumption) | exact TI.i1 (by assumption) | exact TI.i0 (by assumption) | exact TI.i4 (by assumption) | exact TI.i6 (by assumption) | exact TI.i7 (by assumption)) (by first | omega | exact TI.i5 (by assumption) | exact TI.i3 (by assumption) | exact TI.i2 (by assumption) | exact TI.i1 (by assumption) | exact TI.i0 (by assumption) | exact TI.i4 (by assumption) | exact TI.i6 (by assumption) | exact TI.i7 (by assumption)) (fun c104 => ?_) (fun c104 => ?_)
  ·
    refine wp_aload_n (pc := 114) dX12_readAct_114 rfl ?_
    refine wm_get dX12_readAct_115 gf_X12_45 K (by rfl) ?_
    refine wp_iload_n (pc := 118) dX12_readAct_118 rfl ?_
    refine wp_iconst (pc := 119) dX12_readAct_119 ?_
    refine wp_iadd (pc := 120) dX12_readAct_120 ?_
    refine wp_aload_n (pc := 121) dX12_readAct_121 rfl ?_
    refine wp_bipush (pc := 122) (y := 48) dX12_readAct_122 (by decide) ?_
    refine wp_bipush (pc := 124) (y := 10) dX12_readAct_124 (by decide) ?_
    refine wp_Vs (pc := 126) dX12_readAct_126 cl_X12_141 (sp_Ref_oneOf K (L.aa rfl rfl rfl) hle.1 (by omega) (by decide)) rfl rfl K.1 (by rfl) (by decide) (Nat.le_of_ble_eq_true rfl) (fun hp126 e126 => ?_)
    obtain ⟨K, O1⟩ := e126
    replace O := SO.tr O O1
    obtain ⟨p2, w2, u2, ep2, ew2, eu2, D2⟩ := oo (l := l) (tp := 60) (c := 48) (b := 10) (p := p1) (w := w1)
    rw [ep2, ew2] at K
    rw [eu2]
    have hle2 := D2.le hle.1 (by omega)
    refine wm_iast dX12_readAct_129 K O (by first | rfl | assumption) (by first | decide | omega) (by first | decide | omega) (by decide) (by omega) (by omega) (by repeat (first | assumption | exact upA_eq | (apply upA_ne; first | decide | omega) | (apply SA_at; assumption; first | decide | (simp; omega)) | exact rfl)) (by first | exact flatv5 (by omega) (by omega) | exact flatv3 (by omega) (by omega) | exact flatv2 (by omega) (by omega) | exact flatv6 (by omega) (by omega) | exact flatv4 (by omega) (by omega) | exact flatw1 (by omega) (by omega) | exact flatw0 (by omega) (by omega) | exact flatw7 | exact rfl) (fun hp K O => ?_)
    rw [upA_upA] at K
    refine wp_aload_n (pc := 130) dX12_readAct_130 rfl ?_
    refine wm_get dX12_readAct_131 gf_X12_45 K (by rfl) ?_
    refine wp_iload_n (pc := 134) dX12_readAct_134 rfl ?_
    refine wp_iconst (pc := 135) dX12_readAct_135 ?_
    refine wp_iadd (pc := 136) dX12_readAct_136 ?_
    refine wp_aload_n (pc := 137) dX12_readAct_137 rfl ?_
    refine wp_bipush (pc := 138) (y := 49) dX12_readAct_138 (by decide) ?_
    refine wp_bipush (pc := 140) (y := 9) dX12_readAct_140 (by decide) ?_
    refine wp_Vs (pc := 142) dX12_readAct_142 cl_X12_141 (sp_Ref_oneOf K (L.aa rfl rfl rfl) hle2.1 (by omega) (by decide)) rfl rfl K.1 (by rfl) (by decide) (Nat.le_of_ble_eq_true rfl) (fun hp142 e142 => ?_)
    obtain ⟨K, O1⟩ := e142
    replace O := SO.tr O O1
    obtain ⟨p3, w3, u3, ep3, ew3, eu3, D3⟩ := oo (l := l) (tp := 60) (c := 49) (b := 9) (p := p2) (w := w2)
    rw [ep3, ew3] at K
    rw [eu3]
    refine wp_iconst (pc := 145) dX12_readAct_145 ?_
    refine wp_iadd (pc := 146) dX12_readAct_146 ?_
    refine wm_iast dX12_readAct_147 K O (by first | rfl | assumption) (by first | decide | omega) (by first | decide | omega) (by decide) (by omega) (by omega) (by repeat (first | assumption | exact upA_eq | (apply upA_ne; first | decide | omega) | (apply SA_at; assumption; first | decide | (simp; omega)) | exact rfl)) (by first | exact flatv5 (by omega) (by omega) | exact flatv3 (by omega) (by omega) | exact flatv2 (by omega) (by omega) | exact flatv6 (by omega) (by omega) | exact flatv4 (by omega) (by omega) | exact flatw1 (by omega) (by omega) | exact flatw0 (by omega) (by omega) | exact flatw7 | exact rfl) (fun hp K O => ?_)
    rw [upA_upA] at K
    exact wp_vr (pc := 148) dX12_readAct_148 rfl (by decide) (by decide) (Kn _ _ _ _ _ _ _ D2 D3 K O)
  ·
    refine wp_iload_n (pc := 107) dX12_readAct_107 rfl ?_
    refine wp_bipush (pc := 108) (y := 112) dX12_readAct_108 (by decide) ?_
    refine wp_icmp_eq (pc := 110) 114 dX12_readAct_110 (by decide) (by first | omega | exact TI.i5 (by assumption) | exact TI.i3 (by assumption) | exact TI.i2 (by assumption) | exact TI.i1 (by assumption) | exact TI.i0 (by assumption) | exact TI.i4 (by assumption) | exact TI.i6 (by assumption) | exact TI.i7 (by assumption)) (by first | omega | exact TI.i5 (by assumption) | exact TI.i3 (by assumption) | exact TI.i2 (by assumption) | exact TI.i1 (by assumption) | exact TI.i0 (by assumption) | exact TI.i4 (by assumption) | exact TI.i6 (by assumption) | exact TI.i7 (by assumption)) (fun c110 => ?_) (fun c110 => ?_)
    ·
      refine wp_aload_n (pc := 114) dX12_readAct_114 rfl ?_
      refine wm_get dX12_readAct_115 gf_X12_45 K (by rfl) ?_
      refine wp_iload_n (pc := 118) dX12_readAct_118 rfl ?_
      refine wp_iconst (pc := 119) dX12_readAct_119 ?_
      refine wp_iadd (pc := 120) dX12_readAct_120 ?_
      refine wp_aload_n (pc := 121) dX12_readAct_121 rfl ?_
      refine wp_bipush (pc := 122) (y := 48) dX12_readAct_122 (by decide) ?_
      refine wp_bipush (pc := 124) (y := 10) dX12_readAct_124 (by decide) ?_
      refine wp_Vs (pc := 126) dX12_readAct_126 cl_X12_141 (sp_Ref_oneOf K (L.aa rfl rfl rfl) hle.1 (by omega) (by decide)) rfl rfl K.1 (by rfl) (by decide) (Nat.le_of_ble_eq_true rfl) (fun hp126 e126 => ?_)
      obtain ⟨K, O1⟩ := e126
      replace O := SO.tr O O1
      obtain ⟨p2, w2, u2, ep2, ew2, eu2, D2⟩ := oo (l := l) (tp := 60) (c := 48) (b := 10) (p := p1) (w := w1)
      rw [ep2, ew2] at K
      rw [eu2]
      have hle2 := D2.le hle.1 (by omega)
      refine wm_iast dX12_readAct_129 K O (by first | rfl | assumption) (by first | decide | omega) (by first | decide | omega) (by decide) (by omega) (by omega) (by repeat (first | assumption | exact upA_eq | (apply upA_ne; first | decide | omega) | (apply SA_at; assumption; first | decide | (simp; omega)) | exact rfl)) (by first | exact flatv5 (by omega) (by omega) | exact flatv3 (by omega) (by omega) | exact flatv2 (by omega) (by omega) | exact flatv6 (by omega) (by omega) | exact flatv4 (by omega) (by omega) | exact flatw1 (by omega) (by omega) | exact flatw0 (by omega) (by omega) | exact flatw7 | exact rfl) (fun hp K O => ?_)
      rw [upA_upA] at K
      refine wp_aload_n (pc := 130) dX12_readAct_130 rfl ?_
      refine wm_get dX12_readAct_131 gf_X12_45 K (by rfl) ?_
      refine wp_iload_n (pc := 134) dX12_readAct_134 rfl ?_
      refine wp_iconst (pc := 135) dX12_readAct_135 ?_
      refine wp_iadd (pc := 136) dX12_readAct_136 ?_
      refine wp_aload_n (pc := 137) dX12_readAct_137 rfl ?_
      refine wp_bipush (pc := 138) (y := 49) dX12_readAct_138 (by decide) ?_
      refine wp_bipush (pc := 140) (y := 9) dX12_readAct_140 (by decide) ?_
      refine wp_Vs (pc := 142) dX12_readAct_142 cl_X12_141 (sp_Ref_oneOf K (L.aa rfl rfl rfl) hle2.1 (by omega) (by decide)) rfl rfl K.1 (by rfl) (by decide) (Nat.le_of_ble_eq_true rfl) (fun hp142 e142 => ?_)
      obtain ⟨K, O1⟩ := e142
      replace O := SO.tr O O1
      obtain ⟨p3, w3, u3, ep3, ew3, eu3, D3⟩ := oo (l := l) (tp := 60) (c := 49) (b := 9) (p := p2) (w := w2)
      rw [ep3, ew3] at K
      rw [eu3]
      refine wp_iconst (pc := 145) dX12_readAct_145 ?_
      refine wp_iadd (pc := 146) dX12_readAct_146 ?_
      refine wm_iast dX12_readAct_147 K O (by first | rfl | assumption) (by first | decide | omega) (by first | decide | omega) (by decide) (by omega) (by omega) (by repeat (first | assumption | exact upA_eq | (apply upA_ne; first | decide | omega) | (apply SA_at; assumption; first | decide | (simp; omega)) | exact rfl)) (by first | exact flatv5 (by omega) (by omega) | exact flatv3 (by omega) (by omega) | exact flatv2 (by omega) (by omega) | exact flatv6 (by omega) (by omega) | exact flatv4 (by omega) (by omega) | exact flatw1 (by omega) (by omega) | exact flatw0 (by omega) (by omega) | exact flatw7 | exact rfl) (fun hp K O => ?_)
      rw [upA_upA] at K
      exact wp_vr (pc := 148) dX12_readAct_148 rfl (by decide) (by decide) (Kn _ _ _ _ _ _ _ D2 D3 K O)
    ·
      omega
theorem jn_rC (K : ModAt hp q (pv V p (-1)) A rd rl) (O : SO hp0 hp q (q + 25)) (L : RdL A V q rd l 60) (hp6 : p ≤ 61) (hk : k < 79) (hc : hr l 60 p = 104 ∨ hr l 60 p = 100 ∨ hr l 60 p = 99 ∨ hr l 60 p = 108 ∨ hr l 60 p = 112) : wp g MX12_readAct (rm 3 0 0) (Vod (fun hp2 => (∃ C p' w', ModAt hp2 q (pv V p' w') (upA A 12 C) rd rl ∧ RA l p k (A 12) C p' w') ∧ SO hp0 hp2 q (q + 25))) 0 0 44 [some (.ref q), some (.int (I (4 * (k : Int)))), some (.int (I (hr l 60 p)))] [] hp := by
  refine wp_aload_n (pc := 44) dX12_readAct_44 rfl ?_
  refine wp_dup (pc := 45) dX12_readAct_45 rfl ?_
  refine wm_gets dX12_readAct_46 gf_X12_115 K (by rfl) (by repeat (first | assumption | exact pv10 | exact pv11 | (apply pv_o; decide; decide) | exact upN_eq | (apply upN_ne; decide) | (apply SV_at; assumption; decide) | exact rfl)) ?_
  refine wp_iconst (pc := 49) dX12_readAct_49 ?_
  refine wp_iadd (pc := 50) dX12_readAct_50 ?_
  refine wm_put dX12_readAct_51 pf_X12_115 K O (by decide) mset_10 rfl rfl (fun hp K O => ?_)
  try rw [pv_at] at K
  refine wp_aload_n (pc := 54) dX12_readAct_54 rfl ?_
  refine wm_get dX12_readAct_55 gf_X12_45 K (by rfl) ?_
  refine wp_iload_n (pc := 58) dX12_readAct_58 rfl ?_
  refine wp_iload_n (pc := 59) dX12_readAct_59 rfl ?_
  refine wm_iast dX12_readAct_60 K O (by first | rfl | assumption) (by first | decide | omega) (by first | decide | omega) (by decide) (by omega) (by omega) (by repeat (first | assumption | exact upA_eq | (apply upA_ne; first | decide | omega) | (apply SA_at; assumption; first | decide | (simp; omega)) | exact rfl)) (by first | exact flatv5 (by omega) (by omega) | exact flatv3 (by omega) (by omega) | exact flatv2 (by omega) (by omega) | exact flatv6 (by omega) (by omega) | exact flatv4 (by omega) (by omega) | exact flatw1 (by omega) (by omega) | exact flatw0 (by omega) (by omega) | exact flatw7 | exact rfl) (fun hp K O => ?_)
  refine wp_aload_n (pc := 61) dX12_readAct_61 rfl ?_
  refine wm_get dX12_readAct_62 gf_X12_45 K (by rfl) ?_
  refine wp_iload_n (pc := 65) dX12_readAct_65 rfl ?_
  refine wp_iconst (pc := 66) dX12_readAct_66 ?_
  refine wp_iadd (pc := 67) dX12_readAct_67 ?_
  refine wp_aload_n (pc := 68) dX12_readAct_68 rfl ?_
  refine wp_bipush (pc := 69) (y := 48) dX12_readAct_69 (by decide) ?_
  refine wp_bipush (pc := 71) (y := 10) dX12_readAct_71 (by decide) ?_
  refine wp_Vs (pc := 73) dX12_readAct_73 cl_X12_141 (sp_Ref_oneOf K (L.aa rfl rfl rfl) (by decide) (by omega) (by decide)) rfl rfl K.1 (by rfl) (by decide) (Nat.le_of_ble_eq_true rfl) (fun hp73 e73 => ?_)
  obtain ⟨K, O1⟩ := e73
  replace O := SO.tr O O1
  obtain ⟨p1, w1, u1, ep1, ew1, eu1, D1⟩ := oo (l := l) (tp := 60) (c := 48) (b := 10) (p := p + 1) (w := -1)
  rw [ep1, ew1] at K
  rw [eu1]
  have hle1 := D1.le (by decide) (by omega)
  refine wm_iast dX12_readAct_76 K O (by first | rfl | assumption) (by first | decide | omega) (by first | decide | omega) (by decide) (by omega) (by omega) (by repeat (first | assumption | exact upA_eq | (apply upA_ne; first | decide | omega) | (apply SA_at; assumption; first | decide | (simp; omega)) | exact rfl)) (by first | exact flatv5 (by omega) (by omega) | exact flatv3 (by omega) (by omega) | exact flatv2 (by omega) (by omega) | exact flatv6 (by omega) (by omega) | exact flatv4 (by omega) (by omega) | exact flatw1 (by omega) (by omega) | exact flatw0 (by omega) (by omega) | exact flatw7 | exact rfl) (fun hp K O => ?_)
  rw [upA_upA] at K
  refine wp_iload_n (pc := 77) dX12_readAct_77 rfl ?_
  refine wp_bipush (pc := 78) (y := 100) dX12_readAct_78 (by decide) ?_
  refine wp_icmp_ne (pc := 80) 101 dX12_readAct_80 (by decide) (by first | omega | exact TI.i5 (by assumption) | exact TI.i3 (by assumption) | exact TI.i2 (by assumption) | exact TI.i1 (by assumption) | exact TI.i0 (by assumption) | exact TI.i4 (by assumption) | exact TI.i6 (by assumption) | exact TI.i7 (by assumption)) (by first | omega | exact TI.i5 (by assumption) | exact TI.i3 (by assumption) | exact TI.i2 (by assumption) | exact TI.i1 (by assumption) | exact TI.i0 (by assumption) | exact TI.i4 (by assumption) | exact TI.i6 (by assumption) | exact TI.i7 (by assumption)) (fun c80 => ?_) (fun c80 => ?_)
  ·
    first
    | exact jn_rA (by omega) (by omega) (by omega) ⟨⟨_, _, _, K, ra2 (by unfold nd; rw [if_neg (by omega), if_pos (by omega)]) D1 D2⟩, O⟩
    | by_cases h3 : hr l 60 p = 108 ∨ hr l 60 p = 112
      · exact jn_rB K O L (by omega) hk h3 (fun hp3 p2 w2 u2 p3 w3 u3 D2 D3 K O => ⟨⟨_, _, _, K, ra3 (by unfold nd; rw [if_neg (by omega), if_neg (by omega), if_pos (by omega)]) D1 D2 D3⟩, O⟩)
      · exact jn_rA (by omega) (by omega) (by omega) ⟨⟨_, _, _, K, ra1 (by unfold nd; rw [if_pos (by omega)]) D1⟩, O⟩
  ·
    refine wp_aload_n (pc := 83) dX12_readAct_83 rfl ?_
    refine wm_get dX12_readAct_84 gf_X12_45 K (by rfl) ?_
    refine wp_iload_n (pc := 87) dX12_readAct_87 rfl ?_
    refine wp_iconst (pc := 88) dX12_readAct_88 ?_
    refine wp_iadd (pc := 89) dX12_readAct_89 ?_
    refine wp_aload_n (pc := 90) dX12_readAct_90 rfl ?_
    refine wp_bipush (pc := 91) (y := 49) dX12_readAct_91 (by decide) ?_
    refine wp_bipush (pc := 93) (y := 9) dX12_readAct_93 (by decide) ?_
    refine wp_Vs (pc := 95) dX12_readAct_95 cl_X12_141 (sp_Ref_oneOf K (L.aa rfl rfl rfl) hle1.1 (by omega) (by decide)) rfl rfl K.1 (by rfl) (by decide) (Nat.le_of_ble_eq_true rfl) (fun hp95 e95 => ?_)
    obtain ⟨K, O1⟩ := e95
    replace O := SO.tr O O1
    obtain ⟨p2, w2, u2, ep2, ew2, eu2, D2⟩ := oo (l := l) (tp := 60) (c := 49) (b := 9) (p := p1) (w := w1)
    rw [ep2, ew2] at K
    rw [eu2]
    refine wp_iconst (pc := 98) dX12_readAct_98 ?_
    refine wp_iadd (pc := 99) dX12_readAct_99 ?_
    refine wm_iast dX12_readAct_100 K O (by first | rfl | assumption) (by first | decide | omega) (by first | decide | omega) (by decide) (by omega) (by omega) (by repeat (first | assumption | exact upA_eq | (apply upA_ne; first | decide | omega) | (apply SA_at; assumption; first | decide | (simp; omega)) | exact rfl)) (by first | exact flatv5 (by omega) (by omega) | exact flatv3 (by omega) (by omega) | exact flatv2 (by omega) (by omega) | exact flatv6 (by omega) (by omega) | exact flatv4 (by omega) (by omega) | exact flatw1 (by omega) (by omega) | exact flatw0 (by omega) (by omega) | exact flatw7 | exact rfl) (fun hp K O => ?_)
    rw [upA_upA] at K
    first
    | exact jn_rA (by omega) (by omega) (by omega) ⟨⟨_, _, _, K, ra2 (by unfold nd; rw [if_neg (by omega), if_pos (by omega)]) D1 D2⟩, O⟩
    | by_cases h3 : hr l 60 p = 108 ∨ hr l 60 p = 112
      · exact jn_rB K O L (by omega) hk h3 (fun hp3 p2 w2 u2 p3 w3 u3 D2 D3 K O => ⟨⟨_, _, _, K, ra3 (by unfold nd; rw [if_neg (by omega), if_neg (by omega), if_pos (by omega)]) D1 D2 D3⟩, O⟩)
      · exact jn_rA (by omega) (by omega) (by omega) ⟨⟨_, _, _, K, ra1 (by unfold nd; rw [if_pos (by omega)]) D1⟩, O⟩
theorem sp_Ref_readAct (K : ModAt hp q (pv V p (-1)) A rd rl) (L : RdL A V q rd l 60) (hp6 : p ≤ 61) (hk : k < 79) : Sp g MX12_readAct (rm 3 0 0) [.ref q, .int (I (4 * (k : Int)))] hp (Vod (fun hp2 => (∃ C p' w', ModAt hp2 q (pv V p' w') (upA A 12 C) rd rl ∧ RA l p k (A 12) C p' w') ∧ SO hp hp2 q (q + 25))) := by
  have hh := hr_in (tp := 60) (p := p) L.bb
  refine Sp_mk rfl (Nat.le_of_ble_eq_true rfl) ?_
  show wp g _ _ _ 0 0 0 [some (.ref q), some (.int (I (4 * (k : Int)))), none] [] hp
  have O := SO.rf (hp := hp) (lo := q) (hi := q + 25)
  refine wp_aload_n (pc := 0) dX12_readAct_0 rfl ?_
  refine wp_Vp (pc := 1) dX12_readAct_1 cl_X12_129 (sp_Ref_here (by first | assumption | omega | (repeat (first | assumption | exact pv10 | exact pv11 | (apply pv_o; decide; decide) | exact upN_eq | (apply upN_ne; decide) | (apply SV_at; assumption; decide) | exact upA_eq | (apply upA_ne; first | decide | omega) | (apply SA_at; assumption; first | decide | (simp; omega)) | exact rfl))) (by first | assumption | omega | (repeat (first | assumption | exact pv10 | exact pv11 | (apply pv_o; decide; decide) | exact upN_eq | (apply upN_ne; decide) | (apply SV_at; assumption; decide) | exact upA_eq | (apply upA_ne; first | decide | omega) | (apply SA_at; assumption; first | decide | (simp; omega)) | exact rfl))) (by first | assumption | omega | (repeat (first | assumption | exact pv10 | exact pv11 | (apply pv_o; decide; decide) | exact upN_eq | (apply upN_ne; decide) | (apply SV_at; assumption; decide) | exact upA_eq | (apply upA_ne; first | decide | omega) | (apply SA_at; assumption; first | decide | (simp; omega)) | exact rfl)))) rfl rfl K.1 (by rfl) (by decide) (Nat.le_of_ble_eq_true rfl) ?_
  refine wp_istore_n (pc := 4) dX12_readAct_4 (by decide) ?_
  refine wp_iload_n (pc := 5) dX12_readAct_5 rfl ?_
  refine wp_bipush (pc := 6) (y := 104) dX12_readAct_6 (by decide) ?_
  refine wp_icmp_eq (pc := 8) 44 dX12_readAct_8 (by decide) (by first | omega | exact TI.i5 (by assumption) | exact TI.i3 (by assumption) | exact TI.i2 (by assumption) | exact TI.i1 (by assumption) | exact TI.i0 (by assumption) | exact TI.i4 (by assumption) | exact TI.i6 (by assumption) | exact TI.i7 (by assumption)) (by first | omega | exact TI.i5 (by assumption) | exact TI.i3 (by assumption) | exact TI.i2 (by assumption) | exact TI.i1 (by assumption) | exact TI.i0 (by assumption) | exact TI.i4 (by assumption) | exact TI.i6 (by assumption) | exact TI.i7 (by assumption)) (fun c8 => ?_) (fun c8 => ?_)
  ·
    refine wp_ls ?_ (jn_rC K O L hp6 hk (by omega))
    repeat' (first | exact LE_0 | refine LE_s rfl ?_ | refine LE_s (I_c (by first | omega | (simp only [sm]; omega))) ?_ | refine LE_s (J_c (by first | omega | exact Int.pow_succ _ _ | exact (Int.pow_succ _ _).symm | exact (Int.pow_zero _).symm | (simp only [sm]; omega))) ?_ | refine LE_n ?_)
  ·
    refine wp_iload_n (pc := 11) dX12_readAct_11 rfl ?_
    refine wp_bipush (pc := 12) (y := 100) dX12_readAct_12 (by decide) ?_
    refine wp_icmp_eq (pc := 14) 44 dX12_readAct_14 (by decide) (by first | omega | exact TI.i5 (by assumption) | exact TI.i3 (by assumption) | exact TI.i2 (by assumption) | exact TI.i1 (by assumption) | exact TI.i0 (by assumption) | exact TI.i4 (by assumption) | exact TI.i6 (by assumption) | exact TI.i7 (by assumption)) (by first | omega | exact TI.i5 (by assumption) | exact TI.i3 (by assumption) | exact TI.i2 (by assumption) | exact TI.i1 (by assumption) | exact TI.i0 (by assumption) | exact TI.i4 (by assumption) | exact TI.i6 (by assumption) | exact TI.i7 (by assumption)) (fun c14 => ?_) (fun c14 => ?_)
    ·
      refine wp_ls ?_ (jn_rC K O L hp6 hk (by omega))
      repeat' (first | exact LE_0 | refine LE_s rfl ?_ | refine LE_s (I_c (by first | omega | (simp only [sm]; omega))) ?_ | refine LE_s (J_c (by first | omega | exact Int.pow_succ _ _ | exact (Int.pow_succ _ _).symm | exact (Int.pow_zero _).symm | (simp only [sm]; omega))) ?_ | refine LE_n ?_)
    ·
      refine wp_iload_n (pc := 17) dX12_readAct_17 rfl ?_
      refine wp_bipush (pc := 18) (y := 99) dX12_readAct_18 (by decide) ?_
      refine wp_icmp_eq (pc := 20) 44 dX12_readAct_20 (by decide) (by first | omega | exact TI.i5 (by assumption) | exact TI.i3 (by assumption) | exact TI.i2 (by assumption) | exact TI.i1 (by assumption) | exact TI.i0 (by assumption) | exact TI.i4 (by assumption) | exact TI.i6 (by assumption) | exact TI.i7 (by assumption)) (by first | omega | exact TI.i5 (by assumption) | exact TI.i3 (by assumption) | exact TI.i2 (by assumption) | exact TI.i1 (by assumption) | exact TI.i0 (by assumption) | exact TI.i4 (by assumption) | exact TI.i6 (by assumption) | exact TI.i7 (by assumption)) (fun c20 => ?_) (fun c20 => ?_)
      ·
        refine wp_ls ?_ (jn_rC K O L hp6 hk (by omega))
        repeat' (first | exact LE_0 | refine LE_s rfl ?_ | refine LE_s (I_c (by first | omega | (simp only [sm]; omega))) ?_ | refine LE_s (J_c (by first | omega | exact Int.pow_succ _ _ | exact (Int.pow_succ _ _).symm | exact (Int.pow_zero _).symm | (simp only [sm]; omega))) ?_ | refine LE_n ?_)
      ·
        refine wp_iload_n (pc := 23) dX12_readAct_23 rfl ?_
        refine wp_bipush (pc := 24) (y := 108) dX12_readAct_24 (by decide) ?_
        refine wp_icmp_eq (pc := 26) 44 dX12_readAct_26 (by decide) (by first | omega | exact TI.i5 (by assumption) | exact TI.i3 (by assumption) | exact TI.i2 (by assumption) | exact TI.i1 (by assumption) | exact TI.i0 (by assumption) | exact TI.i4 (by assumption) | exact TI.i6 (by assumption) | exact TI.i7 (by assumption)) (by first | omega | exact TI.i5 (by assumption) | exact TI.i3 (by assumption) | exact TI.i2 (by assumption) | exact TI.i1 (by assumption) | exact TI.i0 (by assumption) | exact TI.i4 (by assumption) | exact TI.i6 (by assumption) | exact TI.i7 (by assumption)) (fun c26 => ?_) (fun c26 => ?_)
        ·
          refine wp_ls ?_ (jn_rC K O L hp6 hk (by omega))
          repeat' (first | exact LE_0 | refine LE_s rfl ?_ | refine LE_s (I_c (by first | omega | (simp only [sm]; omega))) ?_ | refine LE_s (J_c (by first | omega | exact Int.pow_succ _ _ | exact (Int.pow_succ _ _).symm | exact (Int.pow_zero _).symm | (simp only [sm]; omega))) ?_ | refine LE_n ?_)
        ·
          refine wp_iload_n (pc := 29) dX12_readAct_29 rfl ?_
          refine wp_bipush (pc := 30) (y := 112) dX12_readAct_30 (by decide) ?_
          refine wp_icmp_eq (pc := 32) 44 dX12_readAct_32 (by decide) (by first | omega | exact TI.i5 (by assumption) | exact TI.i3 (by assumption) | exact TI.i2 (by assumption) | exact TI.i1 (by assumption) | exact TI.i0 (by assumption) | exact TI.i4 (by assumption) | exact TI.i6 (by assumption) | exact TI.i7 (by assumption)) (by first | omega | exact TI.i5 (by assumption) | exact TI.i3 (by assumption) | exact TI.i2 (by assumption) | exact TI.i1 (by assumption) | exact TI.i0 (by assumption) | exact TI.i4 (by assumption) | exact TI.i6 (by assumption) | exact TI.i7 (by assumption)) (fun c32 => ?_) (fun c32 => ?_)
          ·
            refine wp_ls ?_ (jn_rC K O L hp6 hk (by omega))
            repeat' (first | exact LE_0 | refine LE_s rfl ?_ | refine LE_s (I_c (by first | omega | (simp only [sm]; omega))) ?_ | refine LE_s (J_c (by first | omega | exact Int.pow_succ _ _ | exact (Int.pow_succ _ _).symm | exact (Int.pow_zero _).symm | (simp only [sm]; omega))) ?_ | refine LE_n ?_)
          ·
            refine wp_aload_n (pc := 35) dX12_readAct_35 rfl ?_
            refine wp_aload_n (pc := 36) dX12_readAct_36 rfl ?_
            refine wm_gets dX12_readAct_37 gf_X12_115 K (by rfl) (by repeat (first | assumption | exact pv10 | exact pv11 | (apply pv_o; decide; decide) | exact upN_eq | (apply upN_ne; decide) | (apply SV_at; assumption; decide) | exact rfl)) ?_
            refine wp_Vn (pc := 40) dX12_readAct_40 cl_X12_137 (sp_Ref_fault K (by decide)) rfl rfl K.1 (by rfl) (by decide) (Nat.le_of_ble_eq_true rfl) (fun hp40 e40 => ?_)
            obtain ⟨K, O1⟩ := e40
            replace O := SO.tr O O1
            rw [if_pos rfl] at K
            exact wp_vr (pc := 43) dX12_readAct_43 rfl (by decide) (by decide) ⟨⟨A 12, _, _, by rw [upA_id rfl]; exact K, ra0 (by unfold nd; rw [if_neg (by omega), if_neg (by omega), if_neg (by omega)])⟩, O⟩
end MQc

