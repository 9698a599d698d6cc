/-! the reference: one act of an afternoon -/
section MQa
variable {g : GT} {hp hp0 : Hp} {q N N2 n a b s k p F m r : Nat} {V V2 V3 : Nat → Int} {A A2 A3 : Nat → Int → Int} {rd rl : Value} {i j x v c y z w th o d u : Int} {T T2 X : Nat → Int → Int} {l t cs tx rw rw2 rt : List Int} {G f D Y C : Int → Int} {U U2 : List (Nat → Int → Int)} {hs : List (Int × Int)} {ss : List (Int × Int × Int)} {KT : Nat → Option (Nat → Int → Int)}
def acA (T : Nat → Int → Int) (N : Nat) (c x y z : Int) : Int := if c = 104 then 0 else if c = 100 then dieA T N x y else if c = 99 then couA T N x else if c = 108 then lenA T N x y z else payA T N x y z
def acT (cs : List Int) (T : Nat → Int → Int) (N : Nat) (c x y z : Int) : Nat → Int → Int := if c = 104 then runT cs T N x.toNat else if c = 100 then dieT T N x y else if c = 99 then couT T N x else if c = 108 then lenT T N x y z else payT T N x y z
theorem acA_h : acA T N 104 x y z = 0 := rfl
theorem acA_d : acA T N 100 x y z = dieA T N x y := rfl
theorem acA_c : acA T N 99 x y z = couA T N x := rfl
theorem acA_l : acA T N 108 x y z = lenA T N x y z := rfl
theorem acA_p : acA T N 112 x y z = payA T N x y z := rfl
theorem acT_h : acT cs T N 104 (n : Int) y z = runT cs T N n := rfl
theorem acT_d : acT cs T N 100 x y z = dieT T N x y := rfl
theorem acT_c : acT cs T N 99 x y z = couT T N x := rfl
theorem acT_l : acT cs T N 108 x y z = lenT T N x y z := rfl
theorem acT_p : acT cs T N 112 x y z = payT T N x y z := rfl
theorem sp_Ref_act (K : ModAt hp q V A rd rl) (m1 : V 1 = (N : Int)) (hI : TI T N) (hH : HS T) (hA : A 1 = flat T) (hu : RuA A V q rl t) (hb : T 7 0 + 10 < 2000000000) (hk : k < 79) (ec : A 12 (4 * (k : Int)) = c) (ex : A 12 (4 * (k : Int) + 1) = x) (ey : A 12 (4 * (k : Int) + 2) = y) (ez : A 12 (4 * (k : Int) + 3) = z) (rx : 0 ≤ x ∧ x ≤ 9) (ry : c = 100 ∨ c = 108 ∨ c = 112 → InR y) (rz : c = 108 ∨ c = 112 → InR z) (hc : c = 104 ∨ c = 100 ∨ c = 99 ∨ c = 108 ∨ c = 112) : Sp g MX12_act (rm 232 0 0) [.ref q, .int (I (4 * (k : Int)))] hp (Eff (.int (B (0 ≤ acA T N c x y z))) (fun hp2 => (∃ V2 A2 rd2, ModAt hp2 q V2 A2 rd2 rl ∧ SV [8, 9, 10, 11, 16] V V2 ∧ SA [1, 7, 11] A A2 ∧ A2 1 = flat (acT (stl t) T N c x y z)) ∧ SO hp hp2 q (q + 25))) := by
  have hN := hI.men.2
  refine Sp_mk rfl (Nat.le_of_ble_eq_true rfl) ?_
  show wp g _ _ _ 0 0 0 [some (.ref q), some (.int (I (4 * (k : Int)))), none, none, none] [] hp
  have O := SO.rf (hp := hp) (lo := q) (hi := q + 25)
  refine wp_aload_n (pc := 0) dX12_act_0 rfl ?_
  refine wm_get dX12_act_1 gf_X12_45 K (by rfl) ?_
  refine wp_iload_n (pc := 4) dX12_act_4 rfl ?_
  refine wp_iconst (pc := 5) dX12_act_5 ?_
  refine wp_iadd (pc := 6) dX12_act_6 ?_
  refine wm_iald dX12_act_7 K (by first | rfl | assumption) (by first | decide | omega) (by first | decide | omega) (by decide) (by omega) (by omega) (by repeat (first | assumption | exact upA_eq | (apply upA_ne; first | decide | omega) | (apply SA_at; assumption; first | decide | (simp; omega)) | exact rfl)) ex ?_
  refine wp_istore_n (pc := 8) dX12_act_8 (by decide) ?_
  refine wp_aload_n (pc := 9) dX12_act_9 rfl ?_
  refine wm_get dX12_act_10 gf_X12_45 K (by rfl) ?_
  refine wp_iload_n (pc := 13) dX12_act_13 rfl ?_
  refine wp_iconst (pc := 14) dX12_act_14 ?_
  refine wp_iadd (pc := 15) dX12_act_15 ?_
  refine wm_iald dX12_act_16 K (by first | rfl | assumption) (by first | decide | omega) (by first | decide | omega) (by decide) (by omega) (by omega) (by repeat (first | assumption | exact upA_eq | (apply upA_ne; first | decide | omega) | (apply SA_at; assumption; first | decide | (simp; omega)) | exact rfl)) ey ?_
  refine wp_istore_n (pc := 17) dX12_act_17 (by decide) ?_
  refine wp_aload_n (pc := 18) dX12_act_18 rfl ?_
  refine wm_get dX12_act_19 gf_X12_45 K (by rfl) ?_
  refine wp_iload_n (pc := 22) dX12_act_22 rfl ?_
  refine wp_iconst (pc := 23) dX12_act_23 ?_
  refine wp_iadd (pc := 24) dX12_act_24 ?_
  refine wm_iald dX12_act_25 K (by first | rfl | assumption) (by first | decide | omega) (by first | decide | omega) (by decide) (by omega) (by omega) (by repeat (first | assumption | exact upA_eq | (apply upA_ne; first | decide | omega) | (apply SA_at; assumption; first | decide | (simp; omega)) | exact rfl)) ez ?_
  refine wp_istore (pc := 26) dX12_act_26 (by decide) ?_
  refine wp_aload_n (pc := 28) dX12_act_28 rfl ?_
  refine wm_get dX12_act_29 gf_X12_45 K (by rfl) ?_
  refine wp_iload_n (pc := 32) dX12_act_32 rfl ?_
  refine wm_iald dX12_act_33 K (by first | rfl | assumption) (by first | decide | omega) (by first | decide | omega) (by decide) (by omega) (by omega) (by repeat (first | assumption | exact upA_eq | (apply upA_ne; first | decide | omega) | (apply SA_at; assumption; first | decide | (simp; omega)) | exact rfl)) ec ?_
  rcases hc with rfl | rfl | rfl | rfl | rfl
  · obtain ⟨n, rfl⟩ := Int.eq_ofNat_of_zero_le rx.1
    rw [acA_h, acT_h]
    refine wp_tswIn (pc := 34) 88 dX12_act_34 (by decide) (by decide) (by decide) rfl (by decide) ?_
    refine wp_aload_n (pc := 88) dX12_act_88 rfl ?_
    refine wp_aload_n (pc := 89) dX12_act_89 rfl ?_
    refine wm_get dX12_act_90 gf_X12_9 K (by rfl) ?_
    refine wp_iload_n (pc := 93) dX12_act_93 rfl ?_
    refine wp_Vs (pc := 94) dX12_act_94 cl_X12_250 (sp_Ref_goHours K m1 hI hH (.inl rfl) hA hu (by omega) (by omega)) rfl rfl K.1 (by rfl) (by decide) (Nat.le_of_ble_eq_true rfl) (fun hp94 e94 => ?_)
    obtain ⟨⟨V94, A94, rd94, K, sV94, sA94, hA94⟩, O1⟩ := e94; replace O := SO.tr O O1
    refine wp_pop (pc := 97) dX12_act_97 rfl ?_
    refine wp_iconst (pc := 98) dX12_act_98 ?_
    first | exact wp_z1 (pc := 99) dX12_act_99 rfl (by decide) (by decide) (by omega) ⟨⟨_, _, _, K, sV94, fun k hk => sA94 k (by simp at hk ⊢; omega), hA94⟩, O⟩ | exact wp_z0 (pc := 99) dX12_act_99 rfl (by decide) (by decide) (by omega) ⟨⟨_, _, _, K, sV94, fun k hk => sA94 k (by simp at hk ⊢; omega), hA94⟩, O⟩ | exact wp_zb (pc := 99) dX12_act_99 rfl (by decide) (by decide) Iff.rfl ⟨⟨_, _, _, K, sV94, fun k hk => sA94 k (by simp at hk ⊢; omega), hA94⟩, O⟩
  · rw [acA_d, acT_d]
    have ry := ry (by omega)
    have hdd := dct_in (dieT T N x y) N
    refine wp_tswIn (pc := 34) 100 dX12_act_34 (by decide) (by decide) (by decide) rfl (by decide) ?_
    refine wp_aload_n (pc := 100) dX12_act_100 rfl ?_
    refine wp_aload_n (pc := 101) dX12_act_101 rfl ?_
    refine wm_get dX12_act_102 gf_X12_9 K (by rfl) ?_
    refine wp_iload_n (pc := 105) dX12_act_105 rfl ?_
    refine wp_iload_n (pc := 106) dX12_act_106 rfl ?_
    refine wp_Vp (pc := 107) dX12_act_107 cl_X12_260 (sp_Ref_refusesDeath K m1 hI (.inl rfl) hA (by omega) ry) rfl rfl K.1 (by rfl) (by decide) (Nat.le_of_ble_eq_true rfl) ?_
    refine wp_if_ge (pc := 110) 115 dX12_act_110 (by decide) (by (repeat' split) <;> omega) (fun c110 => ?_) (fun c110 => ?_)
    ·
      have hc : 0 ≤ x ∧ x < N ∧ 1 ≤ y ∧ y ≤ 9 ∧ T 5 x = 0 := by revert c110; (repeat' split) <;> omega
      have eT : dieT T N x y = up (up (up T 5 x y) 4 x (mi 99 (T 4 x + 1))) 6 x 0 := if_pos hc
      have eA : dieA T N x y = dct (dieT T N x y) N := by unfold dieA; rw [if_neg (by omega), if_neg (by omega)]
      skip -- go
      refine wp_aload_n (pc := 115) dX12_act_115 rfl ?_
      refine wm_get dX12_act_116 gf_X12_9 K (by rfl) ?_
      refine wp_iload_n (pc := 119) dX12_act_119 rfl ?_
      refine wp_iload_n (pc := 120) dX12_act_120 rfl ?_
      refine wp_Sn (pc := 121) dX12_act_121 cl_X12_263 (sp_Ref_goDeath K hI (.inl rfl) hA (by omega)) rfl rfl (by decide) (Nat.le_of_ble_eq_true rfl) (fun hp121 e121 => ?_)
      obtain ⟨K, O1⟩ := e121
      replace O := SO.tr O O1
      rw [← eT] at K
      refine wp_iconst (pc := 124) dX12_act_124 ?_
      first | exact wp_z1 (pc := 125) dX12_act_125 rfl (by decide) (by decide) (by omega) (by first | exact ⟨⟨_, _, _, K, SV.rf, SA.rf, hA⟩, O⟩ | exact ⟨⟨_, _, _, K, SV.rf, (SA.rf).up (by decide), upA_eq⟩, O⟩) | exact wp_z0 (pc := 125) dX12_act_125 rfl (by decide) (by decide) (by omega) (by first | exact ⟨⟨_, _, _, K, SV.rf, SA.rf, hA⟩, O⟩ | exact ⟨⟨_, _, _, K, SV.rf, (SA.rf).up (by decide), upA_eq⟩, O⟩) | exact wp_zb (pc := 125) dX12_act_125 rfl (by decide) (by decide) Iff.rfl (by first | exact ⟨⟨_, _, _, K, SV.rf, SA.rf, hA⟩, O⟩ | exact ⟨⟨_, _, _, K, SV.rf, (SA.rf).up (by decide), upA_eq⟩, O⟩)
    ·
      have hv : (if ¬ (0 ≤ x ∧ x < N ∧ 1 ≤ y ∧ y ≤ 9) then (-1 : Int) else if ¬ T 5 x = 0 then -2 else 0) = dieA T N x y := by unfold dieA; revert c110; (repeat' split) <;> omega
      have hneg : ¬ 0 ≤ dieA T N x y := by rw [← hv]; exact c110
      have eT : dieT T N x y = T := if_neg (fun z => by revert hneg; unfold dieA; rw [if_neg (by omega), if_neg (by omega)]; omega)
      rw [eT] -- go
      refine wp_iconst (pc := 113) dX12_act_113 ?_
      first | exact wp_z1 (pc := 114) dX12_act_114 rfl (by decide) (by decide) (by omega) (by first | exact ⟨⟨_, _, _, K, SV.rf, SA.rf, hA⟩, O⟩ | exact ⟨⟨_, _, _, K, SV.rf, (SA.rf).up (by decide), upA_eq⟩, O⟩) | exact wp_z0 (pc := 114) dX12_act_114 rfl (by decide) (by decide) (by omega) (by first | exact ⟨⟨_, _, _, K, SV.rf, SA.rf, hA⟩, O⟩ | exact ⟨⟨_, _, _, K, SV.rf, (SA.rf).up (by decide), upA_eq⟩, O⟩) | exact wp_zb (pc := 114) dX12_act_114 rfl (by decide) (by decide) Iff.rfl (by first | exact ⟨⟨_, _, _, K, SV.rf, SA.rf, hA⟩, O⟩ | exact ⟨⟨_, _, _, K, SV.rf, (SA.rf).up (by decide), upA_eq⟩, O⟩)
  · rw [acA_c, acT_c]
    have h3 := hI.r3 x
    refine wp_tswIn (pc := 34) 126 dX12_act_34 (by decide) (by decide) (by decide) rfl (by decide) ?_
    refine wp_aload_n (pc := 126) dX12_act_126 rfl ?_
    refine wp_aload_n (pc := 127) dX12_act_127 rfl ?_
    refine wm_get dX12_act_128 gf_X12_9 K (by rfl) ?_
    refine wp_iload_n (pc := 131) dX12_act_131 rfl ?_
    refine wp_Vp (pc := 132) dX12_act_132 cl_X12_267 (sp_Ref_refusesCough K m1 hI (.inl rfl) hA (by omega)) rfl rfl K.1 (by rfl) (by decide) (Nat.le_of_ble_eq_true rfl) ?_
    refine wp_if_ge (pc := 135) 140 dX12_act_135 (by decide) (by (repeat' split) <;> omega) (fun c135 => ?_) (fun c135 => ?_)
    ·
      have hc : 0 ≤ x ∧ x < N ∧ ¬ T 5 x = 0 := by revert c135; (repeat' split) <;> omega
      have eT : couT T N x = up (up T 5 x 0) 3 x (T 3 x / 2) := if_pos hc
      have eA : couA T N x = T 3 x / 2 := by unfold couA; rw [if_neg (by omega), if_neg (by omega)]
      skip -- go
      refine wp_aload_n (pc := 140) dX12_act_140 rfl ?_
      refine wm_get dX12_act_141 gf_X12_9 K (by rfl) ?_
      refine wp_iload_n (pc := 144) dX12_act_144 rfl ?_
      refine wp_Sn (pc := 145) dX12_act_145 cl_X12_270 (sp_Ref_goCough K hI (.inl rfl) hA (by omega)) rfl rfl (by decide) (Nat.le_of_ble_eq_true rfl) (fun hp145 e145 => ?_)
      obtain ⟨K, O1⟩ := e145
      replace O := SO.tr O O1
      rw [← eT] at K
      refine wp_iconst (pc := 148) dX12_act_148 ?_
      first | exact wp_z1 (pc := 149) dX12_act_149 rfl (by decide) (by decide) (by omega) (by first | exact ⟨⟨_, _, _, K, SV.rf, SA.rf, hA⟩, O⟩ | exact ⟨⟨_, _, _, K, SV.rf, (SA.rf).up (by decide), upA_eq⟩, O⟩) | exact wp_z0 (pc := 149) dX12_act_149 rfl (by decide) (by decide) (by omega) (by first | exact ⟨⟨_, _, _, K, SV.rf, SA.rf, hA⟩, O⟩ | exact ⟨⟨_, _, _, K, SV.rf, (SA.rf).up (by decide), upA_eq⟩, O⟩) | exact wp_zb (pc := 149) dX12_act_149 rfl (by decide) (by decide) Iff.rfl (by first | exact ⟨⟨_, _, _, K, SV.rf, SA.rf, hA⟩, O⟩ | exact ⟨⟨_, _, _, K, SV.rf, (SA.rf).up (by decide), upA_eq⟩, O⟩)
    ·
      have hv : (if ¬ (0 ≤ x ∧ x < N) then (-1 : Int) else if T 5 x = 0 then -2 else 0) = couA T N x := by unfold couA; revert c135; (repeat' split) <;> omega
      have hneg : ¬ 0 ≤ couA T N x := by rw [← hv]; exact c135
      have eT : couT T N x = T := if_neg (fun z => by revert hneg; unfold couA; rw [if_neg (by omega), if_neg (by omega)]; omega)
      rw [eT] -- go
      refine wp_iconst (pc := 138) dX12_act_138 ?_
      first | exact wp_z1 (pc := 139) dX12_act_139 rfl (by decide) (by decide) (by omega) (by first | exact ⟨⟨_, _, _, K, SV.rf, SA.rf, hA⟩, O⟩ | exact ⟨⟨_, _, _, K, SV.rf, (SA.rf).up (by decide), upA_eq⟩, O⟩) | exact wp_z0 (pc := 139) dX12_act_139 rfl (by decide) (by decide) (by omega) (by first | exact ⟨⟨_, _, _, K, SV.rf, SA.rf, hA⟩, O⟩ | exact ⟨⟨_, _, _, K, SV.rf, (SA.rf).up (by decide), upA_eq⟩, O⟩) | exact wp_zb (pc := 139) dX12_act_139 rfl (by decide) (by decide) Iff.rfl (by first | exact ⟨⟨_, _, _, K, SV.rf, SA.rf, hA⟩, O⟩ | exact ⟨⟨_, _, _, K, SV.rf, (SA.rf).up (by decide), upA_eq⟩, O⟩)
  · rw [acA_l, acT_l]
    have ry := ry (by omega)
    have rz := rz (by omega)
    have hr1 := hI.r1 (y * 6 + x)
    refine wp_tswIn (pc := 34) 150 dX12_act_34 (by decide) (by decide) (by decide) rfl (by decide) ?_
    refine wp_aload_n (pc := 150) dX12_act_150 rfl ?_
    refine wp_iload_n (pc := 151) dX12_act_151 rfl ?_
    refine wp_iload_n (pc := 152) dX12_act_152 rfl ?_
    refine wp_iload (pc := 153) dX12_act_153 rfl ?_
    refine wp_Vp (pc := 155) dX12_act_155 cl_X12_273 (sp_Ref_refusesLoan K m1 hI hA (by omega) ry rz) rfl rfl K.1 (by rfl) (by decide) (Nat.le_of_ble_eq_true rfl) ?_
    refine wp_if_ge (pc := 158) 163 dX12_act_158 (by decide) (by (repeat' split) <;> omega) (fun c158 => ?_) (fun c158 => ?_)
    ·
      have hc : (0 ≤ x ∧ x < N ∧ 0 ≤ y ∧ y < N ∧ x ≠ y ∧ 1 ≤ z ∧ z ≤ 99) ∧ T 5 x = 0 ∧ T 5 y = 0 ∧ z ≤ T 2 x ∧ T 1 (y * 6 + x) + z ≤ 99 ∧ T 2 y + z ≤ 99 := by revert c158; (repeat' split) <;> omega
      have eT : lenT T N x y z = up (monT T x y z) 1 (y * 6 + x) (T 1 (y * 6 + x) + z) := if_pos hc
      have eA : lenA T N x y z = T 1 (y * 6 + x) + z := by unfold lenA; rw [if_neg (by omega), if_neg (by omega), if_neg (by omega), if_neg (by omega)]
      skip -- go
      refine wp_aload_n (pc := 163) dX12_act_163 rfl ?_
      refine wp_iload_n (pc := 164) dX12_act_164 rfl ?_
      refine wp_iload_n (pc := 165) dX12_act_165 rfl ?_
      refine wp_iload (pc := 166) dX12_act_166 rfl ?_
      refine wp_Vn (pc := 168) dX12_act_168 cl_X12_277 (sp_Ref_goLoan K hI hA (by omega) (by omega)) rfl rfl K.1 (by rfl) (by decide) (Nat.le_of_ble_eq_true rfl) (fun hp168 e168 => ?_)
      obtain ⟨K, O1⟩ := e168
      replace O := SO.tr O O1
      rw [← eT] at K
      refine wp_iconst (pc := 171) dX12_act_171 ?_
      first | exact wp_z1 (pc := 172) dX12_act_172 rfl (by decide) (by decide) (by omega) (by first | exact ⟨⟨_, _, _, K, SV.rf, SA.rf, hA⟩, O⟩ | exact ⟨⟨_, _, _, K, SV.rf, (SA.rf).up (by decide), upA_eq⟩, O⟩) | exact wp_z0 (pc := 172) dX12_act_172 rfl (by decide) (by decide) (by omega) (by first | exact ⟨⟨_, _, _, K, SV.rf, SA.rf, hA⟩, O⟩ | exact ⟨⟨_, _, _, K, SV.rf, (SA.rf).up (by decide), upA_eq⟩, O⟩) | exact wp_zb (pc := 172) dX12_act_172 rfl (by decide) (by decide) Iff.rfl (by first | exact ⟨⟨_, _, _, K, SV.rf, SA.rf, hA⟩, O⟩ | exact ⟨⟨_, _, _, K, SV.rf, (SA.rf).up (by decide), upA_eq⟩, O⟩)
    ·
      have hv : (if ¬ (0 ≤ x ∧ x < N ∧ 0 ≤ y ∧ y < N ∧ x ≠ y ∧ 1 ≤ z ∧ z ≤ 99) then (-1 : Int) else if ¬ (T 5 x = 0 ∧ T 5 y = 0) then -4 else if T 2 x < z then -2 else if 99 < T 1 (y * 6 + x) + z ∨ 99 < T 2 y + z then -3 else 0) = lenA T N x y z := by unfold lenA; revert c158; (repeat' split) <;> omega
      have hneg : ¬ 0 ≤ lenA T N x y z := by rw [← hv]; exact c158
      have eT : lenT T N x y z = T := if_neg (fun z => by revert hneg; unfold lenA; rw [if_neg (by omega), if_neg (by omega), if_neg (by omega), if_neg (by omega)]; omega)
      rw [eT] -- go
      refine wp_iconst (pc := 161) dX12_act_161 ?_
      first | exact wp_z1 (pc := 162) dX12_act_162 rfl (by decide) (by decide) (by omega) (by first | exact ⟨⟨_, _, _, K, SV.rf, SA.rf, hA⟩, O⟩ | exact ⟨⟨_, _, _, K, SV.rf, (SA.rf).up (by decide), upA_eq⟩, O⟩) | exact wp_z0 (pc := 162) dX12_act_162 rfl (by decide) (by decide) (by omega) (by first | exact ⟨⟨_, _, _, K, SV.rf, SA.rf, hA⟩, O⟩ | exact ⟨⟨_, _, _, K, SV.rf, (SA.rf).up (by decide), upA_eq⟩, O⟩) | exact wp_zb (pc := 162) dX12_act_162 rfl (by decide) (by decide) Iff.rfl (by first | exact ⟨⟨_, _, _, K, SV.rf, SA.rf, hA⟩, O⟩ | exact ⟨⟨_, _, _, K, SV.rf, (SA.rf).up (by decide), upA_eq⟩, O⟩)
  · rw [acA_p, acT_p]
    have ry := ry (by omega)
    have rz := rz (by omega)
    have hr1 := hI.r1 (x * 6 + y)
    refine wp_tswOut (pc := 34) 173 dX12_act_34 (by decide) (by omega) (by decide) ?_
    refine wp_aload_n (pc := 173) dX12_act_173 rfl ?_
    refine wp_iload_n (pc := 174) dX12_act_174 rfl ?_
    refine wp_iload_n (pc := 175) dX12_act_175 rfl ?_
    refine wp_iload (pc := 176) dX12_act_176 rfl ?_
    refine wp_Vp (pc := 178) dX12_act_178 cl_X12_281 (sp_Ref_refusesPay K m1 hI hA (by omega) ry rz) rfl rfl K.1 (by rfl) (by decide) (Nat.le_of_ble_eq_true rfl) ?_
    refine wp_if_ge (pc := 181) 186 dX12_act_181 (by decide) (by (repeat' split) <;> omega) (fun c181 => ?_) (fun c181 => ?_)
    ·
      have hc : (0 ≤ x ∧ x < N ∧ 0 ≤ y ∧ y < N ∧ x ≠ y ∧ 1 ≤ z ∧ z ≤ 99) ∧ T 5 x = 0 ∧ T 5 y = 0 ∧ z ≤ T 2 x ∧ z ≤ T 1 (x * 6 + y) ∧ T 2 y + z ≤ 99 := by revert c181; (repeat' split) <;> omega
      have eT : payT T N x y z = up (monT T x y z) 1 (x * 6 + y) (T 1 (x * 6 + y) - z) := if_pos hc
      have eA : payA T N x y z = T 1 (x * 6 + y) - z := by unfold payA; rw [if_neg (by omega), if_neg (by omega), if_neg (by omega), if_neg (by omega)]
      skip -- go
      refine wp_aload_n (pc := 186) dX12_act_186 rfl ?_
      refine wp_iload_n (pc := 187) dX12_act_187 rfl ?_
      refine wp_iload_n (pc := 188) dX12_act_188 rfl ?_
      refine wp_iload (pc := 189) dX12_act_189 rfl ?_
      refine wp_Vn (pc := 191) dX12_act_191 cl_X12_284 (sp_Ref_goPay K hI hA (by omega) (by omega)) rfl rfl K.1 (by rfl) (by decide) (Nat.le_of_ble_eq_true rfl) (fun hp191 e191 => ?_)
      obtain ⟨K, O1⟩ := e191
      replace O := SO.tr O O1
      rw [← eT] at K
      refine wp_iconst (pc := 194) dX12_act_194 ?_
      first | exact wp_z1 (pc := 195) dX12_act_195 rfl (by decide) (by decide) (by omega) (by first | exact ⟨⟨_, _, _, K, SV.rf, SA.rf, hA⟩, O⟩ | exact ⟨⟨_, _, _, K, SV.rf, (SA.rf).up (by decide), upA_eq⟩, O⟩) | exact wp_z0 (pc := 195) dX12_act_195 rfl (by decide) (by decide) (by omega) (by first | exact ⟨⟨_, _, _, K, SV.rf, SA.rf, hA⟩, O⟩ | exact ⟨⟨_, _, _, K, SV.rf, (SA.rf).up (by decide), upA_eq⟩, O⟩) | exact wp_zb (pc := 195) dX12_act_195 rfl (by decide) (by decide) Iff.rfl (by first | exact ⟨⟨_, _, _, K, SV.rf, SA.rf, hA⟩, O⟩ | exact ⟨⟨_, _, _, K, SV.rf, (SA.rf).up (by decide), upA_eq⟩, O⟩)
    ·
      have hv : (if ¬ (0 ≤ x ∧ x < N ∧ 0 ≤ y ∧ y < N ∧ x ≠ y ∧ 1 ≤ z ∧ z ≤ 99) then (-1 : Int) else if ¬ (T 5 x = 0 ∧ T 5 y = 0) then -4 else if T 2 x < z then -2 else if T 1 (x * 6 + y) < z ∨ 99 < T 2 y + z then -3 else 0) = payA T N x y z := by unfold payA; revert c181; (repeat' split) <;> omega
      have hneg : ¬ 0 ≤ payA T N x y z := by rw [← hv]; exact c181
      have eT : payT T N x y z = T := if_neg (fun z => by revert hneg; unfold payA; rw [if_neg (by omega), if_neg (by omega), if_neg (by omega), if_neg (by omega)]; omega)
      rw [eT] -- go
      refine wp_iconst (pc := 184) dX12_act_184 ?_
      first | exact wp_z1 (pc := 185) dX12_act_185 rfl (by decide) (by decide) (by omega) (by first | exact ⟨⟨_, _, _, K, SV.rf, SA.rf, hA⟩, O⟩ | exact ⟨⟨_, _, _, K, SV.rf, (SA.rf).up (by decide), upA_eq⟩, O⟩) | exact wp_z0 (pc := 185) dX12_act_185 rfl (by decide) (by decide) (by omega) (by first | exact ⟨⟨_, _, _, K, SV.rf, SA.rf, hA⟩, O⟩ | exact ⟨⟨_, _, _, K, SV.rf, (SA.rf).up (by decide), upA_eq⟩, O⟩) | exact wp_zb (pc := 185) dX12_act_185 rfl (by decide) (by decide) Iff.rfl (by first | exact ⟨⟨_, _, _, K, SV.rf, SA.rf, hA⟩, O⟩ | exact ⟨⟨_, _, _, K, SV.rf, (SA.rf).up (by decide), upA_eq⟩, O⟩)
end MQa

