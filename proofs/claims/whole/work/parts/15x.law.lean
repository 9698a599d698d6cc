/-! the reference: a law, sheets, signs -/
section MX_
variable {g : GT} {hp hp0 : Hp} {q N n a b s k p : Nat} {V V2 V3 : Nat → Int} {A A2 A3 : Nat → Int → Int} {rd rl : Value} {i j x v c y z w th o d : Int} {T T2 : Nat → Int → Int} {l t cs tx rw rw2 rt : List Int} {G f F D : Int → Int} {U U2 : List (Nat → Int → Int)} {hs : List (Int × Int)} {ss : List (Int × Int × Int)} {KT : Nat → Option (Nat → Int → Int)} {L L2 : List Nat}
theorem h12_in {cs : List Int} (hI : TI T N) (hb : T 7 0 < 1900000000) : 0 ≤ h12 cs T N ∧ h12 cs T N ≤ 60000 := sm_r3 (runT_I (cs := cs) hI 12 (by omega))
theorem lp_Ref_law (hB : BA (A 2) l) (hl : l.length ≤ 40) {u1 u2 : Int} {Q : Option Value → Hp → Prop} (Kn : ∀ hp3 F, ModAt hp3 q V (upA A 6 F) rd (.ref (q + 6)) → SO hp hp3 q (q + 25) → BA F l → wp g MX12_law (rm 233 0 0) Q 0 0 84 [some (.ref q), some (.int (I (l.length : Int))), some (.int (I u1)), some (.ref (q + 5)), some (.int (I u2)), none] [] hp3) : ∀ (m i : Nat), l.length < i + m → i ≤ l.length → ∀ (hp2 : Hp) (F : Int → Int) (K : ModAt hp2 q V (upA A 6 F) rd (.ref (q + 6))) (O : SO hp hp2 q (q + 25)) (hF : ∀ j : Nat, j < i → F j = sb (l.getD j 0)), wp g MX12_law (rm 233 0 0) Q 0 0 58 [some (.ref q), some (.int (I (l.length : Int))), some (.int (I u1)), some (.ref (q + 5)), some (.int (I u2)), some (.int (I (i : Int)))] [] hp2 := by
  intro m
  induction m with
  | zero => intro i h1 h2; exact absurd h1 (by omega)
  | succ m ih =>
    intro i h1 h2 hp2 F K O hF
    refine wp_iload (pc := 58) dX12_law_58 rfl ?_
    refine wp_iload_n (pc := 60) dX12_law_60 rfl ?_
    refine wp_icmp_ge (pc := 61) 84 dX12_law_61 (by decide) (by first | omega | exact TI.i5 (by assumption) | exact TI.i3 (by assumption) | exact TI.i2 (by assumption) | exact TI.i1 (by assumption) | exact TI.i0 (by assumption) | exact TI.i4 (by assumption) | exact TI.i6 (by assumption) | exact TI.i7 (by assumption)) (by first | omega | exact TI.i5 (by assumption) | exact TI.i3 (by assumption) | exact TI.i2 (by assumption) | exact TI.i1 (by assumption) | exact TI.i0 (by assumption) | exact TI.i4 (by assumption) | exact TI.i6 (by assumption) | exact TI.i7 (by assumption)) (fun c61 => ?_) (fun c61 => ?_)
    ·
      have e : i = l.length := by omega
      refine wp_ls ?_ (Kn hp2 F K O ⟨hB.1, fun j hj => hF j (by omega)⟩)
      repeat' (first | exact LE_0 | refine LE_s rfl ?_ | refine LE_s (I_c (by first | omega | (simp only [sm]; omega))) ?_ | refine LE_s (J_c (by first | omega | exact Int.pow_succ _ _ | exact (Int.pow_succ _ _).symm | exact (Int.pow_zero _).symm | (simp only [sm]; omega))) ?_ | refine LE_n ?_)
    ·
      refine wp_aload_n (pc := 64) dX12_law_64 rfl ?_
      refine wm_get dX12_law_65 gf_X12_24 K (by rfl) ?_
      refine wp_iload (pc := 68) dX12_law_68 rfl ?_
      refine wp_aload_n (pc := 70) dX12_law_70 rfl ?_
      refine wm_get dX12_law_71 gf_X12_13 K (by rfl) ?_
      refine wp_iload (pc := 74) dX12_law_74 rfl ?_
      refine wm_bald dX12_law_76 K (by rfl) (by decide) (by decide) (by decide) (by omega) (by omega) (upA_ne (by decide) rfl) (hB.2 i (by omega)) ?_
      refine wm_bast dX12_law_77 K O (by rfl) (by decide) (by decide) (by decide) (by omega) (by omega) upA_eq (sb_nar (byl_at hB.1 (by omega))) rfl (fun hp K O => ?_)
      rw [upA_upA] at K
      refine wp_iinc (pc := 78) dX12_law_78 rfl (by decide) ?_
      refine wp_goto (pc := 81) 58 dX12_law_81 (by decide) ?_
      refine wp_ls ?_ (ih (i + 1) (by omega) (by omega) _ _ K O (fun j hj => ?_))
      · repeat' (first | exact LE_0 | refine LE_s rfl ?_ | refine LE_s (I_c (by first | omega | (simp only [sm]; omega))) ?_ | refine LE_s (J_c (by first | omega | exact Int.pow_succ _ _ | exact (Int.pow_succ _ _).symm | exact (Int.pow_zero _).symm | (simp only [sm]; omega))) ?_ | refine LE_n ?_)
      · by_cases z : j = i
        · subst z; exact updI_eq
        · rw [updI_ne (by omega)]; exact hF j (by omega)
theorem sp_Ref_law (hM : MAt hp q th N T U tx rw rt hs ss KT) (hI : TI T N) (hH : HS T) (hb : T 7 0 < 1900000000) : Sp g MX12_law (rm 233 0 0) [.ref q] hp (Eff (.int (I (if rdv tx = -1 then h12 (stl tx) T N - h12 (stl rt) T N else -100000 - rdv tx))) (fun hp2 => MAt hp2 q 0 N T U [] (if rdv tx = -1 then [h12 (stl tx) T N, h12 (stl rt) T N] else rw) rt hs ss KT ∧ SO hp hp2 q (q + 25))) := by
  have hN := hI.men.2
  have q1 := h12_in (cs := stl tx) hI hb
  have q2 := h12_in (cs := stl rt) hI hb
  refine Sp_mk rfl (Nat.le_of_ble_eq_true rfl) ?_
  show wp g _ _ _ 0 0 0 [some (.ref q), none, none, none, none, none] [] hp
  have O := SO.rf (hp := hp) (lo := q) (hi := q + 25)
  obtain ⟨V, A, rd, K, hth, M⟩ := hM
  have hu := M.ru (q := q)
  have M2 := M
  obtain ⟨m1, mA, mt, mr, mu, mU, mh, ms, mk⟩ := M2
  have e3 := mt.1
  have e15 := mu.1
  refine wp_aload_n (pc := 0) dX12_law_0 rfl ?_
  refine wp_iconst (pc := 1) dX12_law_1 ?_
  refine wm_put dX12_law_2 pf_X12_85 K O (by decide) mset_6 rfl rfl (fun hp K O => ?_)
  refine wp_aload_n (pc := 5) dX12_law_5 rfl ?_
  refine wm_gets dX12_law_6 gf_X12_103 K (by rfl) (by repeat (first | assumption | exact pv10 | exact pv11 | (apply pv_o; decide; decide) | exact upN_eq | (apply upN_ne; decide) | (apply SV_at; assumption; decide) | exact rfl)) ?_
  refine wp_istore_n (pc := 9) dX12_law_9 (by decide) ?_
  refine wp_aload_n (pc := 10) dX12_law_10 rfl ?_
  refine wp_Vs (pc := 11) dX12_law_11 cl_X12_188 (sp_Ref_readRule K (upN_ne (by decide) mt.1) mt.2.2 mt.2.1) rfl rfl K.1 (by rfl) (by decide) (Nat.le_of_ble_eq_true rfl) (fun hp11 e11 => ?_)
  obtain ⟨⟨V11, K, sV11, e3b, e11b⟩, O1⟩ := e11
  replace O := SO.tr O O1
  have mt0 : ∀ W : Nat → Int, W 3 = 0 → ∀ A' : Nat → Int → Int, Mtx W A' [] := fun W h A' => ⟨h, by decide, fun _ h => (by cases h), fun _ h => (by cases h)⟩
  first | refine wp_ifb_ne (pc := 14) 26 dX12_law_14 (by decide) (fun c14 => ?_) (fun c14 => ?_) | refine wp_if_ne (pc := 14) 26 dX12_law_14 (by decide) (by first | omega | exact TI.i5 (by assumption) | exact TI.i3 (by assumption) | exact TI.i2 (by assumption) | exact TI.i1 (by assumption) | exact TI.i0 (by assumption) | exact TI.i4 (by assumption) | exact TI.i6 (by assumption) | exact TI.i7 (by assumption)) (fun c14 => ?_) (fun c14 => ?_)
  ·
    rw [if_pos c14, if_pos c14]
    have hl4 := (rdv_l c14 mt.2.2.1).1 -- go
    refine wp_aload_n (pc := 26) dX12_law_26 rfl ?_
    refine wp_Vs (pc := 27) dX12_law_27 cl_X12_372 (sp_Ref_honourIn12 K hI hH hb (by repeat (first | assumption | exact pv10 | exact pv11 | (apply pv_o; decide; decide) | exact upN_eq | (apply upN_ne; decide) | (apply SV_at; assumption; decide) | exact rfl)) (by repeat (first | assumption | exact upA_eq | (apply upA_ne; first | decide | omega) | (apply SA_at; assumption; first | decide | (simp; omega)) | exact rfl)) (RuA.cc hu (by repeat (first | assumption | exact pv10 | exact pv11 | (apply pv_o; decide; decide) | exact upN_eq | (apply upN_ne; decide) | (apply SV_at; assumption; decide) | exact rfl)) (by repeat (first | assumption | exact upA_eq | (apply upA_ne; first | decide | omega) | (apply SA_at; assumption; first | decide | (simp; omega)) | exact rfl)) (by repeat (first | assumption | exact upA_eq | (apply upA_ne; first | decide | omega) | (apply SA_at; assumption; first | decide | (simp; omega)) | exact rfl)))) rfl rfl K.1 (by rfl) (by decide) (Nat.le_of_ble_eq_true rfl) (fun hp27 e27 => ?_)
    obtain ⟨⟨V27, A27, rd27, K, sV27, sA27⟩, O1⟩ := e27; replace O := SO.tr O O1
    refine wp_istore_n (pc := 30) dX12_law_30 (by decide) ?_
    refine wp_aload_n (pc := 31) dX12_law_31 rfl ?_
    refine wm_get dX12_law_32 gf_X12_24 K (by rfl) ?_
    refine wp_astore_n (pc := 35) dX12_law_35 (by decide) ?_
    refine wp_aload_n (pc := 36) dX12_law_36 rfl ?_
    refine wm_gets dX12_law_37 gf_X12_191 K (by rfl) (by repeat (first | assumption | exact pv10 | exact pv11 | (apply pv_o; decide; decide) | exact upN_eq | (apply upN_ne; decide) | (apply SV_at; assumption; decide) | exact rfl)) ?_
    refine wp_istore (pc := 40) dX12_law_40 (by decide) ?_
    refine wp_aload_n (pc := 42) dX12_law_42 rfl ?_
    refine wp_aload_n (pc := 43) dX12_law_43 rfl ?_
    refine wm_get dX12_law_44 gf_X12_27 K (by rfl) ?_
    refine wm_put dX12_law_47 pf_X12_24 K O (by decide) mset_13 rfl rfl (fun hp K O => ?_)
    refine wp_aload_n (pc := 50) dX12_law_50 rfl ?_
    refine wp_iload_n (pc := 51) dX12_law_51 rfl ?_
    refine wm_put dX12_law_52 pf_X12_191 K O (by decide) mset_15 rfl rfl (fun hp K O => ?_)
    refine wp_iconst (pc := 55) dX12_law_55 ?_
    refine wp_istore (pc := 56) dX12_law_56 (by decide) ?_
    refine wp_ls ?_ (lp_Ref_law (l := tx) (u1 := h12 (stl rt) T N) (u2 := (rt.length : Int)) (A := A27) (by rw [sA27 2 (by decide)]; exact mt.2.2) hl4 (fun hp3 F K O hF => ?_) (tx.length + 1) 0 (by omega) (by omega) _ (A27 6) (by rw [upA_id rfl]; exact K) O (fun j hj => by omega))
    · repeat' (first | exact LE_0 | refine LE_s rfl ?_ | refine LE_s (I_c (by first | omega | (simp only [sm]; omega))) ?_ | refine LE_s (J_c (by first | omega | exact Int.pow_succ _ _ | exact (Int.pow_succ _ _).symm | exact (Int.pow_zero _).symm | (simp only [sm]; omega))) ?_ | refine LE_n ?_)
    ·
      refine wp_aload_n (pc := 84) dX12_law_84 rfl ?_
      refine wp_Vs (pc := 85) dX12_law_85 cl_X12_372 (sp_Ref_honourIn12 (t := tx) K hI hH hb (by repeat (first | assumption | exact pv10 | exact pv11 | (apply pv_o; decide; decide) | exact upN_eq | (apply upN_ne; decide) | (apply SV_at; assumption; decide) | exact rfl)) (by repeat (first | assumption | exact upA_eq | (apply upA_ne; first | decide | omega) | (apply SA_at; assumption; first | decide | (simp; omega)) | exact rfl)) ⟨6, .inr rfl, rfl, (by repeat (first | assumption | exact pv10 | exact pv11 | (apply pv_o; decide; decide) | exact upN_eq | (apply upN_ne; decide) | (apply SV_at; assumption; decide) | exact rfl)), by rw [upA_eq]; exact hF, c14⟩) rfl rfl K.1 (by rfl) (by decide) (Nat.le_of_ble_eq_true rfl) (fun hp85 e85 => ?_)
      obtain ⟨⟨V85, A85, rd85, K, sV85, sA85⟩, O1⟩ := e85; replace O := SO.tr O O1
      refine wp_istore (pc := 88) dX12_law_88 (by decide) ?_
      refine wp_aload_n (pc := 90) dX12_law_90 rfl ?_
      refine wp_aload_n (pc := 91) dX12_law_91 rfl ?_
      refine wm_put dX12_law_92 pf_X12_24 K O (by decide) mset_13 rfl rfl (fun hp K O => ?_)
      refine wp_aload_n (pc := 95) dX12_law_95 rfl ?_
      refine wp_iload (pc := 96) dX12_law_96 rfl ?_
      refine wm_put dX12_law_98 pf_X12_191 K O (by decide) mset_15 rfl rfl (fun hp K O => ?_)
      refine wp_aload_n (pc := 101) dX12_law_101 rfl ?_
      refine wp_iconst (pc := 102) dX12_law_102 ?_
      refine wm_put dX12_law_103 pf_X12_89 K O (by decide) mset_5 rfl rfl (fun hp K O => ?_)
      refine wp_aload_n (pc := 106) dX12_law_106 rfl ?_
      refine wp_iload (pc := 107) dX12_law_107 rfl ?_
      refine wp_i2l (pc := 109) dX12_law_109 (by first | omega | exact TI.i5 (by assumption) | exact TI.i3 (by assumption) | exact TI.i2 (by assumption) | exact TI.i1 (by assumption) | exact TI.i0 (by assumption) | exact TI.i4 (by assumption) | exact TI.i6 (by assumption) | exact TI.i7 (by assumption)) ?_
      refine wp_Vn (pc := 110) dX12_law_110 cl_X12_253 (sp_Ref_tellR K (by first | assumption | exact Mrw.z (by repeat (first | assumption | exact pv10 | exact pv11 | (apply pv_o; decide; decide) | exact upN_eq | (apply upN_ne; decide) | (apply SV_at; assumption; decide) | exact rfl))) (by first | decide | (simp; omega) | simp | omega)) rfl rfl K.1 (by rfl) (by decide) (Nat.le_of_ble_eq_true rfl) (fun hp110 e110 => ?_)
      obtain ⟨⟨V110, A110, K, sV110, sA110, hR110⟩, O1⟩ := e110; replace O := SO.tr O O1
      refine wp_aload_n (pc := 113) dX12_law_113 rfl ?_
      refine wp_iload_n (pc := 114) dX12_law_114 rfl ?_
      refine wp_i2l (pc := 115) dX12_law_115 (by first | omega | exact TI.i5 (by assumption) | exact TI.i3 (by assumption) | exact TI.i2 (by assumption) | exact TI.i1 (by assumption) | exact TI.i0 (by assumption) | exact TI.i4 (by assumption) | exact TI.i6 (by assumption) | exact TI.i7 (by assumption)) ?_
      refine wp_Vn (pc := 116) dX12_law_116 cl_X12_253 (sp_Ref_tellR K (by first | assumption | exact Mrw.z (by repeat (first | assumption | exact pv10 | exact pv11 | (apply pv_o; decide; decide) | exact upN_eq | (apply upN_ne; decide) | (apply SV_at; assumption; decide) | exact rfl))) (by first | decide | (simp; omega) | simp | omega)) rfl rfl K.1 (by rfl) (by decide) (Nat.le_of_ble_eq_true rfl) (fun hp116 e116 => ?_)
      obtain ⟨⟨V116, A116, K, sV116, sA116, hR116⟩, O1⟩ := e116; replace O := SO.tr O O1
      refine wp_iload (pc := 119) dX12_law_119 rfl ?_
      refine wp_iload_n (pc := 121) dX12_law_121 rfl ?_
      refine wp_isub (pc := 122) dX12_law_122 ?_
      exact wp_ir (pc := 123) dX12_law_123 rfl (by decide) (by decide) (by first | rfl | omega) ⟨⟨_, _, _, K, (by repeat (first | assumption | exact pv10 | exact pv11 | (apply pv_o; decide; decide) | exact upN_eq | (apply upN_ne; decide) | (apply SV_at; assumption; decide) | exact rfl)), ⟨(by repeat (first | assumption | exact pv10 | exact pv11 | (apply pv_o; decide; decide) | exact upN_eq | (apply upN_ne; decide) | (apply SV_at; assumption; decide) | exact rfl)), (by repeat (first | assumption | exact upA_eq | (apply upA_ne; first | decide | omega) | (apply SA_at; assumption; first | decide | (simp; omega)) | exact rfl)), mt0 _ (by repeat (first | assumption | exact pv10 | exact pv11 | (apply pv_o; decide; decide) | exact upN_eq | (apply upN_ne; decide) | (apply SV_at; assumption; decide) | exact rfl)) _, (by first | assumption | exact Mrw.z (by repeat (first | assumption | exact pv10 | exact pv11 | (apply pv_o; decide; decide) | exact upN_eq | (apply upN_ne; decide) | (apply SV_at; assumption; decide) | exact rfl)) | exact Mrw.tr (by assumption) (by repeat (first | assumption | exact pv10 | exact pv11 | (apply pv_o; decide; decide) | exact upN_eq | (apply upN_ne; decide) | (apply SV_at; assumption; decide) | exact rfl)) (by repeat (first | assumption | exact upA_eq | (apply upA_ne; first | decide | omega) | (apply SA_at; assumption; first | decide | (simp; omega)) | exact rfl))), ⟨(by repeat (first | assumption | exact pv10 | exact pv11 | (apply pv_o; decide; decide) | exact upN_eq | (apply upN_ne; decide) | (apply SV_at; assumption; decide) | exact rfl)), (Mrt.tr (V2 := V) mu rfl (by repeat (first | assumption | exact upA_eq | (apply upA_ne; first | decide | omega) | (apply SA_at; assumption; first | decide | (simp; omega)) | exact rfl))).2⟩, MU.tr mU (by repeat (first | assumption | exact pv10 | exact pv11 | (apply pv_o; decide; decide) | exact upN_eq | (apply upN_ne; decide) | (apply SV_at; assumption; decide) | exact rfl)) (by repeat (first | assumption | exact upA_eq | (apply upA_ne; first | decide | omega) | (apply SA_at; assumption; first | decide | (simp; omega)) | exact rfl)), Mhs.tr mh (by repeat (first | assumption | exact pv10 | exact pv11 | (apply pv_o; decide; decide) | exact upN_eq | (apply upN_ne; decide) | (apply SV_at; assumption; decide) | exact rfl)) (by repeat (first | assumption | exact upA_eq | (apply upA_ne; first | decide | omega) | (apply SA_at; assumption; first | decide | (simp; omega)) | exact rfl)) (by repeat (first | assumption | exact upA_eq | (apply upA_ne; first | decide | omega) | (apply SA_at; assumption; first | decide | (simp; omega)) | exact rfl)), Mss.tr ms (by repeat (first | assumption | exact pv10 | exact pv11 | (apply pv_o; decide; decide) | exact upN_eq | (apply upN_ne; decide) | (apply SV_at; assumption; decide) | exact rfl)) (by repeat (first | assumption | exact upA_eq | (apply upA_ne; first | decide | omega) | (apply SA_at; assumption; first | decide | (simp; omega)) | exact rfl)) (by repeat (first | assumption | exact upA_eq | (apply upA_ne; first | decide | omega) | (apply SA_at; assumption; first | decide | (simp; omega)) | exact rfl)) (by repeat (first | assumption | exact upA_eq | (apply upA_ne; first | decide | omega) | (apply SA_at; assumption; first | decide | (simp; omega)) | exact rfl)), MK.tr mk (by repeat (first | assumption | exact pv10 | exact pv11 | (apply pv_o; decide; decide) | exact upN_eq | (apply upN_ne; decide) | (apply SV_at; assumption; decide) | exact rfl)) (by repeat (first | assumption | exact upA_eq | (apply upA_ne; first | decide | omega) | (apply SA_at; assumption; first | decide | (simp; omega)) | exact rfl)) (by repeat (first | assumption | exact upA_eq | (apply upA_ne; first | decide | omega) | (apply SA_at; assumption; first | decide | (simp; omega)) | exact rfl)) (by repeat (first | assumption | exact upA_eq | (apply upA_ne; first | decide | omega) | (apply SA_at; assumption; first | decide | (simp; omega)) | exact rfl))⟩⟩, O⟩
  ·
    rw [if_neg c14, if_neg c14] -- go
    refine wp_ldcw (pc := 17) (y := -100000) dX12_law_17 kc_X12_371 ?_
    refine wp_aload_n (pc := 20) dX12_law_20 rfl ?_
    refine wm_gets dX12_law_21 gf_X12_118 K (by rfl) (by repeat (first | assumption | exact pv10 | exact pv11 | (apply pv_o; decide; decide) | exact upN_eq | (apply upN_ne; decide) | (apply SV_at; assumption; decide) | exact rfl)) ?_
    refine wp_isub (pc := 24) dX12_law_24 ?_
    exact wp_ir (pc := 25) dX12_law_25 rfl (by decide) (by decide) (by first | rfl | omega) ⟨⟨_, _, _, K, (by repeat (first | assumption | exact pv10 | exact pv11 | (apply pv_o; decide; decide) | exact upN_eq | (apply upN_ne; decide) | (apply SV_at; assumption; decide) | exact rfl)), ⟨(by repeat (first | assumption | exact pv10 | exact pv11 | (apply pv_o; decide; decide) | exact upN_eq | (apply upN_ne; decide) | (apply SV_at; assumption; decide) | exact rfl)), (by repeat (first | assumption | exact upA_eq | (apply upA_ne; first | decide | omega) | (apply SA_at; assumption; first | decide | (simp; omega)) | exact rfl)), mt0 _ e3b _, (by first | assumption | exact Mrw.z (by repeat (first | assumption | exact pv10 | exact pv11 | (apply pv_o; decide; decide) | exact upN_eq | (apply upN_ne; decide) | (apply SV_at; assumption; decide) | exact rfl)) | exact Mrw.tr (by assumption) (by repeat (first | assumption | exact pv10 | exact pv11 | (apply pv_o; decide; decide) | exact upN_eq | (apply upN_ne; decide) | (apply SV_at; assumption; decide) | exact rfl)) (by repeat (first | assumption | exact upA_eq | (apply upA_ne; first | decide | omega) | (apply SA_at; assumption; first | decide | (simp; omega)) | exact rfl))), Mrt.tr mu (by repeat (first | assumption | exact pv10 | exact pv11 | (apply pv_o; decide; decide) | exact upN_eq | (apply upN_ne; decide) | (apply SV_at; assumption; decide) | exact rfl)) (by repeat (first | assumption | exact upA_eq | (apply upA_ne; first | decide | omega) | (apply SA_at; assumption; first | decide | (simp; omega)) | exact rfl)), MU.tr mU (by repeat (first | assumption | exact pv10 | exact pv11 | (apply pv_o; decide; decide) | exact upN_eq | (apply upN_ne; decide) | (apply SV_at; assumption; decide) | exact rfl)) (by repeat (first | assumption | exact upA_eq | (apply upA_ne; first | decide | omega) | (apply SA_at; assumption; first | decide | (simp; omega)) | exact rfl)), Mhs.tr mh (by repeat (first | assumption | exact pv10 | exact pv11 | (apply pv_o; decide; decide) | exact upN_eq | (apply upN_ne; decide) | (apply SV_at; assumption; decide) | exact rfl)) (by repeat (first | assumption | exact upA_eq | (apply upA_ne; first | decide | omega) | (apply SA_at; assumption; first | decide | (simp; omega)) | exact rfl)) (by repeat (first | assumption | exact upA_eq | (apply upA_ne; first | decide | omega) | (apply SA_at; assumption; first | decide | (simp; omega)) | exact rfl)), Mss.tr ms (by repeat (first | assumption | exact pv10 | exact pv11 | (apply pv_o; decide; decide) | exact upN_eq | (apply upN_ne; decide) | (apply SV_at; assumption; decide) | exact rfl)) (by repeat (first | assumption | exact upA_eq | (apply upA_ne; first | decide | omega) | (apply SA_at; assumption; first | decide | (simp; omega)) | exact rfl)) (by repeat (first | assumption | exact upA_eq | (apply upA_ne; first | decide | omega) | (apply SA_at; assumption; first | decide | (simp; omega)) | exact rfl)) (by repeat (first | assumption | exact upA_eq | (apply upA_ne; first | decide | omega) | (apply SA_at; assumption; first | decide | (simp; omega)) | exact rfl)), MK.tr mk (by repeat (first | assumption | exact pv10 | exact pv11 | (apply pv_o; decide; decide) | exact upN_eq | (apply upN_ne; decide) | (apply SV_at; assumption; decide) | exact rfl)) (by repeat (first | assumption | exact upA_eq | (apply upA_ne; first | decide | omega) | (apply SA_at; assumption; first | decide | (simp; omega)) | exact rfl)) (by repeat (first | assumption | exact upA_eq | (apply upA_ne; first | decide | omega) | (apply SA_at; assumption; first | decide | (simp; omega)) | exact rfl)) (by repeat (first | assumption | exact upA_eq | (apply upA_ne; first | decide | omega) | (apply SA_at; assumption; first | decide | (simp; omega)) | exact rfl))⟩⟩, O⟩
/-! sheets -/
def entv (x v : Int) : Int := if x = 0 then ((I v).toInt8.toInt32).toInt else if x = 1 then ((I v).toInt16.toInt32).toInt else nz v
def shF (x n f st : Int) (i : Int) : Int := if x = 3 ∨ n ≤ i then 0 else mx 0 (mi 99 (entv x (f + i * st)))
def shT (T : Nat → Int → Int) (x n f st : Int) (i : Int) : Nat → Int → Int := one T 2 (upto (T 2) (shF x n f st) i)
theorem entv_in (x v : Int) : InR (entv x v) := by
  have h : ∀ y : Int32, InR y.toInt := fun y => by have h1 := y.le_toInt; have h2 := y.toInt_lt; omega
  unfold entv
  (repeat' split)
  · exact h _
  · exact h _
  · exact nz_in _
theorem shF_in (x n f st i : Int) : 0 ≤ shF x n f st i ∧ shF x n f st i ≤ 99 := by
  unfold shF mx mi
  (repeat' split) <;> omega
theorem shT_I {x n f st i : Int} (hI : TI T N) : TI (shT T x n f st i) N := by
  obtain ⟨i8, iN, i0, i1, i2, i3, i4, i5, i6, i7⟩ := hI
  refine ⟨i8, iN, i0, i1, fun y => ?_, i3, i4, i5, i6, i7⟩
  show 0 ≤ upto (T 2) (shF x n f st) i y ∧ upto (T 2) (shF x n f st) i y ≤ 99
  unfold upto
  split
  · exact shF_in _ _ _ _ _
  · exact i2 y
abbrev shO (x n : Int) : Prop := 0 ≤ x ∧ x ≤ 3 ∧ n ≤ 6 ∧ (x = 3 ∨ 0 ≤ n)
def shA (T : Nat → Int → Int) (N : Nat) (x n f st : Int) : Int := if ¬ (0 ≤ x ∧ x ≤ 3) ∨ 6 < n then -1 else if x < 3 ∧ n < 0 then -2 else if x = 3 then -3 else sm (shT T x n f st N 2) N
theorem shT_up {i : Nat} {f st w : Int} (hw : w = shF x y f st (i : Int)) : up (shT T x y f st (i : Int)) 2 (i : Int) w = shT T x y f st ((i : Int) + 1) := by
  unfold shT
  rw [one_up, upto_upd (f := T 2) (f' := shF x y f st) hw]
theorem lp_Ref_sheet {f st : Int} (hI : TI T N) (M : MX V A N T U tx rw rt hs ss KT) (rx : 0 ≤ x ∧ x ≤ 3) (ry : InR y) : ∀ (m i : Nat), N < i + m → i ≤ N → ∀ (hp2 : Hp) (A2 : Nat → Int → Int) (K : ModAt hp2 q (upN V 6 0) A2 rd (.ref (q + 5))) (O : SO hp hp2 q (q + 25)) (sA : SA [1] A A2) (hA2 : A2 1 = flat (shT T x y f st (i : Int))), wp g MX12_sheet (rm 1 0 0) (Eff (.int (I (if x = 3 then -3 else sm (shT T x y f st N 2) N))) (fun hp3 => MAt hp3 q 0 N (shT T x y f st N) U tx rw rt hs ss KT ∧ SO hp hp3 q (q + 25))) 0 0 40 [some (.ref q), some (.int (I x)), some (.int (I y)), none, some (.int (I st)), some (.int (I (f + i * st))), some (.int (I (i : Int))), none] [] hp2 := by
  intro m
  induction m with
  | zero => intro i h1 h2; exact absurd h1 (by omega)
  | succ m ih =>
    intro i h1 h2 hp2 A2 K O sA hA2
    have hN := hI.men.2
    have m1 := M.1
    obtain ⟨-, mA, mt, mr, mu, mU, mh, ms, mk⟩ := M
    have hei := entv_in x (f + i * st)
    have hmi : InR (mi 99 (entv x (f + i * st))) := by unfold mi; split <;> omega
    refine wp_iload (pc := 40) dX12_sheet_40 rfl ?_
    refine wp_aload_n (pc := 42) dX12_sheet_42 rfl ?_
    refine wm_gets dX12_sheet_43 gf_X12_92 K (by rfl) (by repeat (first | assumption | exact pv10 | exact pv11 | (apply pv_o; decide; decide) | exact upN_eq | (apply upN_ne; decide) | (apply SV_at; assumption; decide) | exact rfl)) ?_
    refine wp_icmp_ge (pc := 46) 123 dX12_sheet_46 (by decide) (by first | omega | exact TI.i5 (by assumption) | exact TI.i3 (by assumption) | exact TI.i2 (by assumption) | exact TI.i1 (by assumption) | exact TI.i0 (by assumption) | exact TI.i4 (by assumption) | exact TI.i6 (by assumption) | exact TI.i7 (by assumption)) (by first | omega | exact TI.i5 (by assumption) | exact TI.i3 (by assumption) | exact TI.i2 (by assumption) | exact TI.i1 (by assumption) | exact TI.i0 (by assumption) | exact TI.i4 (by assumption) | exact TI.i6 (by assumption) | exact TI.i7 (by assumption)) (fun c46 => ?_) (fun c46 => ?_)
    ·
      have e : i = N := by omega
      subst e -- go
      refine wp_iload_n (pc := 123) dX12_sheet_123 rfl ?_
      refine wp_iconst (pc := 124) dX12_sheet_124 ?_
      refine wp_icmp_ne (pc := 125) 133 dX12_sheet_125 (by decide) (by first | omega | exact TI.i5 (by assumption) | exact TI.i3 (by assumption) | exact TI.i2 (by assumption) | exact TI.i1 (by assumption) | exact TI.i0 (by assumption) | exact TI.i4 (by assumption) | exact TI.i6 (by assumption) | exact TI.i7 (by assumption)) (by first | omega | exact TI.i5 (by assumption) | exact TI.i3 (by assumption) | exact TI.i2 (by assumption) | exact TI.i1 (by assumption) | exact TI.i0 (by assumption) | exact TI.i4 (by assumption) | exact TI.i6 (by assumption) | exact TI.i7 (by assumption)) (fun c125 => ?_) (fun c125 => ?_)
      ·
        rw [if_neg c125] -- go
        refine wp_aload_n (pc := 133) dX12_sheet_133 rfl ?_
        refine wp_aload_n (pc := 134) dX12_sheet_134 rfl ?_
        refine wm_get dX12_sheet_135 gf_X12_9 K (by rfl) ?_
        refine wp_bipush (pc := 138) (y := 36) dX12_sheet_138 (by decide) ?_
        refine wp_Vp (pc := 140) dX12_sheet_140 cl_X12_220 (sp_sum2 K (by repeat (first | assumption | exact pv10 | exact pv11 | (apply pv_o; decide; decide) | exact upN_eq | (apply upN_ne; decide) | (apply SV_at; assumption; decide) | exact rfl)) hN (.inl rfl) (by repeat (first | assumption | exact upA_eq | (apply upA_ne; first | decide | omega) | (apply SA_at; assumption; first | decide | (simp; omega)) | exact rfl))) rfl rfl K.1 (by rfl) (by decide) (Nat.le_of_ble_eq_true rfl) ?_
        exact wp_ir (pc := 143) dX12_sheet_143 rfl (by decide) (by decide) (by first | rfl | omega) ⟨⟨_, _, _, K, (by repeat (first | assumption | exact pv10 | exact pv11 | (apply pv_o; decide; decide) | exact upN_eq | (apply upN_ne; decide) | (apply SV_at; assumption; decide) | exact rfl)), ⟨(by repeat (first | assumption | exact pv10 | exact pv11 | (apply pv_o; decide; decide) | exact upN_eq | (apply upN_ne; decide) | (apply SV_at; assumption; decide) | exact rfl)), (by repeat (first | assumption | exact upA_eq | (apply upA_ne; first | decide | omega) | (apply SA_at; assumption; first | decide | (simp; omega)) | exact rfl)), Mtx.tr mt (by repeat (first | assumption | exact pv10 | exact pv11 | (apply pv_o; decide; decide) | exact upN_eq | (apply upN_ne; decide) | (apply SV_at; assumption; decide) | exact rfl)) (by repeat (first | assumption | exact upA_eq | (apply upA_ne; first | decide | omega) | (apply SA_at; assumption; first | decide | (simp; omega)) | exact rfl)), Mrw.tr mr (by repeat (first | assumption | exact pv10 | exact pv11 | (apply pv_o; decide; decide) | exact upN_eq | (apply upN_ne; decide) | (apply SV_at; assumption; decide) | exact rfl)) (by repeat (first | assumption | exact upA_eq | (apply upA_ne; first | decide | omega) | (apply SA_at; assumption; first | decide | (simp; omega)) | exact rfl)), Mrt.tr mu (by repeat (first | assumption | exact pv10 | exact pv11 | (apply pv_o; decide; decide) | exact upN_eq | (apply upN_ne; decide) | (apply SV_at; assumption; decide) | exact rfl)) (by repeat (first | assumption | exact upA_eq | (apply upA_ne; first | decide | omega) | (apply SA_at; assumption; first | decide | (simp; omega)) | exact rfl)), MU.tr mU (by repeat (first | assumption | exact pv10 | exact pv11 | (apply pv_o; decide; decide) | exact upN_eq | (apply upN_ne; decide) | (apply SV_at; assumption; decide) | exact rfl)) (by repeat (first | assumption | exact upA_eq | (apply upA_ne; first | decide | omega) | (apply SA_at; assumption; first | decide | (simp; omega)) | exact rfl)), Mhs.tr mh (by repeat (first | assumption | exact pv10 | exact pv11 | (apply pv_o; decide; decide) | exact upN_eq | (apply upN_ne; decide) | (apply SV_at; assumption; decide) | exact rfl)) (by repeat (first | assumption | exact upA_eq | (apply upA_ne; first | decide | omega) | (apply SA_at; assumption; first | decide | (simp; omega)) | exact rfl)) (by repeat (first | assumption | exact upA_eq | (apply upA_ne; first | decide | omega) | (apply SA_at; assumption; first | decide | (simp; omega)) | exact rfl)), Mss.tr ms (by repeat (first | assumption | exact pv10 | exact pv11 | (apply pv_o; decide; decide) | exact upN_eq | (apply upN_ne; decide) | (apply SV_at; assumption; decide) | exact rfl)) (by repeat (first | assumption | exact upA_eq | (apply upA_ne; first | decide | omega) | (apply SA_at; assumption; first | decide | (simp; omega)) | exact rfl)) (by repeat (first | assumption | exact upA_eq | (apply upA_ne; first | decide | omega) | (apply SA_at; assumption; first | decide | (simp; omega)) | exact rfl)) (by repeat (first | assumption | exact upA_eq | (apply upA_ne; first | decide | omega) | (apply SA_at; assumption; first | decide | (simp; omega)) | exact rfl)), MK.tr mk (by repeat (first | assumption | exact pv10 | exact pv11 | (apply pv_o; decide; decide) | exact upN_eq | (apply upN_ne; decide) | (apply SV_at; assumption; decide) | exact rfl)) (by repeat (first | assumption | exact upA_eq | (apply upA_ne; first | decide | omega) | (apply SA_at; assumption; first | decide | (simp; omega)) | exact rfl)) (by repeat (first | assumption | exact upA_eq | (apply upA_ne; first | decide | omega) | (apply SA_at; assumption; first | decide | (simp; omega)) | exact rfl)) (by repeat (first | assumption | exact upA_eq | (apply upA_ne; first | decide | omega) | (apply SA_at; assumption; first | decide | (simp; omega)) | exact rfl))⟩⟩, O⟩
      ·
        rw [if_pos c125] -- go
        refine wp_bipush (pc := 128) (y := (-3)) dX12_sheet_128 (by decide) ?_
        refine wp_goto (pc := 130) 143 dX12_sheet_130 (by decide) ?_
        exact wp_ir (pc := 143) dX12_sheet_143 rfl (by decide) (by decide) (by first | rfl | omega) ⟨⟨_, _, _, K, (by repeat (first | assumption | exact pv10 | exact pv11 | (apply pv_o; decide; decide) | exact upN_eq | (apply upN_ne; decide) | (apply SV_at; assumption; decide) | exact rfl)), ⟨(by repeat (first | assumption | exact pv10 | exact pv11 | (apply pv_o; decide; decide) | exact upN_eq | (apply upN_ne; decide) | (apply SV_at; assumption; decide) | exact rfl)), (by repeat (first | assumption | exact upA_eq | (apply upA_ne; first | decide | omega) | (apply SA_at; assumption; first | decide | (simp; omega)) | exact rfl)), Mtx.tr mt (by repeat (first | assumption | exact pv10 | exact pv11 | (apply pv_o; decide; decide) | exact upN_eq | (apply upN_ne; decide) | (apply SV_at; assumption; decide) | exact rfl)) (by repeat (first | assumption | exact upA_eq | (apply upA_ne; first | decide | omega) | (apply SA_at; assumption; first | decide | (simp; omega)) | exact rfl)), Mrw.tr mr (by repeat (first | assumption | exact pv10 | exact pv11 | (apply pv_o; decide; decide) | exact upN_eq | (apply upN_ne; decide) | (apply SV_at; assumption; decide) | exact rfl)) (by repeat (first | assumption | exact upA_eq | (apply upA_ne; first | decide | omega) | (apply SA_at; assumption; first | decide | (simp; omega)) | exact rfl)), Mrt.tr mu (by repeat (first | assumption | exact pv10 | exact pv11 | (apply pv_o; decide; decide) | exact upN_eq | (apply upN_ne; decide) | (apply SV_at; assumption; decide) | exact rfl)) (by repeat (first | assumption | exact upA_eq | (apply upA_ne; first | decide | omega) | (apply SA_at; assumption; first | decide | (simp; omega)) | exact rfl)), MU.tr mU (by repeat (first | assumption | exact pv10 | exact pv11 | (apply pv_o; decide; decide) | exact upN_eq | (apply upN_ne; decide) | (apply SV_at; assumption; decide) | exact rfl)) (by repeat (first | assumption | exact upA_eq | (apply upA_ne; first | decide | omega) | (apply SA_at; assumption; first | decide | (simp; omega)) | exact rfl)), Mhs.tr mh (by repeat (first | assumption | exact pv10 | exact pv11 | (apply pv_o; decide; decide) | exact upN_eq | (apply upN_ne; decide) | (apply SV_at; assumption; decide) | exact rfl)) (by repeat (first | assumption | exact upA_eq | (apply upA_ne; first | decide | omega) | (apply SA_at; assumption; first | decide | (simp; omega)) | exact rfl)) (by repeat (first | assumption | exact upA_eq | (apply upA_ne; first | decide | omega) | (apply SA_at; assumption; first | decide | (simp; omega)) | exact rfl)), Mss.tr ms (by repeat (first | assumption | exact pv10 | exact pv11 | (apply pv_o; decide; decide) | exact upN_eq | (apply upN_ne; decide) | (apply SV_at; assumption; decide) | exact rfl)) (by repeat (first | assumption | exact upA_eq | (apply upA_ne; first | decide | omega) | (apply SA_at; assumption; first | decide | (simp; omega)) | exact rfl)) (by repeat (first | assumption | exact upA_eq | (apply upA_ne; first | decide | omega) | (apply SA_at; assumption; first | decide | (simp; omega)) | exact rfl)) (by repeat (first | assumption | exact upA_eq | (apply upA_ne; first | decide | omega) | (apply SA_at; assumption; first | decide | (simp; omega)) | exact rfl)), MK.tr mk (by repeat (first | assumption | exact pv10 | exact pv11 | (apply pv_o; decide; decide) | exact upN_eq | (apply upN_ne; decide) | (apply SV_at; assumption; decide) | exact rfl)) (by repeat (first | assumption | exact upA_eq | (apply upA_ne; first | decide | omega) | (apply SA_at; assumption; first | decide | (simp; omega)) | exact rfl)) (by repeat (first | assumption | exact upA_eq | (apply upA_ne; first | decide | omega) | (apply SA_at; assumption; first | decide | (simp; omega)) | exact rfl)) (by repeat (first | assumption | exact upA_eq | (apply upA_ne; first | decide | omega) | (apply SA_at; assumption; first | decide | (simp; omega)) | exact rfl))⟩⟩, O⟩
    ·
      first
      | (exfalso; omega)
      | skip
        refine wp_iload_n (pc := 49) dX12_sheet_49 rfl ?_
        first | refine wp_ifb_ne (pc := 50) 59 dX12_sheet_50 (by decide) (fun c50 => ?_) (fun c50 => ?_) | refine wp_if_ne (pc := 50) 59 dX12_sheet_50 (by decide) (by first | omega | exact TI.i5 (by assumption) | exact TI.i3 (by assumption) | exact TI.i2 (by assumption) | exact TI.i1 (by assumption) | exact TI.i0 (by assumption) | exact TI.i4 (by assumption) | exact TI.i6 (by assumption) | exact TI.i7 (by assumption)) (fun c50 => ?_) (fun c50 => ?_)
        ·
          first
          | (exfalso; omega)
          | skip
            refine wp_iload_n (pc := 59) dX12_sheet_59 rfl ?_
            refine wp_iconst (pc := 60) dX12_sheet_60 ?_
            refine wp_icmp_ne (pc := 61) 70 dX12_sheet_61 (by decide) (by first | omega | exact TI.i5 (by assumption) | exact TI.i3 (by assumption) | exact TI.i2 (by assumption) | exact TI.i1 (by assumption) | exact TI.i0 (by assumption) | exact TI.i4 (by assumption) | exact TI.i6 (by assumption) | exact TI.i7 (by assumption)) (by first | omega | exact TI.i5 (by assumption) | exact TI.i3 (by assumption) | exact TI.i2 (by assumption) | exact TI.i1 (by assumption) | exact TI.i0 (by assumption) | exact TI.i4 (by assumption) | exact TI.i6 (by assumption) | exact TI.i7 (by assumption)) (fun c61 => ?_) (fun c61 => ?_)
            ·
              first
              | (exfalso; omega)
              | skip
                refine wp_iload (pc := 70) dX12_sheet_70 rfl ?_
                refine wp_topx (show I (f + i * st) = I (entv x (f + i * st)) by unfold entv; rw [if_neg c50, if_neg c61, nz_I]) ?_
                refine wp_istore (pc := 72) dX12_sheet_72 (by decide) ?_
                refine wp_aload_n (pc := 74) dX12_sheet_74 rfl ?_
                refine wm_get dX12_sheet_75 gf_X12_9 K (by rfl) ?_
                refine wp_bipush (pc := 78) (y := 36) dX12_sheet_78 (by decide) ?_
                refine wp_iload (pc := 80) dX12_sheet_80 rfl ?_
                refine wp_iadd (pc := 82) dX12_sheet_82 ?_
                refine wp_iload_n (pc := 83) dX12_sheet_83 rfl ?_
                refine wp_iconst (pc := 84) dX12_sheet_84 ?_
                refine wp_icmp_eq (pc := 85) 94 dX12_sheet_85 (by decide) (by first | omega | exact TI.i5 (by assumption) | exact TI.i3 (by assumption) | exact TI.i2 (by assumption) | exact TI.i1 (by assumption) | exact TI.i0 (by assumption) | exact TI.i4 (by assumption) | exact TI.i6 (by assumption) | exact TI.i7 (by assumption)) (by first | omega | exact TI.i5 (by assumption) | exact TI.i3 (by assumption) | exact TI.i2 (by assumption) | exact TI.i1 (by assumption) | exact TI.i0 (by assumption) | exact TI.i4 (by assumption) | exact TI.i6 (by assumption) | exact TI.i7 (by assumption)) (fun c85 => ?_) (fun c85 => ?_)
                ·
                  first
                  | (exfalso; omega)
                  | skip
                    refine wp_iconst (pc := 94) dX12_sheet_94 ?_
                    have ew : (0 : Int) = shF x y f st (i : Int) := by unfold shF; rw [if_pos (by omega)]
                    refine wp_goto (pc := 95) 109 dX12_sheet_95 (by decide) ?_
                    refine wm_iast dX12_sheet_109 K O (by first | rfl | assumption) (by first | decide | omega) (by first | decide | omega) (by decide) (by omega) (by omega) (by repeat (first | assumption | exact upA_eq | (apply upA_ne; first | decide | omega) | (apply SA_at; assumption; first | decide | (simp; omega)) | exact rfl)) (by first | exact flatv5 (by omega) (by omega) | exact flatv3 (by omega) (by omega) | exact flatv2 (by omega) (by omega) | exact flatv6 (by omega) (by omega) | exact flatv4 (by omega) (by omega) | exact flatw1 (by omega) (by omega) | exact flatw0 (by omega) (by omega) | exact flatw7 | exact rfl) (fun hp K O => ?_)
                    rw [shT_up ew] at K
                    refine wp_iload (pc := 110) dX12_sheet_110 rfl ?_
                    refine wp_iload (pc := 112) dX12_sheet_112 rfl ?_
                    refine wp_iadd (pc := 114) dX12_sheet_114 ?_
                    refine wp_istore (pc := 115) dX12_sheet_115 (by decide) ?_
                    refine wp_iinc (pc := 117) dX12_sheet_117 rfl (by decide) ?_
                    refine wp_goto (pc := 120) 40 dX12_sheet_120 (by decide) ?_
                    refine wp_ls ?_ (ih (i + 1) (by omega) (by omega) _ _ K O (sA.up (by decide)) upA_eq)
                    repeat' (first | exact LE_0 | refine LE_s rfl ?_ | refine LE_s (I_c (by first | omega | (rw [show ((i + 1 : Nat) : Int) = (i : Int) + 1 from rfl, Int.add_mul, Int.one_mul]; omega))) ?_ | refine LE_n ?_)
                ·
                  first
                  | (exfalso; omega)
                  | skip
                    refine wp_iload (pc := 88) dX12_sheet_88 rfl ?_
                    refine wp_iload_n (pc := 90) dX12_sheet_90 rfl ?_
                    refine wp_icmp_lt (pc := 91) 98 dX12_sheet_91 (by decide) (by first | omega | exact TI.i5 (by assumption) | exact TI.i3 (by assumption) | exact TI.i2 (by assumption) | exact TI.i1 (by assumption) | exact TI.i0 (by assumption) | exact TI.i4 (by assumption) | exact TI.i6 (by assumption) | exact TI.i7 (by assumption)) (by first | omega | exact TI.i5 (by assumption) | exact TI.i3 (by assumption) | exact TI.i2 (by assumption) | exact TI.i1 (by assumption) | exact TI.i0 (by assumption) | exact TI.i4 (by assumption) | exact TI.i6 (by assumption) | exact TI.i7 (by assumption)) (fun c91 => ?_) (fun c91 => ?_)
                    ·
                      first
                      | (exfalso; omega)
                      | skip
                        refine wp_iconst (pc := 98) dX12_sheet_98 ?_
                        refine wp_bipush (pc := 99) (y := 99) dX12_sheet_99 (by decide) ?_
                        refine wp_iload (pc := 101) dX12_sheet_101 rfl ?_
                        refine wp_min (pc := 103) dX12_sheet_103 ml_X12_194 ma_min_s ma_ini ma_min_c (by decide) (by decide) (by decide) (by decide) (Nat.le_of_ble_eq_true rfl) (by first | omega | exact hei) (by first | omega | exact hei) ?_
                        refine wp_max (pc := 106) dX12_sheet_106 ml_X12_199 ma_max_s ma_ini ma_max_c (by decide) (by decide) (by decide) (by decide) (Nat.le_of_ble_eq_true rfl) (by first | omega | exact hmi) (by first | omega | exact hmi) ?_
                        have ew : mx 0 (mi 99 (entv x (f + i * st))) = shF x y f st (i : Int) := by unfold shF; rw [if_neg (by omega)]
                        refine wm_iast dX12_sheet_109 K O (by first | rfl | assumption) (by first | decide | omega) (by first | decide | omega) (by decide) (by omega) (by omega) (by repeat (first | assumption | exact upA_eq | (apply upA_ne; first | decide | omega) | (apply SA_at; assumption; first | decide | (simp; omega)) | exact rfl)) (by first | exact flatv5 (by omega) (by omega) | exact flatv3 (by omega) (by omega) | exact flatv2 (by omega) (by omega) | exact flatv6 (by omega) (by omega) | exact flatv4 (by omega) (by omega) | exact flatw1 (by omega) (by omega) | exact flatw0 (by omega) (by omega) | exact flatw7 | exact rfl) (fun hp K O => ?_)
                        rw [shT_up ew] at K
                        refine wp_iload (pc := 110) dX12_sheet_110 rfl ?_
                        refine wp_iload (pc := 112) dX12_sheet_112 rfl ?_
                        refine wp_iadd (pc := 114) dX12_sheet_114 ?_
                        refine wp_istore (pc := 115) dX12_sheet_115 (by decide) ?_
                        refine wp_iinc (pc := 117) dX12_sheet_117 rfl (by decide) ?_
                        refine wp_goto (pc := 120) 40 dX12_sheet_120 (by decide) ?_
                        refine wp_ls ?_ (ih (i + 1) (by omega) (by omega) _ _ K O (sA.up (by decide)) upA_eq)
                        repeat' (first | exact LE_0 | refine LE_s rfl ?_ | refine LE_s (I_c (by first | omega | (rw [show ((i + 1 : Nat) : Int) = (i : Int) + 1 from rfl, Int.add_mul, Int.one_mul]; omega))) ?_ | refine LE_n ?_)
                    ·
                      first
                      | (exfalso; omega)
                      | skip
                        refine wp_iconst (pc := 94) dX12_sheet_94 ?_
                        have ew : (0 : Int) = shF x y f st (i : Int) := by unfold shF; rw [if_pos (by omega)]
                        refine wp_goto (pc := 95) 109 dX12_sheet_95 (by decide) ?_
                        refine wm_iast dX12_sheet_109 K O (by first | rfl | assumption) (by first | decide | omega) (by first | decide | omega) (by decide) (by omega) (by omega) (by repeat (first | assumption | exact upA_eq | (apply upA_ne; first | decide | omega) | (apply SA_at; assumption; first | decide | (simp; omega)) | exact rfl)) (by first | exact flatv5 (by omega) (by omega) | exact flatv3 (by omega) (by omega) | exact flatv2 (by omega) (by omega) | exact flatv6 (by omega) (by omega) | exact flatv4 (by omega) (by omega) | exact flatw1 (by omega) (by omega) | exact flatw0 (by omega) (by omega) | exact flatw7 | exact rfl) (fun hp K O => ?_)
                        rw [shT_up ew] at K
                        refine wp_iload (pc := 110) dX12_sheet_110 rfl ?_
                        refine wp_iload (pc := 112) dX12_sheet_112 rfl ?_
                        refine wp_iadd (pc := 114) dX12_sheet_114 ?_
                        refine wp_istore (pc := 115) dX12_sheet_115 (by decide) ?_
                        refine wp_iinc (pc := 117) dX12_sheet_117 rfl (by decide) ?_
                        refine wp_goto (pc := 120) 40 dX12_sheet_120 (by decide) ?_
                        refine wp_ls ?_ (ih (i + 1) (by omega) (by omega) _ _ K O (sA.up (by decide)) upA_eq)
                        repeat' (first | exact LE_0 | refine LE_s rfl ?_ | refine LE_s (I_c (by first | omega | (rw [show ((i + 1 : Nat) : Int) = (i : Int) + 1 from rfl, Int.add_mul, Int.one_mul]; omega))) ?_ | refine LE_n ?_)
            ·
              first
              | (exfalso; omega)
              | skip
                refine wp_iload (pc := 64) dX12_sheet_64 rfl ?_
                refine wp_i2s (pc := 66) dX12_sheet_66 (show (I (f + i * st)).toInt16.toInt32 = I (entv x (f + i * st)) by unfold entv; rw [if_neg c50, if_pos c61]; exact I_of _) ?_
                refine wp_goto (pc := 67) 72 dX12_sheet_67 (by decide) ?_
                refine wp_istore (pc := 72) dX12_sheet_72 (by decide) ?_
                refine wp_aload_n (pc := 74) dX12_sheet_74 rfl ?_
                refine wm_get dX12_sheet_75 gf_X12_9 K (by rfl) ?_
                refine wp_bipush (pc := 78) (y := 36) dX12_sheet_78 (by decide) ?_
                refine wp_iload (pc := 80) dX12_sheet_80 rfl ?_
                refine wp_iadd (pc := 82) dX12_sheet_82 ?_
                refine wp_iload_n (pc := 83) dX12_sheet_83 rfl ?_
                refine wp_iconst (pc := 84) dX12_sheet_84 ?_
                refine wp_icmp_eq (pc := 85) 94 dX12_sheet_85 (by decide) (by first | omega | exact TI.i5 (by assumption) | exact TI.i3 (by assumption) | exact TI.i2 (by assumption) | exact TI.i1 (by assumption) | exact TI.i0 (by assumption) | exact TI.i4 (by assumption) | exact TI.i6 (by assumption) | exact TI.i7 (by assumption)) (by first | omega | exact TI.i5 (by assumption) | exact TI.i3 (by assumption) | exact TI.i2 (by assumption) | exact TI.i1 (by assumption) | exact TI.i0 (by assumption) | exact TI.i4 (by assumption) | exact TI.i6 (by assumption) | exact TI.i7 (by assumption)) (fun c85 => ?_) (fun c85 => ?_)
                ·
                  first
                  | (exfalso; omega)
                  | skip
                    refine wp_iconst (pc := 94) dX12_sheet_94 ?_
                    have ew : (0 : Int) = shF x y f st (i : Int) := by unfold shF; rw [if_pos (by omega)]
                    refine wp_goto (pc := 95) 109 dX12_sheet_95 (by decide) ?_
                    refine wm_iast dX12_sheet_109 K O (by first | rfl | assumption) (by first | decide | omega) (by first | decide | omega) (by decide) (by omega) (by omega) (by repeat (first | assumption | exact upA_eq | (apply upA_ne; first | decide | omega) | (apply SA_at; assumption; first | decide | (simp; omega)) | exact rfl)) (by first | exact flatv5 (by omega) (by omega) | exact flatv3 (by omega) (by omega) | exact flatv2 (by omega) (by omega) | exact flatv6 (by omega) (by omega) | exact flatv4 (by omega) (by omega) | exact flatw1 (by omega) (by omega) | exact flatw0 (by omega) (by omega) | exact flatw7 | exact rfl) (fun hp K O => ?_)
                    rw [shT_up ew] at K
                    refine wp_iload (pc := 110) dX12_sheet_110 rfl ?_
                    refine wp_iload (pc := 112) dX12_sheet_112 rfl ?_
                    refine wp_iadd (pc := 114) dX12_sheet_114 ?_
                    refine wp_istore (pc := 115) dX12_sheet_115 (by decide) ?_
                    refine wp_iinc (pc := 117) dX12_sheet_117 rfl (by decide) ?_
                    refine wp_goto (pc := 120) 40 dX12_sheet_120 (by decide) ?_
                    refine wp_ls ?_ (ih (i + 1) (by omega) (by omega) _ _ K O (sA.up (by decide)) upA_eq)
                    repeat' (first | exact LE_0 | refine LE_s rfl ?_ | refine LE_s (I_c (by first | omega | (rw [show ((i + 1 : Nat) : Int) = (i : Int) + 1 from rfl, Int.add_mul, Int.one_mul]; omega))) ?_ | refine LE_n ?_)
                ·
                  first
                  | (exfalso; omega)
                  | skip
                    refine wp_iload (pc := 88) dX12_sheet_88 rfl ?_
                    refine wp_iload_n (pc := 90) dX12_sheet_90 rfl ?_
                    refine wp_icmp_lt (pc := 91) 98 dX12_sheet_91 (by decide) (by first | omega | exact TI.i5 (by assumption) | exact TI.i3 (by assumption) | exact TI.i2 (by assumption) | exact TI.i1 (by assumption) | exact TI.i0 (by assumption) | exact TI.i4 (by assumption) | exact TI.i6 (by assumption) | exact TI.i7 (by assumption)) (by first | omega | exact TI.i5 (by assumption) | exact TI.i3 (by assumption) | exact TI.i2 (by assumption) | exact TI.i1 (by assumption) | exact TI.i0 (by assumption) | exact TI.i4 (by assumption) | exact TI.i6 (by assumption) | exact TI.i7 (by assumption)) (fun c91 => ?_) (fun c91 => ?_)
                    ·
                      first
                      | (exfalso; omega)
                      | skip
                        refine wp_iconst (pc := 98) dX12_sheet_98 ?_
                        refine wp_bipush (pc := 99) (y := 99) dX12_sheet_99 (by decide) ?_
                        refine wp_iload (pc := 101) dX12_sheet_101 rfl ?_
                        refine wp_min (pc := 103) dX12_sheet_103 ml_X12_194 ma_min_s ma_ini ma_min_c (by decide) (by decide) (by decide) (by decide) (Nat.le_of_ble_eq_true rfl) (by first | omega | exact hei) (by first | omega | exact hei) ?_
                        refine wp_max (pc := 106) dX12_sheet_106 ml_X12_199 ma_max_s ma_ini ma_max_c (by decide) (by decide) (by decide) (by decide) (Nat.le_of_ble_eq_true rfl) (by first | omega | exact hmi) (by first | omega | exact hmi) ?_
                        have ew : mx 0 (mi 99 (entv x (f + i * st))) = shF x y f st (i : Int) := by unfold shF; rw [if_neg (by omega)]
                        refine wm_iast dX12_sheet_109 K O (by first | rfl | assumption) (by first | decide | omega) (by first | decide | omega) (by decide) (by omega) (by omega) (by repeat (first | assumption | exact upA_eq | (apply upA_ne; first | decide | omega) | (apply SA_at; assumption; first | decide | (simp; omega)) | exact rfl)) (by first | exact flatv5 (by omega) (by omega) | exact flatv3 (by omega) (by omega) | exact flatv2 (by omega) (by omega) | exact flatv6 (by omega) (by omega) | exact flatv4 (by omega) (by omega) | exact flatw1 (by omega) (by omega) | exact flatw0 (by omega) (by omega) | exact flatw7 | exact rfl) (fun hp K O => ?_)
                        rw [shT_up ew] at K
                        refine wp_iload (pc := 110) dX12_sheet_110 rfl ?_
                        refine wp_iload (pc := 112) dX12_sheet_112 rfl ?_
                        refine wp_iadd (pc := 114) dX12_sheet_114 ?_
                        refine wp_istore (pc := 115) dX12_sheet_115 (by decide) ?_
                        refine wp_iinc (pc := 117) dX12_sheet_117 rfl (by decide) ?_
                        refine wp_goto (pc := 120) 40 dX12_sheet_120 (by decide) ?_
                        refine wp_ls ?_ (ih (i + 1) (by omega) (by omega) _ _ K O (sA.up (by decide)) upA_eq)
                        repeat' (first | exact LE_0 | refine LE_s rfl ?_ | refine LE_s (I_c (by first | omega | (rw [show ((i + 1 : Nat) : Int) = (i : Int) + 1 from rfl, Int.add_mul, Int.one_mul]; omega))) ?_ | refine LE_n ?_)
                    ·
                      first
                      | (exfalso; omega)
                      | skip
                        refine wp_iconst (pc := 94) dX12_sheet_94 ?_
                        have ew : (0 : Int) = shF x y f st (i : Int) := by unfold shF; rw [if_pos (by omega)]
                        refine wp_goto (pc := 95) 109 dX12_sheet_95 (by decide) ?_
                        refine wm_iast dX12_sheet_109 K O (by first | rfl | assumption) (by first | decide | omega) (by first | decide | omega) (by decide) (by omega) (by omega) (by repeat (first | assumption | exact upA_eq | (apply upA_ne; first | decide | omega) | (apply SA_at; assumption; first | decide | (simp; omega)) | exact rfl)) (by first | exact flatv5 (by omega) (by omega) | exact flatv3 (by omega) (by omega) | exact flatv2 (by omega) (by omega) | exact flatv6 (by omega) (by omega) | exact flatv4 (by omega) (by omega) | exact flatw1 (by omega) (by omega) | exact flatw0 (by omega) (by omega) | exact flatw7 | exact rfl) (fun hp K O => ?_)
                        rw [shT_up ew] at K
                        refine wp_iload (pc := 110) dX12_sheet_110 rfl ?_
                        refine wp_iload (pc := 112) dX12_sheet_112 rfl ?_
                        refine wp_iadd (pc := 114) dX12_sheet_114 ?_
                        refine wp_istore (pc := 115) dX12_sheet_115 (by decide) ?_
                        refine wp_iinc (pc := 117) dX12_sheet_117 rfl (by decide) ?_
                        refine wp_goto (pc := 120) 40 dX12_sheet_120 (by decide) ?_
                        refine wp_ls ?_ (ih (i + 1) (by omega) (by omega) _ _ K O (sA.up (by decide)) upA_eq)
                        repeat' (first | exact LE_0 | refine LE_s rfl ?_ | refine LE_s (I_c (by first | omega | (rw [show ((i + 1 : Nat) : Int) = (i : Int) + 1 from rfl, Int.add_mul, Int.one_mul]; omega))) ?_ | refine LE_n ?_)
        ·
          first
          | (exfalso; omega)
          | skip
            refine wp_iload (pc := 53) dX12_sheet_53 rfl ?_
            refine wp_i2b (pc := 55) dX12_sheet_55 (show (I (f + i * st)).toInt8.toInt32 = I (entv x (f + i * st)) by unfold entv; rw [if_pos c50]; exact I_of _) ?_
            refine wp_goto (pc := 56) 72 dX12_sheet_56 (by decide) ?_
            refine wp_istore (pc := 72) dX12_sheet_72 (by decide) ?_
            refine wp_aload_n (pc := 74) dX12_sheet_74 rfl ?_
            refine wm_get dX12_sheet_75 gf_X12_9 K (by rfl) ?_
            refine wp_bipush (pc := 78) (y := 36) dX12_sheet_78 (by decide) ?_
            refine wp_iload (pc := 80) dX12_sheet_80 rfl ?_
            refine wp_iadd (pc := 82) dX12_sheet_82 ?_
            refine wp_iload_n (pc := 83) dX12_sheet_83 rfl ?_
            refine wp_iconst (pc := 84) dX12_sheet_84 ?_
            refine wp_icmp_eq (pc := 85) 94 dX12_sheet_85 (by decide) (by first | omega | exact TI.i5 (by assumption) | exact TI.i3 (by assumption) | exact TI.i2 (by assumption) | exact TI.i1 (by assumption) | exact TI.i0 (by assumption) | exact TI.i4 (by assumption) | exact TI.i6 (by assumption) | exact TI.i7 (by assumption)) (by first | omega | exact TI.i5 (by assumption) | exact TI.i3 (by assumption) | exact TI.i2 (by assumption) | exact TI.i1 (by assumption) | exact TI.i0 (by assumption) | exact TI.i4 (by assumption) | exact TI.i6 (by assumption) | exact TI.i7 (by assumption)) (fun c85 => ?_) (fun c85 => ?_)
            ·
              first
              | (exfalso; omega)
              | skip
                refine wp_iconst (pc := 94) dX12_sheet_94 ?_
                have ew : (0 : Int) = shF x y f st (i : Int) := by unfold shF; rw [if_pos (by omega)]
                refine wp_goto (pc := 95) 109 dX12_sheet_95 (by decide) ?_
                refine wm_iast dX12_sheet_109 K O (by first | rfl | assumption) (by first | decide | omega) (by first | decide | omega) (by decide) (by omega) (by omega) (by repeat (first | assumption | exact upA_eq | (apply upA_ne; first | decide | omega) | (apply SA_at; assumption; first | decide | (simp; omega)) | exact rfl)) (by first | exact flatv5 (by omega) (by omega) | exact flatv3 (by omega) (by omega) | exact flatv2 (by omega) (by omega) | exact flatv6 (by omega) (by omega) | exact flatv4 (by omega) (by omega) | exact flatw1 (by omega) (by omega) | exact flatw0 (by omega) (by omega) | exact flatw7 | exact rfl) (fun hp K O => ?_)
                rw [shT_up ew] at K
                refine wp_iload (pc := 110) dX12_sheet_110 rfl ?_
                refine wp_iload (pc := 112) dX12_sheet_112 rfl ?_
                refine wp_iadd (pc := 114) dX12_sheet_114 ?_
                refine wp_istore (pc := 115) dX12_sheet_115 (by decide) ?_
                refine wp_iinc (pc := 117) dX12_sheet_117 rfl (by decide) ?_
                refine wp_goto (pc := 120) 40 dX12_sheet_120 (by decide) ?_
                refine wp_ls ?_ (ih (i + 1) (by omega) (by omega) _ _ K O (sA.up (by decide)) upA_eq)
                repeat' (first | exact LE_0 | refine LE_s rfl ?_ | refine LE_s (I_c (by first | omega | (rw [show ((i + 1 : Nat) : Int) = (i : Int) + 1 from rfl, Int.add_mul, Int.one_mul]; omega))) ?_ | refine LE_n ?_)
            ·
              first
              | (exfalso; omega)
              | skip
                refine wp_iload (pc := 88) dX12_sheet_88 rfl ?_
                refine wp_iload_n (pc := 90) dX12_sheet_90 rfl ?_
                refine wp_icmp_lt (pc := 91) 98 dX12_sheet_91 (by decide) (by first | omega | exact TI.i5 (by assumption) | exact TI.i3 (by assumption) | exact TI.i2 (by assumption) | exact TI.i1 (by assumption) | exact TI.i0 (by assumption) | exact TI.i4 (by assumption) | exact TI.i6 (by assumption) | exact TI.i7 (by assumption)) (by first | omega | exact TI.i5 (by assumption) | exact TI.i3 (by assumption) | exact TI.i2 (by assumption) | exact TI.i1 (by assumption) | exact TI.i0 (by assumption) | exact TI.i4 (by assumption) | exact TI.i6 (by assumption) | exact TI.i7 (by assumption)) (fun c91 => ?_) (fun c91 => ?_)
                ·
                  first
                  | (exfalso; omega)
                  | skip
                    refine wp_iconst (pc := 98) dX12_sheet_98 ?_
                    refine wp_bipush (pc := 99) (y := 99) dX12_sheet_99 (by decide) ?_
                    refine wp_iload (pc := 101) dX12_sheet_101 rfl ?_
                    refine wp_min (pc := 103) dX12_sheet_103 ml_X12_194 ma_min_s ma_ini ma_min_c (by decide) (by decide) (by decide) (by decide) (Nat.le_of_ble_eq_true rfl) (by first | omega | exact hei) (by first | omega | exact hei) ?_
                    refine wp_max (pc := 106) dX12_sheet_106 ml_X12_199 ma_max_s ma_ini ma_max_c (by decide) (by decide) (by decide) (by decide) (Nat.le_of_ble_eq_true rfl) (by first | omega | exact hmi) (by first | omega | exact hmi) ?_
                    have ew : mx 0 (mi 99 (entv x (f + i * st))) = shF x y f st (i : Int) := by unfold shF; rw [if_neg (by omega)]
                    refine wm_iast dX12_sheet_109 K O (by first | rfl | assumption) (by first | decide | omega) (by first | decide | omega) (by decide) (by omega) (by omega) (by repeat (first | assumption | exact upA_eq | (apply upA_ne; first | decide | omega) | (apply SA_at; assumption; first | decide | (simp; omega)) | exact rfl)) (by first | exact flatv5 (by omega) (by omega) | exact flatv3 (by omega) (by omega) | exact flatv2 (by omega) (by omega) | exact flatv6 (by omega) (by omega) | exact flatv4 (by omega) (by omega) | exact flatw1 (by omega) (by omega) | exact flatw0 (by omega) (by omega) | exact flatw7 | exact rfl) (fun hp K O => ?_)
                    rw [shT_up ew] at K
                    refine wp_iload (pc := 110) dX12_sheet_110 rfl ?_
                    refine wp_iload (pc := 112) dX12_sheet_112 rfl ?_
                    refine wp_iadd (pc := 114) dX12_sheet_114 ?_
                    refine wp_istore (pc := 115) dX12_sheet_115 (by decide) ?_
                    refine wp_iinc (pc := 117) dX12_sheet_117 rfl (by decide) ?_
                    refine wp_goto (pc := 120) 40 dX12_sheet_120 (by decide) ?_
                    refine wp_ls ?_ (ih (i + 1) (by omega) (by omega) _ _ K O (sA.up (by decide)) upA_eq)
                    repeat' (first | exact LE_0 | refine LE_s rfl ?_ | refine LE_s (I_c (by first | omega | (rw [show ((i + 1 : Nat) : Int) = (i : Int) + 1 from rfl, Int.add_mul, Int.one_mul]; omega))) ?_ | refine LE_n ?_)
                ·
                  first
                  | (exfalso; omega)
                  | skip
                    refine wp_iconst (pc := 94) dX12_sheet_94 ?_
                    have ew : (0 : Int) = shF x y f st (i : Int) := by unfold shF; rw [if_pos (by omega)]
                    refine wp_goto (pc := 95) 109 dX12_sheet_95 (by decide) ?_
                    refine wm_iast dX12_sheet_109 K O (by first | rfl | assumption) (by first | decide | omega) (by first | decide | omega) (by decide) (by omega) (by omega) (by repeat (first | assumption | exact upA_eq | (apply upA_ne; first | decide | omega) | (apply SA_at; assumption; first | decide | (simp; omega)) | exact rfl)) (by first | exact flatv5 (by omega) (by omega) | exact flatv3 (by omega) (by omega) | exact flatv2 (by omega) (by omega) | exact flatv6 (by omega) (by omega) | exact flatv4 (by omega) (by omega) | exact flatw1 (by omega) (by omega) | exact flatw0 (by omega) (by omega) | exact flatw7 | exact rfl) (fun hp K O => ?_)
                    rw [shT_up ew] at K
                    refine wp_iload (pc := 110) dX12_sheet_110 rfl ?_
                    refine wp_iload (pc := 112) dX12_sheet_112 rfl ?_
                    refine wp_iadd (pc := 114) dX12_sheet_114 ?_
                    refine wp_istore (pc := 115) dX12_sheet_115 (by decide) ?_
                    refine wp_iinc (pc := 117) dX12_sheet_117 rfl (by decide) ?_
                    refine wp_goto (pc := 120) 40 dX12_sheet_120 (by decide) ?_
                    refine wp_ls ?_ (ih (i + 1) (by omega) (by omega) _ _ K O (sA.up (by decide)) upA_eq)
                    repeat' (first | exact LE_0 | refine LE_s rfl ?_ | refine LE_s (I_c (by first | omega | (rw [show ((i + 1 : Nat) : Int) = (i : Int) + 1 from rfl, Int.add_mul, Int.one_mul]; omega))) ?_ | refine LE_n ?_)
end MX_

