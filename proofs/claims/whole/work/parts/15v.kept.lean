/-! the reference: kept, counts, the row, a law -/
section MV_
variable {g : GT} {hp hp0 : Hp} {q N n a b s k p : Nat} {V V2 V3 : Nat → Int} {A A2 A3 : Nat → Int → Int} {rd rl : Value} {i j x v c y z w th o d : Int} {T T2 : Nat → Int → Int} {l t cs tx rw rw2 rt : List Int} {G f F D : Int → Int} {U U2 : List (Nat → Int → Int)} {hs : List (Int × Int)} {ss : List (Int × Int × Int)} {KT : Nat → Option (Nat → Int → Int)} {L L2 : List Nat}
def upK (KT : Nat → Option (Nat → Int → Int)) (k : Nat) (o : Option (Nat → Int → Int)) : Nat → Option (Nat → Int → Int) := fun i => if i = k then o else KT i
theorem MK.put (h : MK V A N KT) (hk : k = 0 ∨ k = 1) (hT : T 8 0 = (N : Int)) (h36 : V2 36 = V 36) (h23 : A2 23 = updI (A 23) (k : Int) 1) (h24 : A2 24 = updI (A 24) (k : Int) (V 36)) (h22 : A2 22 = btw (A 22) (ofs (flat T) ((103 * k : Nat) : Int)) ((103 * k : Nat) : Int) (((103 * k : Nat) : Int) + 103)) : MK V2 A2 N (upK KT k (some T)) := by
  obtain ⟨a1, a2, a3, a4⟩ := h
  have own : ∀ i : Nat, i = k → MK1 V2 A2 N i (some T) := by
    intro i hi
    subst hi
    refine ⟨by rw [h23]; exact updI_eq, fun x z1 z2 => ?_, by rw [h24, updI_eq]; exact a1, by rw [h24, updI_eq, h36]; exact Int.le_refl _, by rw [h24, updI_eq, h36]; exact ⟨fun _ => hT, fun _ => rfl⟩, by rw [hT]; exact Int.le_refl _⟩
    rw [h22]
    unfold btw ofs
    rw [if_pos (by omega)]
    congr 1
    omega
  have oth : ∀ i : Nat, i ≠ k → i < 2 → ∀ o, MK1 V A N i o → MK1 V2 A2 N i o := by
    intro i hi hi2 o ho
    match o, ho with
    | none, ho => show A2 23 _ = 0; rw [h23, updI_ne (by omega)]; exact ho
    | some T', ho =>
      obtain ⟨b1, b2, b3, b4, b5, b6⟩ := ho
      refine ⟨by rw [h23, updI_ne (by omega)]; exact b1, fun x z1 z2 => ?_, by rw [h24, updI_ne (by omega)]; exact b3, by rw [h24, updI_ne (by omega), h36]; exact b4, by rw [h24, updI_ne (by omega), h36]; exact b5, b6⟩
      rw [h22]
      unfold btw
      rw [if_neg (by omega)]
      exact b2 x z1 z2
  refine ⟨by rw [h36]; exact a1, by rw [h36]; exact a2, ?_, ?_⟩
  · unfold upK
    by_cases z : 0 = k
    · rw [if_pos z]; exact own 0 z
    · rw [if_neg z]; exact oth 0 z (by decide) _ a3
  · unfold upK
    by_cases z : 1 = k
    · rw [if_pos z]; exact own 1 z
    · rw [if_neg z]; exact oth 1 z (by decide) _ a4
theorem sp_Ref_keep (hM : MAt hp q th N T U tx rw rt hs ss KT) (hI : TI T N) (rx : InR x) : Sp g MX12_keep (rm 1 0 0) [.ref q, .int (I x)] hp (Eff (.int (B (0 ≤ x ∧ x ≤ 1))) (fun hp2 => MAt hp2 q 0 N T U tx rw rt hs ss (if 0 ≤ x ∧ x ≤ 1 then upK KT x.toNat (some T) else KT) ∧ SO hp hp2 q (q + 25))) := by
  refine Sp_mk rfl (Nat.le_of_ble_eq_true rfl) ?_
  show wp g _ _ _ 0 0 0 [some (.ref q), some (.int (I x))] [] hp
  have O := SO.rf (hp := hp) (lo := q) (hi := q + 25)
  obtain ⟨V, A, rd, K, hth, M⟩ := hM
  have hu := M.ru (q := q)
  have M2 := M
  obtain ⟨m1, mA, mt, mr, mu, mU, mh, ms, mk⟩ := M2
  refine wp_aload_n (pc := 0) dX12_keep_0 rfl ?_
  refine wp_iconst (pc := 1) dX12_keep_1 ?_
  refine wm_put dX12_keep_2 pf_X12_85 K O (by decide) mset_6 rfl rfl (fun hp K O => ?_)
  refine wp_iload_n (pc := 5) dX12_keep_5 rfl ?_
  refine wp_iconst (pc := 6) dX12_keep_6 ?_
  refine wp_iconst (pc := 7) dX12_keep_7 ?_
  refine wp_Sp (pc := 8) dX12_keep_8 cl_X12_95 (sp_Ref_in (by first | assumption | omega | (repeat (first | assumption | exact pv10 | exact pv11 | (apply pv_o; decide; decide) | exact upN_eq | (apply upN_ne; decide) | (apply SV_at; assumption; decide) | exact upA_eq | (apply upA_ne; first | decide | omega) | (apply SA_at; assumption; first | decide | (simp; omega)) | exact rfl))) (by first | assumption | omega | (repeat (first | assumption | exact pv10 | exact pv11 | (apply pv_o; decide; decide) | exact upN_eq | (apply upN_ne; decide) | (apply SV_at; assumption; decide) | exact upA_eq | (apply upA_ne; first | decide | omega) | (apply SA_at; assumption; first | decide | (simp; omega)) | exact rfl))) (by first | assumption | omega | (repeat (first | assumption | exact pv10 | exact pv11 | (apply pv_o; decide; decide) | exact upN_eq | (apply upN_ne; decide) | (apply SV_at; assumption; decide) | exact upA_eq | (apply upA_ne; first | decide | omega) | (apply SA_at; assumption; first | decide | (simp; omega)) | exact rfl)))) rfl rfl (by decide) (Nat.le_of_ble_eq_true rfl) ?_
  first | refine wp_ifb_ne (pc := 11) 16 dX12_keep_11 (by decide) (fun c11 => ?_) (fun c11 => ?_) | refine wp_if_ne (pc := 11) 16 dX12_keep_11 (by decide) (by first | omega | exact TI.i5 (by assumption) | exact TI.i3 (by assumption) | exact TI.i2 (by assumption) | exact TI.i1 (by assumption) | exact TI.i0 (by assumption) | exact TI.i4 (by assumption) | exact TI.i6 (by assumption) | exact TI.i7 (by assumption)) (fun c11 => ?_) (fun c11 => ?_)
  ·
    rw [if_pos c11]
    obtain ⟨k, rfl⟩ := Int.eq_ofNat_of_zero_le c11.1
    rw [Int.toNat_natCast] -- go
    refine wp_aload_n (pc := 16) dX12_keep_16 rfl ?_
    refine wm_get dX12_keep_17 gf_X12_78 K (by rfl) ?_
    refine wp_iload_n (pc := 20) dX12_keep_20 rfl ?_
    refine wp_iconst (pc := 21) dX12_keep_21 ?_
    refine wm_zast (v := 1) dX12_keep_22 K O (by rfl) (by decide) (by decide) (by decide) (by omega) (by omega) rfl rfl rfl (fun hp K O => ?_)
    refine wp_aload_n (pc := 23) dX12_keep_23 rfl ?_
    refine wm_get dX12_keep_24 gf_X12_82 K (by rfl) ?_
    refine wp_iload_n (pc := 27) dX12_keep_27 rfl ?_
    refine wp_aload_n (pc := 28) dX12_keep_28 rfl ?_
    refine wm_gets dX12_keep_29 gf_X12_158 K (by rfl) (by repeat (first | assumption | exact pv10 | exact pv11 | (apply pv_o; decide; decide) | exact upN_eq | (apply upN_ne; decide) | (apply SV_at; assumption; decide) | exact rfl)) ?_
    refine wm_iast dX12_keep_32 K O (by first | rfl | assumption) (by first | decide | omega) (by first | decide | omega) (by decide) (by omega) (by omega) (by repeat (first | assumption | exact upA_eq | (apply upA_ne; first | decide | omega) | (apply SA_at; assumption; first | decide | (simp; omega)) | exact rfl)) rfl (fun hp K O => ?_)
    refine wp_aload_n (pc := 33) dX12_keep_33 rfl ?_
    refine wm_get dX12_keep_34 gf_X12_9 K (by rfl) ?_
    refine wp_aload_n (pc := 37) dX12_keep_37 rfl ?_
    refine wm_get dX12_keep_38 gf_X12_75 K (by rfl) ?_
    refine wp_bipush (pc := 41) (y := 103) dX12_keep_41 (by decide) ?_
    refine wp_iload_n (pc := 43) dX12_keep_43 rfl ?_
    refine wp_imul (pc := 44) dX12_keep_44 ?_
    refine wp_topE (show (103 : Int) * (k : Int) = ((103 * k : Nat) : Int) by omega) ?_
    refine wp_Sn (pc := 45) dX12_keep_45 cl_X12_223 (sp_Ref_layK (k := 103 * k) (a := 1) (b := 22) (f := flat T) K (by rfl) (by decide) (by rfl) (by decide) (by omega) (by decide) (by decide) (by repeat (first | assumption | exact upA_eq | (apply upA_ne; first | decide | omega) | (apply SA_at; assumption; first | decide | (simp; omega)) | exact rfl))) rfl rfl (by decide) (Nat.le_of_ble_eq_true rfl) (fun hp45 e45 => ?_)
    obtain ⟨K, O1⟩ := e45
    replace O := SO.tr O O1
    refine wp_iconst (pc := 48) dX12_keep_48 ?_
    first | exact wp_z1 (pc := 49) dX12_keep_49 rfl (by decide) (by decide) c11 ⟨⟨_, _, _, K, rfl, ⟨m1, mA, mt.tr rfl rfl, mr.tr rfl rfl, mu.tr rfl rfl, mU.tr rfl rfl, mh.tr rfl rfl rfl, ms.tr rfl rfl rfl rfl, mk.put (by omega) hI.men.1 rfl rfl rfl rfl⟩⟩, O⟩ | exact wp_z0 (pc := 49) dX12_keep_49 rfl (by decide) (by decide) c11 ⟨⟨_, _, _, K, rfl, ⟨m1, mA, mt.tr rfl rfl, mr.tr rfl rfl, mu.tr rfl rfl, mU.tr rfl rfl, mh.tr rfl rfl rfl, ms.tr rfl rfl rfl rfl, mk.put (by omega) hI.men.1 rfl rfl rfl rfl⟩⟩, O⟩ | exact wp_zb (pc := 49) dX12_keep_49 rfl (by decide) (by decide) Iff.rfl ⟨⟨_, _, _, K, rfl, ⟨m1, mA, mt.tr rfl rfl, mr.tr rfl rfl, mu.tr rfl rfl, mU.tr rfl rfl, mh.tr rfl rfl rfl, ms.tr rfl rfl rfl rfl, mk.put (by omega) hI.men.1 rfl rfl rfl rfl⟩⟩, O⟩
  ·
    rw [if_neg c11] -- go
    refine wp_iconst (pc := 14) dX12_keep_14 ?_
    first | exact wp_z1 (pc := 15) dX12_keep_15 rfl (by decide) (by decide) c11 ⟨⟨_, _, _, K, (by repeat (first | assumption | exact pv10 | exact pv11 | (apply pv_o; decide; decide) | exact upN_eq | (apply upN_ne; decide) | (apply SV_at; assumption; decide) | exact rfl)), M.qu (by repeat (first | exact SV.rf | assumption | (apply SV.up1; decide) | (apply SV.tr2; assumption; decide))) (by repeat (first | exact SA.rf | assumption | (apply SA.up1; decide) | (apply SA.tr2; assumption; decide))) (by first | assumption | exact Mrw.z (by repeat (first | assumption | exact pv10 | exact pv11 | (apply pv_o; decide; decide) | exact upN_eq | (apply upN_ne; decide) | (apply SV_at; assumption; decide) | exact rfl)) | exact Mrw.tr (by assumption) (by repeat (first | assumption | exact pv10 | exact pv11 | (apply pv_o; decide; decide) | exact upN_eq | (apply upN_ne; decide) | (apply SV_at; assumption; decide) | exact rfl)) (by repeat (first | assumption | exact upA_eq | (apply upA_ne; first | decide | omega) | (apply SA_at; assumption; first | decide | (simp; omega)) | exact rfl)))⟩, O⟩ | exact wp_z0 (pc := 15) dX12_keep_15 rfl (by decide) (by decide) c11 ⟨⟨_, _, _, K, (by repeat (first | assumption | exact pv10 | exact pv11 | (apply pv_o; decide; decide) | exact upN_eq | (apply upN_ne; decide) | (apply SV_at; assumption; decide) | exact rfl)), M.qu (by repeat (first | exact SV.rf | assumption | (apply SV.up1; decide) | (apply SV.tr2; assumption; decide))) (by repeat (first | exact SA.rf | assumption | (apply SA.up1; decide) | (apply SA.tr2; assumption; decide))) (by first | assumption | exact Mrw.z (by repeat (first | assumption | exact pv10 | exact pv11 | (apply pv_o; decide; decide) | exact upN_eq | (apply upN_ne; decide) | (apply SV_at; assumption; decide) | exact rfl)) | exact Mrw.tr (by assumption) (by repeat (first | assumption | exact pv10 | exact pv11 | (apply pv_o; decide; decide) | exact upN_eq | (apply upN_ne; decide) | (apply SV_at; assumption; decide) | exact rfl)) (by repeat (first | assumption | exact upA_eq | (apply upA_ne; first | decide | omega) | (apply SA_at; assumption; first | decide | (simp; omega)) | exact rfl)))⟩, O⟩ | exact wp_zb (pc := 15) dX12_keep_15 rfl (by decide) (by decide) Iff.rfl ⟨⟨_, _, _, K, (by repeat (first | assumption | exact pv10 | exact pv11 | (apply pv_o; decide; decide) | exact upN_eq | (apply upN_ne; decide) | (apply SV_at; assumption; decide) | exact rfl)), M.qu (by repeat (first | exact SV.rf | assumption | (apply SV.up1; decide) | (apply SV.tr2; assumption; decide))) (by repeat (first | exact SA.rf | assumption | (apply SA.up1; decide) | (apply SA.tr2; assumption; decide))) (by first | assumption | exact Mrw.z (by repeat (first | assumption | exact pv10 | exact pv11 | (apply pv_o; decide; decide) | exact upN_eq | (apply upN_ne; decide) | (apply SV_at; assumption; decide) | exact rfl)) | exact Mrw.tr (by assumption) (by repeat (first | assumption | exact pv10 | exact pv11 | (apply pv_o; decide; decide) | exact upN_eq | (apply upN_ne; decide) | (apply SV_at; assumption; decide) | exact rfl)) (by repeat (first | assumption | exact upA_eq | (apply upA_ne; first | decide | omega) | (apply SA_at; assumption; first | decide | (simp; omega)) | exact rfl)))⟩, O⟩
theorem lp_Ref_again (hk : k < 2) (hF : ∀ x : Int, 0 ≤ x → x < 103 → A 22 (103 * (k : Int) + x) = f x) {Q : Option Value → Hp → Prop} (Kn : ∀ hp3, ModAt hp3 q V (upA A 1 f) rd rl → SO hp hp3 q (q + 25) → wp g MX12_again (rm 1 0 0) Q 0 0 69 [some (.ref q), none, none] [] hp3) : ∀ (m i : Nat), 103 < i + m → i ≤ 103 → ∀ (hp2 : Hp) (F : Int → Int) (K : ModAt hp2 q V (upA A 1 F) rd rl) (O : SO hp hp2 q (q + 25)) (hF2 : ∀ x : Int, 0 ≤ x → x < i → F x = f x), wp g MX12_again (rm 1 0 0) Q 0 0 40 [some (.ref q), some (.int (I (k : Int))), some (.int (I (i : Int)))] [] hp2 := by
  intro m
  induction m with
  | zero => intro i h1 h2; exact absurd h1 (by omega)
  | succ m ih =>
    intro i h1 h2 hp2 F K O hF2
    refine wp_iload_n (pc := 40) dX12_again_40 rfl ?_
    refine wp_bipush (pc := 41) (y := 103) dX12_again_41 (by decide) ?_
    refine wp_icmp_ge (pc := 43) 69 dX12_again_43 (by decide) (by first | omega | exact TI.i5 (by assumption) | exact TI.i3 (by assumption) | exact TI.i2 (by assumption) | exact TI.i1 (by assumption) | exact TI.i0 (by assumption) | exact TI.i4 (by assumption) | exact TI.i6 (by assumption) | exact TI.i7 (by assumption)) (by first | omega | exact TI.i5 (by assumption) | exact TI.i3 (by assumption) | exact TI.i2 (by assumption) | exact TI.i1 (by assumption) | exact TI.i0 (by assumption) | exact TI.i4 (by assumption) | exact TI.i6 (by assumption) | exact TI.i7 (by assumption)) (fun c43 => ?_) (fun c43 => ?_)
    ·
      have e : i = 103 := by omega
      subst e
      refine wm_re (j := 1) (f2 := f) K O rfl (by decide) (by decide) (fun x z1 z2 => by rw [upA_eq]; exact hF2 x z1 z2) (fun hp3 K3 O3 => ?_)
      rw [upA_upA] at K3
      refine wp_ls ?_ (Kn hp3 K3 O3)
      repeat' (first | exact LE_0 | refine LE_s rfl ?_ | refine LE_s (I_c (by first | omega | (simp only [sm]; omega))) ?_ | refine LE_s (J_c (by first | omega | exact Int.pow_succ _ _ | exact (Int.pow_succ _ _).symm | exact (Int.pow_zero _).symm | (simp only [sm]; omega))) ?_ | refine LE_n ?_)
    ·
      refine wp_aload_n (pc := 46) dX12_again_46 rfl ?_
      refine wm_get dX12_again_47 gf_X12_9 K (by rfl) ?_
      refine wp_iload_n (pc := 50) dX12_again_50 rfl ?_
      refine wp_aload_n (pc := 51) dX12_again_51 rfl ?_
      refine wm_get dX12_again_52 gf_X12_75 K (by rfl) ?_
      refine wp_bipush (pc := 55) (y := 103) dX12_again_55 (by decide) ?_
      refine wp_iload_n (pc := 57) dX12_again_57 rfl ?_
      refine wp_imul (pc := 58) dX12_again_58 ?_
      refine wp_iload_n (pc := 59) dX12_again_59 rfl ?_
      refine wp_iadd (pc := 60) dX12_again_60 ?_
      refine wm_iald dX12_again_61 K (by first | rfl | assumption) (by first | decide | omega) (by first | decide | omega) (by decide) (by omega) (by omega) (by repeat (first | assumption | exact upA_eq | (apply upA_ne; first | decide | omega) | (apply SA_at; assumption; first | decide | (simp; omega)) | exact rfl)) (hF (i : Int) (by omega) (by omega)) ?_
      refine wm_iast dX12_again_62 K O (by first | rfl | assumption) (by first | decide | omega) (by first | decide | omega) (by decide) (by omega) (by omega) (by repeat (first | assumption | exact upA_eq | (apply upA_ne; first | decide | omega) | (apply SA_at; assumption; first | decide | (simp; omega)) | exact rfl)) rfl (fun hp K O => ?_)
      rw [upA_upA] at K
      refine wp_iinc (pc := 63) dX12_again_63 rfl (by decide) ?_
      refine wp_goto (pc := 66) 40 dX12_again_66 (by decide) ?_
      refine wp_ls ?_ (ih (i + 1) (by omega) (by omega) _ _ K O (fun x z1 z2 => ?_))
      · repeat' (first | exact LE_0 | refine LE_s rfl ?_ | refine LE_s (I_c (by first | omega | (simp only [sm]; omega))) ?_ | refine LE_s (J_c (by first | omega | exact Int.pow_succ _ _ | exact (Int.pow_succ _ _).symm | exact (Int.pow_zero _).symm | (simp only [sm]; omega))) ?_ | refine LE_n ?_)
      · by_cases z : x = (i : Int)
        · rw [z, updI_eq]
        · rw [updI_ne z]; exact hF2 x z1 (by omega)
/-- can what was kept as x come back: the town then -/
def agT (KT : Nat → Option (Nat → Int → Int)) (N : Nat) (x : Int) : Option (Nat → Int → Int) := if 0 ≤ x ∧ x ≤ 1 then (match KT x.toNat with | none => none | some T => if T 8 0 = (N : Int) then some T else none) else none
theorem MK.at (h : MK V A N KT) (hk : k < 2) : MK1 V A N k (KT k) := by
  have : k = 0 ∨ k = 1 := by omega
  rcases this with rfl | rfl
  · exact h.2.2.1
  · exact h.2.2.2
theorem sp_Ref_again1 (hM : MAt hp q th N T U tx rw rt hs ss KT) (rx : InR x) (hx : ¬ (0 ≤ x ∧ x ≤ 1)) : Sp g MX12_again (rm 1 0 0) [.ref q, .int (I x)] hp (Eff (.int (B False)) (fun hp2 => MAt hp2 q 0 N T U tx rw rt hs ss KT ∧ SO hp hp2 q (q + 25))) := by
  refine Sp_mk rfl (Nat.le_of_ble_eq_true rfl) ?_
  show wp g _ _ _ 0 0 0 [some (.ref q), some (.int (I x)), none] [] hp
  have O := SO.rf (hp := hp) (lo := q) (hi := q + 25)
  obtain ⟨V, A, rd, K, hth, M⟩ := hM
  have hu := M.ru (q := q)
  have M2 := M
  obtain ⟨m1, mA, mt, mr, mu, mU, mh, ms, mk⟩ := M2
  refine wp_aload_n (pc := 0) dX12_again_0 rfl ?_
  refine wp_iconst (pc := 1) dX12_again_1 ?_
  refine wm_put dX12_again_2 pf_X12_85 K O (by decide) mset_6 rfl rfl (fun hp K O => ?_)
  refine wp_iload_n (pc := 5) dX12_again_5 rfl ?_
  refine wp_iconst (pc := 6) dX12_again_6 ?_
  refine wp_iconst (pc := 7) dX12_again_7 ?_
  refine wp_Sp (pc := 8) dX12_again_8 cl_X12_95 (sp_Ref_in (by first | assumption | omega | (repeat (first | assumption | exact pv10 | exact pv11 | (apply pv_o; decide; decide) | exact upN_eq | (apply upN_ne; decide) | (apply SV_at; assumption; decide) | exact upA_eq | (apply upA_ne; first | decide | omega) | (apply SA_at; assumption; first | decide | (simp; omega)) | exact rfl))) (by first | assumption | omega | (repeat (first | assumption | exact pv10 | exact pv11 | (apply pv_o; decide; decide) | exact upN_eq | (apply upN_ne; decide) | (apply SV_at; assumption; decide) | exact upA_eq | (apply upA_ne; first | decide | omega) | (apply SA_at; assumption; first | decide | (simp; omega)) | exact rfl))) (by first | assumption | omega | (repeat (first | assumption | exact pv10 | exact pv11 | (apply pv_o; decide; decide) | exact upN_eq | (apply upN_ne; decide) | (apply SV_at; assumption; decide) | exact upA_eq | (apply upA_ne; first | decide | omega) | (apply SA_at; assumption; first | decide | (simp; omega)) | exact rfl)))) rfl rfl (by decide) (Nat.le_of_ble_eq_true rfl) ?_
  first | refine wp_ifb_eq (pc := 11) 36 dX12_again_11 (by decide) (fun c11 => ?_) (fun c11 => ?_) | refine wp_if_eq (pc := 11) 36 dX12_again_11 (by decide) (by first | omega | exact TI.i5 (by assumption) | exact TI.i3 (by assumption) | exact TI.i2 (by assumption) | exact TI.i1 (by assumption) | exact TI.i0 (by assumption) | exact TI.i4 (by assumption) | exact TI.i6 (by assumption) | exact TI.i7 (by assumption)) (fun c11 => ?_) (fun c11 => ?_)
  ·
    refine wp_iconst (pc := 36) dX12_again_36 ?_
    first | exact wp_z1 (pc := 37) dX12_again_37 rfl (by decide) (by decide) (fun z => z) ⟨⟨_, _, _, K, (by repeat (first | assumption | exact pv10 | exact pv11 | (apply pv_o; decide; decide) | exact upN_eq | (apply upN_ne; decide) | (apply SV_at; assumption; decide) | exact rfl)), M.qu (by repeat (first | exact SV.rf | assumption | (apply SV.up1; decide) | (apply SV.tr2; assumption; decide))) (by repeat (first | exact SA.rf | assumption | (apply SA.up1; decide) | (apply SA.tr2; assumption; decide))) (by first | assumption | exact Mrw.z (by repeat (first | assumption | exact pv10 | exact pv11 | (apply pv_o; decide; decide) | exact upN_eq | (apply upN_ne; decide) | (apply SV_at; assumption; decide) | exact rfl)) | exact Mrw.tr (by assumption) (by repeat (first | assumption | exact pv10 | exact pv11 | (apply pv_o; decide; decide) | exact upN_eq | (apply upN_ne; decide) | (apply SV_at; assumption; decide) | exact rfl)) (by repeat (first | assumption | exact upA_eq | (apply upA_ne; first | decide | omega) | (apply SA_at; assumption; first | decide | (simp; omega)) | exact rfl)))⟩, O⟩ | exact wp_z0 (pc := 37) dX12_again_37 rfl (by decide) (by decide) (fun z => z) ⟨⟨_, _, _, K, (by repeat (first | assumption | exact pv10 | exact pv11 | (apply pv_o; decide; decide) | exact upN_eq | (apply upN_ne; decide) | (apply SV_at; assumption; decide) | exact rfl)), M.qu (by repeat (first | exact SV.rf | assumption | (apply SV.up1; decide) | (apply SV.tr2; assumption; decide))) (by repeat (first | exact SA.rf | assumption | (apply SA.up1; decide) | (apply SA.tr2; assumption; decide))) (by first | assumption | exact Mrw.z (by repeat (first | assumption | exact pv10 | exact pv11 | (apply pv_o; decide; decide) | exact upN_eq | (apply upN_ne; decide) | (apply SV_at; assumption; decide) | exact rfl)) | exact Mrw.tr (by assumption) (by repeat (first | assumption | exact pv10 | exact pv11 | (apply pv_o; decide; decide) | exact upN_eq | (apply upN_ne; decide) | (apply SV_at; assumption; decide) | exact rfl)) (by repeat (first | assumption | exact upA_eq | (apply upA_ne; first | decide | omega) | (apply SA_at; assumption; first | decide | (simp; omega)) | exact rfl)))⟩, O⟩ | exact wp_zb (pc := 37) dX12_again_37 rfl (by decide) (by decide) Iff.rfl ⟨⟨_, _, _, K, (by repeat (first | assumption | exact pv10 | exact pv11 | (apply pv_o; decide; decide) | exact upN_eq | (apply upN_ne; decide) | (apply SV_at; assumption; decide) | exact rfl)), M.qu (by repeat (first | exact SV.rf | assumption | (apply SV.up1; decide) | (apply SV.tr2; assumption; decide))) (by repeat (first | exact SA.rf | assumption | (apply SA.up1; decide) | (apply SA.tr2; assumption; decide))) (by first | assumption | exact Mrw.z (by repeat (first | assumption | exact pv10 | exact pv11 | (apply pv_o; decide; decide) | exact upN_eq | (apply upN_ne; decide) | (apply SV_at; assumption; decide) | exact rfl)) | exact Mrw.tr (by assumption) (by repeat (first | assumption | exact pv10 | exact pv11 | (apply pv_o; decide; decide) | exact upN_eq | (apply upN_ne; decide) | (apply SV_at; assumption; decide) | exact rfl)) (by repeat (first | assumption | exact upA_eq | (apply upA_ne; first | decide | omega) | (apply SA_at; assumption; first | decide | (simp; omega)) | exact rfl)))⟩, O⟩
  ·
    exact absurd c11 hx
theorem sp_Ref_again2 (hM : MAt hp q th N T U tx rw rt hs ss KT) (hk : k < 2) (hkt : KT k = none) : Sp g MX12_again (rm 1 0 0) [.ref q, .int (I (k : Int))] hp (Eff (.int (B False)) (fun hp2 => MAt hp2 q 0 N T U tx rw rt hs ss KT ∧ SO hp hp2 q (q + 25))) := by
  refine Sp_mk rfl (Nat.le_of_ble_eq_true rfl) ?_
  show wp g _ _ _ 0 0 0 [some (.ref q), some (.int (I (k : Int))), none] [] hp
  have O := SO.rf (hp := hp) (lo := q) (hi := q + 25)
  obtain ⟨V, A, rd, K, hth, M⟩ := hM
  have hu := M.ru (q := q)
  have M2 := M
  obtain ⟨m1, mA, mt, mr, mu, mU, mh, ms, mk⟩ := M2
  have hmk := mk.at (k := k) (by omega)
  rw [hkt] at hmk
  have h23 : A 23 (k : Int) = 0 := hmk
  refine wp_aload_n (pc := 0) dX12_again_0 rfl ?_
  refine wp_iconst (pc := 1) dX12_again_1 ?_
  refine wm_put dX12_again_2 pf_X12_85 K O (by decide) mset_6 rfl rfl (fun hp K O => ?_)
  refine wp_iload_n (pc := 5) dX12_again_5 rfl ?_
  refine wp_iconst (pc := 6) dX12_again_6 ?_
  refine wp_iconst (pc := 7) dX12_again_7 ?_
  refine wp_Sp (pc := 8) dX12_again_8 cl_X12_95 (sp_Ref_in (by first | assumption | omega | (repeat (first | assumption | exact pv10 | exact pv11 | (apply pv_o; decide; decide) | exact upN_eq | (apply upN_ne; decide) | (apply SV_at; assumption; decide) | exact upA_eq | (apply upA_ne; first | decide | omega) | (apply SA_at; assumption; first | decide | (simp; omega)) | exact rfl))) (by first | assumption | omega | (repeat (first | assumption | exact pv10 | exact pv11 | (apply pv_o; decide; decide) | exact upN_eq | (apply upN_ne; decide) | (apply SV_at; assumption; decide) | exact upA_eq | (apply upA_ne; first | decide | omega) | (apply SA_at; assumption; first | decide | (simp; omega)) | exact rfl))) (by first | assumption | omega | (repeat (first | assumption | exact pv10 | exact pv11 | (apply pv_o; decide; decide) | exact upN_eq | (apply upN_ne; decide) | (apply SV_at; assumption; decide) | exact upA_eq | (apply upA_ne; first | decide | omega) | (apply SA_at; assumption; first | decide | (simp; omega)) | exact rfl)))) rfl rfl (by decide) (Nat.le_of_ble_eq_true rfl) ?_
  first | refine wp_ifb_eq (pc := 11) 36 dX12_again_11 (by decide) (fun c11 => ?_) (fun c11 => ?_) | refine wp_if_eq (pc := 11) 36 dX12_again_11 (by decide) (by first | omega | exact TI.i5 (by assumption) | exact TI.i3 (by assumption) | exact TI.i2 (by assumption) | exact TI.i1 (by assumption) | exact TI.i0 (by assumption) | exact TI.i4 (by assumption) | exact TI.i6 (by assumption) | exact TI.i7 (by assumption)) (fun c11 => ?_) (fun c11 => ?_)
  ·
    exact absurd (by omega) c11
  ·
    refine wp_aload_n (pc := 14) dX12_again_14 rfl ?_
    refine wm_get dX12_again_15 gf_X12_78 K (by rfl) ?_
    refine wp_iload_n (pc := 18) dX12_again_18 rfl ?_
    first | refine wm_bald dX12_again_19 K (by first | rfl | assumption) (by first | decide | omega) (by first | decide | omega) (by decide) (by omega) (by omega) (by repeat (first | assumption | exact upA_eq | (apply upA_ne; first | decide | omega) | (apply SA_at; assumption; first | decide | (simp; omega)) | exact rfl)) h23 ?_ | refine wm_zald dX12_again_19 K (by first | rfl | assumption) (by first | decide | omega) (by first | decide | omega) (by decide) (by omega) (by omega) (by repeat (first | assumption | exact upA_eq | (apply upA_ne; first | decide | omega) | (apply SA_at; assumption; first | decide | (simp; omega)) | exact rfl)) h23 ?_
    first | refine wp_ifb_eq (pc := 20) 36 dX12_again_20 (by decide) (fun c20 => ?_) (fun c20 => ?_) | refine wp_if_eq (pc := 20) 36 dX12_again_20 (by decide) (by first | omega | exact TI.i5 (by assumption) | exact TI.i3 (by assumption) | exact TI.i2 (by assumption) | exact TI.i1 (by assumption) | exact TI.i0 (by assumption) | exact TI.i4 (by assumption) | exact TI.i6 (by assumption) | exact TI.i7 (by assumption)) (fun c20 => ?_) (fun c20 => ?_)
    ·
      refine wp_iconst (pc := 36) dX12_again_36 ?_
      first | exact wp_z1 (pc := 37) dX12_again_37 rfl (by decide) (by decide) (fun z => z) ⟨⟨_, _, _, K, (by repeat (first | assumption | exact pv10 | exact pv11 | (apply pv_o; decide; decide) | exact upN_eq | (apply upN_ne; decide) | (apply SV_at; assumption; decide) | exact rfl)), M.qu (by repeat (first | exact SV.rf | assumption | (apply SV.up1; decide) | (apply SV.tr2; assumption; decide))) (by repeat (first | exact SA.rf | assumption | (apply SA.up1; decide) | (apply SA.tr2; assumption; decide))) (by first | assumption | exact Mrw.z (by repeat (first | assumption | exact pv10 | exact pv11 | (apply pv_o; decide; decide) | exact upN_eq | (apply upN_ne; decide) | (apply SV_at; assumption; decide) | exact rfl)) | exact Mrw.tr (by assumption) (by repeat (first | assumption | exact pv10 | exact pv11 | (apply pv_o; decide; decide) | exact upN_eq | (apply upN_ne; decide) | (apply SV_at; assumption; decide) | exact rfl)) (by repeat (first | assumption | exact upA_eq | (apply upA_ne; first | decide | omega) | (apply SA_at; assumption; first | decide | (simp; omega)) | exact rfl)))⟩, O⟩ | exact wp_z0 (pc := 37) dX12_again_37 rfl (by decide) (by decide) (fun z => z) ⟨⟨_, _, _, K, (by repeat (first | assumption | exact pv10 | exact pv11 | (apply pv_o; decide; decide) | exact upN_eq | (apply upN_ne; decide) | (apply SV_at; assumption; decide) | exact rfl)), M.qu (by repeat (first | exact SV.rf | assumption | (apply SV.up1; decide) | (apply SV.tr2; assumption; decide))) (by repeat (first | exact SA.rf | assumption | (apply SA.up1; decide) | (apply SA.tr2; assumption; decide))) (by first | assumption | exact Mrw.z (by repeat (first | assumption | exact pv10 | exact pv11 | (apply pv_o; decide; decide) | exact upN_eq | (apply upN_ne; decide) | (apply SV_at; assumption; decide) | exact rfl)) | exact Mrw.tr (by assumption) (by repeat (first | assumption | exact pv10 | exact pv11 | (apply pv_o; decide; decide) | exact upN_eq | (apply upN_ne; decide) | (apply SV_at; assumption; decide) | exact rfl)) (by repeat (first | assumption | exact upA_eq | (apply upA_ne; first | decide | omega) | (apply SA_at; assumption; first | decide | (simp; omega)) | exact rfl)))⟩, O⟩ | exact wp_zb (pc := 37) dX12_again_37 rfl (by decide) (by decide) Iff.rfl ⟨⟨_, _, _, K, (by repeat (first | assumption | exact pv10 | exact pv11 | (apply pv_o; decide; decide) | exact upN_eq | (apply upN_ne; decide) | (apply SV_at; assumption; decide) | exact rfl)), M.qu (by repeat (first | exact SV.rf | assumption | (apply SV.up1; decide) | (apply SV.tr2; assumption; decide))) (by repeat (first | exact SA.rf | assumption | (apply SA.up1; decide) | (apply SA.tr2; assumption; decide))) (by first | assumption | exact Mrw.z (by repeat (first | assumption | exact pv10 | exact pv11 | (apply pv_o; decide; decide) | exact upN_eq | (apply upN_ne; decide) | (apply SV_at; assumption; decide) | exact rfl)) | exact Mrw.tr (by assumption) (by repeat (first | assumption | exact pv10 | exact pv11 | (apply pv_o; decide; decide) | exact upN_eq | (apply upN_ne; decide) | (apply SV_at; assumption; decide) | exact rfl)) (by repeat (first | assumption | exact upA_eq | (apply upA_ne; first | decide | omega) | (apply SA_at; assumption; first | decide | (simp; omega)) | exact rfl)))⟩, O⟩
    ·
      exact absurd rfl c20
theorem sp_Ref_again3 (hM : MAt hp q th N T U tx rw rt hs ss KT) (hI : TI T N) (hk : k < 2) (hkt : KT k = some T2) (h8 : ¬ T2 8 0 = (N : Int)) : Sp g MX12_again (rm 1 0 0) [.ref q, .int (I (k : Int))] hp (Eff (.int (B False)) (fun hp2 => MAt hp2 q 0 N T U tx rw rt hs ss KT ∧ SO hp hp2 q (q + 25))) := by
  have hN := hI.men.2
  refine Sp_mk rfl (Nat.le_of_ble_eq_true rfl) ?_
  show wp g _ _ _ 0 0 0 [some (.ref q), some (.int (I (k : Int))), none] [] hp
  have O := SO.rf (hp := hp) (lo := q) (hi := q + 25)
  obtain ⟨V, A, rd, K, hth, M⟩ := hM
  have hu := M.ru (q := q)
  have M2 := M
  obtain ⟨m1, mA, mt, mr, mu, mU, mh, ms, mk⟩ := M2
  have hk36 := mk.1
  have hk36b := mk.2.1
  have hmk := mk.at (k := k) (by omega)
  rw [hkt] at hmk
  obtain ⟨h23, h22, h24a, h24b, h24c, h24d⟩ := hmk
  refine wp_aload_n (pc := 0) dX12_again_0 rfl ?_
  refine wp_iconst (pc := 1) dX12_again_1 ?_
  refine wm_put dX12_again_2 pf_X12_85 K O (by decide) mset_6 rfl rfl (fun hp K O => ?_)
  refine wp_iload_n (pc := 5) dX12_again_5 rfl ?_
  refine wp_iconst (pc := 6) dX12_again_6 ?_
  refine wp_iconst (pc := 7) dX12_again_7 ?_
  refine wp_Sp (pc := 8) dX12_again_8 cl_X12_95 (sp_Ref_in (by first | assumption | omega | (repeat (first | assumption | exact pv10 | exact pv11 | (apply pv_o; decide; decide) | exact upN_eq | (apply upN_ne; decide) | (apply SV_at; assumption; decide) | exact upA_eq | (apply upA_ne; first | decide | omega) | (apply SA_at; assumption; first | decide | (simp; omega)) | exact rfl))) (by first | assumption | omega | (repeat (first | assumption | exact pv10 | exact pv11 | (apply pv_o; decide; decide) | exact upN_eq | (apply upN_ne; decide) | (apply SV_at; assumption; decide) | exact upA_eq | (apply upA_ne; first | decide | omega) | (apply SA_at; assumption; first | decide | (simp; omega)) | exact rfl))) (by first | assumption | omega | (repeat (first | assumption | exact pv10 | exact pv11 | (apply pv_o; decide; decide) | exact upN_eq | (apply upN_ne; decide) | (apply SV_at; assumption; decide) | exact upA_eq | (apply upA_ne; first | decide | omega) | (apply SA_at; assumption; first | decide | (simp; omega)) | exact rfl)))) rfl rfl (by decide) (Nat.le_of_ble_eq_true rfl) ?_
  first | refine wp_ifb_eq (pc := 11) 36 dX12_again_11 (by decide) (fun c11 => ?_) (fun c11 => ?_) | refine wp_if_eq (pc := 11) 36 dX12_again_11 (by decide) (by first | omega | exact TI.i5 (by assumption) | exact TI.i3 (by assumption) | exact TI.i2 (by assumption) | exact TI.i1 (by assumption) | exact TI.i0 (by assumption) | exact TI.i4 (by assumption) | exact TI.i6 (by assumption) | exact TI.i7 (by assumption)) (fun c11 => ?_) (fun c11 => ?_)
  ·
    exact absurd (by omega) c11
  ·
    refine wp_aload_n (pc := 14) dX12_again_14 rfl ?_
    refine wm_get dX12_again_15 gf_X12_78 K (by rfl) ?_
    refine wp_iload_n (pc := 18) dX12_again_18 rfl ?_
    first | refine wm_bald dX12_again_19 K (by first | rfl | assumption) (by first | decide | omega) (by first | decide | omega) (by decide) (by omega) (by omega) (by repeat (first | assumption | exact upA_eq | (apply upA_ne; first | decide | omega) | (apply SA_at; assumption; first | decide | (simp; omega)) | exact rfl)) h23 ?_ | refine wm_zald dX12_again_19 K (by first | rfl | assumption) (by first | decide | omega) (by first | decide | omega) (by decide) (by omega) (by omega) (by repeat (first | assumption | exact upA_eq | (apply upA_ne; first | decide | omega) | (apply SA_at; assumption; first | decide | (simp; omega)) | exact rfl)) h23 ?_
    first | refine wp_ifb_eq (pc := 20) 36 dX12_again_20 (by decide) (fun c20 => ?_) (fun c20 => ?_) | refine wp_if_eq (pc := 20) 36 dX12_again_20 (by decide) (by first | omega | exact TI.i5 (by assumption) | exact TI.i3 (by assumption) | exact TI.i2 (by assumption) | exact TI.i1 (by assumption) | exact TI.i0 (by assumption) | exact TI.i4 (by assumption) | exact TI.i6 (by assumption) | exact TI.i7 (by assumption)) (fun c20 => ?_) (fun c20 => ?_)
    ·
      exact absurd c20 (by decide)
    ·
      refine wp_aload_n (pc := 23) dX12_again_23 rfl ?_
      refine wm_get dX12_again_24 gf_X12_82 K (by rfl) ?_
      refine wp_iload_n (pc := 27) dX12_again_27 rfl ?_
      refine wm_iald dX12_again_28 K (by first | rfl | assumption) (by first | decide | omega) (by first | decide | omega) (by decide) (by omega) (by omega) (by repeat (first | assumption | exact upA_eq | (apply upA_ne; first | decide | omega) | (apply SA_at; assumption; first | decide | (simp; omega)) | exact rfl)) (by first | exact flat5 (by omega) (by omega) | exact flat3 (by omega) (by omega) | exact flat2 (by omega) (by omega) | exact flat6 (by omega) (by omega) | exact flat4 (by omega) (by omega) | exact flat1 (by omega) (by omega) | exact flat0 (by omega) (by omega) | exact flat7 | exact rfl) ?_
      refine wp_aload_n (pc := 29) dX12_again_29 rfl ?_
      refine wm_gets dX12_again_30 gf_X12_158 K (by rfl) (by repeat (first | assumption | exact pv10 | exact pv11 | (apply pv_o; decide; decide) | exact upN_eq | (apply upN_ne; decide) | (apply SV_at; assumption; decide) | exact rfl)) ?_
      refine wp_icmp_eq (pc := 33) 38 dX12_again_33 (by decide) (by first | omega | exact TI.i5 (by assumption) | exact TI.i3 (by assumption) | exact TI.i2 (by assumption) | exact TI.i1 (by assumption) | exact TI.i0 (by assumption) | exact TI.i4 (by assumption) | exact TI.i6 (by assumption) | exact TI.i7 (by assumption)) (by first | omega | exact TI.i5 (by assumption) | exact TI.i3 (by assumption) | exact TI.i2 (by assumption) | exact TI.i1 (by assumption) | exact TI.i0 (by assumption) | exact TI.i4 (by assumption) | exact TI.i6 (by assumption) | exact TI.i7 (by assumption)) (fun c33 => ?_) (fun c33 => ?_)
      ·
        exact absurd (h24c.mp c33) h8
      ·
        refine wp_iconst (pc := 36) dX12_again_36 ?_
        first | exact wp_z1 (pc := 37) dX12_again_37 rfl (by decide) (by decide) (fun z => z) ⟨⟨_, _, _, K, (by repeat (first | assumption | exact pv10 | exact pv11 | (apply pv_o; decide; decide) | exact upN_eq | (apply upN_ne; decide) | (apply SV_at; assumption; decide) | exact rfl)), M.qu (by repeat (first | exact SV.rf | assumption | (apply SV.up1; decide) | (apply SV.tr2; assumption; decide))) (by repeat (first | exact SA.rf | assumption | (apply SA.up1; decide) | (apply SA.tr2; assumption; decide))) (by first | assumption | exact Mrw.z (by repeat (first | assumption | exact pv10 | exact pv11 | (apply pv_o; decide; decide) | exact upN_eq | (apply upN_ne; decide) | (apply SV_at; assumption; decide) | exact rfl)) | exact Mrw.tr (by assumption) (by repeat (first | assumption | exact pv10 | exact pv11 | (apply pv_o; decide; decide) | exact upN_eq | (apply upN_ne; decide) | (apply SV_at; assumption; decide) | exact rfl)) (by repeat (first | assumption | exact upA_eq | (apply upA_ne; first | decide | omega) | (apply SA_at; assumption; first | decide | (simp; omega)) | exact rfl)))⟩, O⟩ | exact wp_z0 (pc := 37) dX12_again_37 rfl (by decide) (by decide) (fun z => z) ⟨⟨_, _, _, K, (by repeat (first | assumption | exact pv10 | exact pv11 | (apply pv_o; decide; decide) | exact upN_eq | (apply upN_ne; decide) | (apply SV_at; assumption; decide) | exact rfl)), M.qu (by repeat (first | exact SV.rf | assumption | (apply SV.up1; decide) | (apply SV.tr2; assumption; decide))) (by repeat (first | exact SA.rf | assumption | (apply SA.up1; decide) | (apply SA.tr2; assumption; decide))) (by first | assumption | exact Mrw.z (by repeat (first | assumption | exact pv10 | exact pv11 | (apply pv_o; decide; decide) | exact upN_eq | (apply upN_ne; decide) | (apply SV_at; assumption; decide) | exact rfl)) | exact Mrw.tr (by assumption) (by repeat (first | assumption | exact pv10 | exact pv11 | (apply pv_o; decide; decide) | exact upN_eq | (apply upN_ne; decide) | (apply SV_at; assumption; decide) | exact rfl)) (by repeat (first | assumption | exact upA_eq | (apply upA_ne; first | decide | omega) | (apply SA_at; assumption; first | decide | (simp; omega)) | exact rfl)))⟩, O⟩ | exact wp_zb (pc := 37) dX12_again_37 rfl (by decide) (by decide) Iff.rfl ⟨⟨_, _, _, K, (by repeat (first | assumption | exact pv10 | exact pv11 | (apply pv_o; decide; decide) | exact upN_eq | (apply upN_ne; decide) | (apply SV_at; assumption; decide) | exact rfl)), M.qu (by repeat (first | exact SV.rf | assumption | (apply SV.up1; decide) | (apply SV.tr2; assumption; decide))) (by repeat (first | exact SA.rf | assumption | (apply SA.up1; decide) | (apply SA.tr2; assumption; decide))) (by first | assumption | exact Mrw.z (by repeat (first | assumption | exact pv10 | exact pv11 | (apply pv_o; decide; decide) | exact upN_eq | (apply upN_ne; decide) | (apply SV_at; assumption; decide) | exact rfl)) | exact Mrw.tr (by assumption) (by repeat (first | assumption | exact pv10 | exact pv11 | (apply pv_o; decide; decide) | exact upN_eq | (apply upN_ne; decide) | (apply SV_at; assumption; decide) | exact rfl)) (by repeat (first | assumption | exact upA_eq | (apply upA_ne; first | decide | omega) | (apply SA_at; assumption; first | decide | (simp; omega)) | exact rfl)))⟩, O⟩
theorem sp_Ref_again4 (hM : MAt hp q th N T U tx rw rt hs ss KT) (hI : TI T N) (hk : k < 2) (hkt : KT k = some T2) (h8 : T2 8 0 = (N : Int)) : Sp g MX12_again (rm 1 0 0) [.ref q, .int (I (k : Int))] hp (Eff (.int (B True)) (fun hp2 => MAt hp2 q 0 N T2 [] tx rw rt hs ss KT ∧ SO hp hp2 q (q + 25))) := by
  have hN := hI.men.2
  refine Sp_mk rfl (Nat.le_of_ble_eq_true rfl) ?_
  show wp g _ _ _ 0 0 0 [some (.ref q), some (.int (I (k : Int))), none] [] hp
  have O := SO.rf (hp := hp) (lo := q) (hi := q + 25)
  obtain ⟨V, A, rd, K, hth, M⟩ := hM
  have hu := M.ru (q := q)
  have M2 := M
  obtain ⟨m1, mA, mt, mr, mu, mU, mh, ms, mk⟩ := M2
  have hk36 := mk.1
  have hk36b := mk.2.1
  have hmk := mk.at (k := k) (by omega)
  rw [hkt] at hmk
  obtain ⟨h23, h22, h24a, h24b, h24c, h24d⟩ := hmk
  refine wp_aload_n (pc := 0) dX12_again_0 rfl ?_
  refine wp_iconst (pc := 1) dX12_again_1 ?_
  refine wm_put dX12_again_2 pf_X12_85 K O (by decide) mset_6 rfl rfl (fun hp K O => ?_)
  refine wp_iload_n (pc := 5) dX12_again_5 rfl ?_
  refine wp_iconst (pc := 6) dX12_again_6 ?_
  refine wp_iconst (pc := 7) dX12_again_7 ?_
  refine wp_Sp (pc := 8) dX12_again_8 cl_X12_95 (sp_Ref_in (by first | assumption | omega | (repeat (first | assumption | exact pv10 | exact pv11 | (apply pv_o; decide; decide) | exact upN_eq | (apply upN_ne; decide) | (apply SV_at; assumption; decide) | exact upA_eq | (apply upA_ne; first | decide | omega) | (apply SA_at; assumption; first | decide | (simp; omega)) | exact rfl))) (by first | assumption | omega | (repeat (first | assumption | exact pv10 | exact pv11 | (apply pv_o; decide; decide) | exact upN_eq | (apply upN_ne; decide) | (apply SV_at; assumption; decide) | exact upA_eq | (apply upA_ne; first | decide | omega) | (apply SA_at; assumption; first | decide | (simp; omega)) | exact rfl))) (by first | assumption | omega | (repeat (first | assumption | exact pv10 | exact pv11 | (apply pv_o; decide; decide) | exact upN_eq | (apply upN_ne; decide) | (apply SV_at; assumption; decide) | exact upA_eq | (apply upA_ne; first | decide | omega) | (apply SA_at; assumption; first | decide | (simp; omega)) | exact rfl)))) rfl rfl (by decide) (Nat.le_of_ble_eq_true rfl) ?_
  first | refine wp_ifb_eq (pc := 11) 36 dX12_again_11 (by decide) (fun c11 => ?_) (fun c11 => ?_) | refine wp_if_eq (pc := 11) 36 dX12_again_11 (by decide) (by first | omega | exact TI.i5 (by assumption) | exact TI.i3 (by assumption) | exact TI.i2 (by assumption) | exact TI.i1 (by assumption) | exact TI.i0 (by assumption) | exact TI.i4 (by assumption) | exact TI.i6 (by assumption) | exact TI.i7 (by assumption)) (fun c11 => ?_) (fun c11 => ?_)
  ·
    exact absurd (by omega) c11
  ·
    refine wp_aload_n (pc := 14) dX12_again_14 rfl ?_
    refine wm_get dX12_again_15 gf_X12_78 K (by rfl) ?_
    refine wp_iload_n (pc := 18) dX12_again_18 rfl ?_
    first | refine wm_bald dX12_again_19 K (by first | rfl | assumption) (by first | decide | omega) (by first | decide | omega) (by decide) (by omega) (by omega) (by repeat (first | assumption | exact upA_eq | (apply upA_ne; first | decide | omega) | (apply SA_at; assumption; first | decide | (simp; omega)) | exact rfl)) h23 ?_ | refine wm_zald dX12_again_19 K (by first | rfl | assumption) (by first | decide | omega) (by first | decide | omega) (by decide) (by omega) (by omega) (by repeat (first | assumption | exact upA_eq | (apply upA_ne; first | decide | omega) | (apply SA_at; assumption; first | decide | (simp; omega)) | exact rfl)) h23 ?_
    first | refine wp_ifb_eq (pc := 20) 36 dX12_again_20 (by decide) (fun c20 => ?_) (fun c20 => ?_) | refine wp_if_eq (pc := 20) 36 dX12_again_20 (by decide) (by first | omega | exact TI.i5 (by assumption) | exact TI.i3 (by assumption) | exact TI.i2 (by assumption) | exact TI.i1 (by assumption) | exact TI.i0 (by assumption) | exact TI.i4 (by assumption) | exact TI.i6 (by assumption) | exact TI.i7 (by assumption)) (fun c20 => ?_) (fun c20 => ?_)
    ·
      exact absurd c20 (by decide)
    ·
      refine wp_aload_n (pc := 23) dX12_again_23 rfl ?_
      refine wm_get dX12_again_24 gf_X12_82 K (by rfl) ?_
      refine wp_iload_n (pc := 27) dX12_again_27 rfl ?_
      refine wm_iald dX12_again_28 K (by first | rfl | assumption) (by first | decide | omega) (by first | decide | omega) (by decide) (by omega) (by omega) (by repeat (first | assumption | exact upA_eq | (apply upA_ne; first | decide | omega) | (apply SA_at; assumption; first | decide | (simp; omega)) | exact rfl)) (by first | exact flat5 (by omega) (by omega) | exact flat3 (by omega) (by omega) | exact flat2 (by omega) (by omega) | exact flat6 (by omega) (by omega) | exact flat4 (by omega) (by omega) | exact flat1 (by omega) (by omega) | exact flat0 (by omega) (by omega) | exact flat7 | exact rfl) ?_
      refine wp_aload_n (pc := 29) dX12_again_29 rfl ?_
      refine wm_gets dX12_again_30 gf_X12_158 K (by rfl) (by repeat (first | assumption | exact pv10 | exact pv11 | (apply pv_o; decide; decide) | exact upN_eq | (apply upN_ne; decide) | (apply SV_at; assumption; decide) | exact rfl)) ?_
      refine wp_icmp_eq (pc := 33) 38 dX12_again_33 (by decide) (by first | omega | exact TI.i5 (by assumption) | exact TI.i3 (by assumption) | exact TI.i2 (by assumption) | exact TI.i1 (by assumption) | exact TI.i0 (by assumption) | exact TI.i4 (by assumption) | exact TI.i6 (by assumption) | exact TI.i7 (by assumption)) (by first | omega | exact TI.i5 (by assumption) | exact TI.i3 (by assumption) | exact TI.i2 (by assumption) | exact TI.i1 (by assumption) | exact TI.i0 (by assumption) | exact TI.i4 (by assumption) | exact TI.i6 (by assumption) | exact TI.i7 (by assumption)) (fun c33 => ?_) (fun c33 => ?_)
      ·
        refine wp_iconst (pc := 38) dX12_again_38 ?_
        refine wp_istore_n (pc := 39) dX12_again_39 (by decide) ?_
        refine wp_ls ?_ (lp_Ref_again (k := k) (V := upN V 6 0) (A := A) (rd := rd) (f := flat T2) hk h22 (fun hp3 K O => ?_) 104 0 (by omega) (by omega) _ (A 1) (by rw [upA_id rfl]; exact K) O (fun x z1 z2 => by omega))
        · repeat' (first | exact LE_0 | refine LE_s rfl ?_ | refine LE_s (I_c (by first | omega | (simp only [sm]; omega))) ?_ | refine LE_s (J_c (by first | omega | exact Int.pow_succ _ _ | exact (Int.pow_succ _ _).symm | exact (Int.pow_zero _).symm | (simp only [sm]; omega))) ?_ | refine LE_n ?_)
        ·
          refine wp_aload_n (pc := 69) dX12_again_69 rfl ?_
          refine wp_iconst (pc := 70) dX12_again_70 ?_
          refine wm_put dX12_again_71 pf_X12_155 K O (by decide) mset_19 rfl rfl (fun hp K O => ?_)
          refine wp_iconst (pc := 74) dX12_again_74 ?_
          first | exact wp_z1 (pc := 75) dX12_again_75 rfl (by decide) (by decide) trivial ⟨⟨_, _, _, K, rfl, M.ch ((SV.rf.up (by decide)).up (by decide)) (SA.rf.up (by decide)) upA_eq ⟨upN_eq, by decide, fun i hi => (by cases hi)⟩ (mr.tr rfl rfl)⟩, O⟩ | exact wp_z0 (pc := 75) dX12_again_75 rfl (by decide) (by decide) trivial ⟨⟨_, _, _, K, rfl, M.ch ((SV.rf.up (by decide)).up (by decide)) (SA.rf.up (by decide)) upA_eq ⟨upN_eq, by decide, fun i hi => (by cases hi)⟩ (mr.tr rfl rfl)⟩, O⟩ | exact wp_zb (pc := 75) dX12_again_75 rfl (by decide) (by decide) Iff.rfl ⟨⟨_, _, _, K, rfl, M.ch ((SV.rf.up (by decide)).up (by decide)) (SA.rf.up (by decide)) upA_eq ⟨upN_eq, by decide, fun i hi => (by cases hi)⟩ (mr.tr rfl rfl)⟩, O⟩
      ·
        exact absurd (h24c.mpr h8) c33
theorem sp_again (hM : MAt hp q th N T U tx rw rt hs ss KT) (hI : TI T N) (rx : InR x) : Sp g MX12_again (rm 1 0 0) [.ref q, .int (I x)] hp (Eff (.int (B ((agT KT N x).isSome = true))) (fun hp2 => MAt hp2 q 0 N ((agT KT N x).getD T) (if (agT KT N x).isSome = true then [] else U) tx rw rt hs ss KT ∧ SO hp hp2 q (q + 25))) := by
  by_cases hx : 0 ≤ x ∧ x ≤ 1
  · obtain ⟨k, rfl⟩ := Int.eq_ofNat_of_zero_le hx.1
    have ea : agT KT N (k : Int) = (match KT k with | none => none | some T => if T 8 0 = (N : Int) then some T else none) := by unfold agT; rw [if_pos hx, Int.toNat_natCast]
    cases hkt : KT k with
    | none =>
      rw [hkt] at ea
      have ea : agT KT N (k : Int) = none := ea
      rw [ea, show (if ((none : Option (Nat → Int → Int)).isSome = true) then [] else U) = U from if_neg (by decide)]
      rw [show B ((none : Option (Nat → Int → Int)).isSome = true) = B False from (B_eq _ _).mpr ⟨fun z => (by cases z), fun z => False.elim z⟩]
      exact sp_Ref_again2 hM (by omega) hkt
    | some T2 =>
      rw [hkt] at ea
      have ea : agT KT N (k : Int) = if T2 8 0 = (N : Int) then some T2 else none := ea
      by_cases h8 : T2 8 0 = (N : Int)
      · rw [if_pos h8] at ea
        rw [ea, show (if ((some T2 : Option (Nat → Int → Int)).isSome = true) then [] else U) = [] from if_pos rfl]
        rw [show B ((some T2 : Option (Nat → Int → Int)).isSome = true) = B True from (B_eq _ _).mpr ⟨fun _ => trivial, fun _ => rfl⟩]
        exact sp_Ref_again4 hM hI (by omega) hkt h8
      · rw [if_neg h8] at ea
        rw [ea, show (if ((none : Option (Nat → Int → Int)).isSome = true) then [] else U) = U from if_neg (by decide)]
        rw [show B ((none : Option (Nat → Int → Int)).isSome = true) = B False from (B_eq _ _).mpr ⟨fun z => (by cases z), fun z => False.elim z⟩]
        exact sp_Ref_again3 hM hI (by omega) hkt h8
  · have ea : agT KT N x = none := if_neg hx
    rw [ea, show (if ((none : Option (Nat → Int → Int)).isSome = true) then [] else U) = U from if_neg (by decide)]
    rw [show B ((none : Option (Nat → Int → Int)).isSome = true) = B False from (B_eq _ _).mpr ⟨fun z => (by cases z), fun z => False.elim z⟩]
    exact sp_Ref_again1 hM rx hx
/-! counts -/
theorem dbt_eq {n : Nat} : sm (fun i => oby T i N) n = sm (fun i => sm (fun j => T 1 (i * 6 + j)) N) n := rfl
theorem lp_Ref_debts (K : ModAt hp q V A rd rl) (hv1 : V 1 = (N : Int)) (hN : N ≤ 6) (mA : A 1 = flat T) : ∀ (m i : Nat), N < i + m → i ≤ N → wp g MX12_debts (rm 2 0 0) (Pur (.int (I (sm (fun i => oby T i N) N))) hp) 0 0 4 [some (.ref q), some (.int (I (sm (fun i => oby T i N) i))), some (.int (I (i : Int)))] [] hp := by
  intro m
  induction m with
  | zero => intro i h1 h2; exact absurd h1 (by omega)
  | succ m ih =>
    intro i h1 h2
    refine wp_iload_n (pc := 4) dX12_debts_4 rfl ?_
    refine wp_aload_n (pc := 5) dX12_debts_5 rfl ?_
    refine wm_gets dX12_debts_6 gf_X12_92 K (by rfl) (by repeat (first | assumption | exact pv10 | exact pv11 | (apply pv_o; decide; decide) | exact upN_eq | (apply upN_ne; decide) | (apply SV_at; assumption; decide) | exact rfl)) ?_
    refine wp_icmp_ge (pc := 9) 30 dX12_debts_9 (by decide) (by first | omega | exact TI.i5 (by assumption) | exact TI.i3 (by assumption) | exact TI.i2 (by assumption) | exact TI.i1 (by assumption) | exact TI.i0 (by assumption) | exact TI.i4 (by assumption) | exact TI.i6 (by assumption) | exact TI.i7 (by assumption)) (by first | omega | exact TI.i5 (by assumption) | exact TI.i3 (by assumption) | exact TI.i2 (by assumption) | exact TI.i1 (by assumption) | exact TI.i0 (by assumption) | exact TI.i4 (by assumption) | exact TI.i6 (by assumption) | exact TI.i7 (by assumption)) (fun c9 => ?_) (fun c9 => ?_)
    ·
      have e : i = N := by omega
      subst e -- go
      refine wp_iload_n (pc := 30) dX12_debts_30 rfl ?_
      exact wp_ir (pc := 31) dX12_debts_31 rfl (by decide) (by decide) (by first | rfl | omega) (by first | exact ⟨K, O⟩ | rfl)
    ·
      refine wp_iload_n (pc := 12) dX12_debts_12 rfl ?_
      refine wp_aload_n (pc := 13) dX12_debts_13 rfl ?_
      refine wp_aload_n (pc := 14) dX12_debts_14 rfl ?_
      refine wm_get dX12_debts_15 gf_X12_9 K (by rfl) ?_
      refine wp_iload_n (pc := 18) dX12_debts_18 rfl ?_
      refine wp_Vp (pc := 19) dX12_debts_19 cl_X12_205 (sp_Ref_owesAll K hv1 hN (.inl rfl) mA (by omega)) rfl rfl K.1 (by rfl) (by decide) (Nat.le_of_ble_eq_true rfl) ?_
      refine wp_iadd (pc := 22) dX12_debts_22 ?_
      refine wp_istore_n (pc := 23) dX12_debts_23 (by decide) ?_
      refine wp_iinc (pc := 24) dX12_debts_24 rfl (by decide) ?_
      refine wp_goto (pc := 27) 4 dX12_debts_27 (by decide) ?_
      refine wp_ls ?_ (ih (i + 1) (by omega) (by omega))
      · repeat' (first | exact LE_0 | refine LE_s rfl ?_ | refine LE_s (I_c (by first | omega | (simp only [sm]; omega))) ?_ | refine LE_s (J_c (by first | omega | exact Int.pow_succ _ _ | exact (Int.pow_succ _ _).symm | exact (Int.pow_zero _).symm | (simp only [sm]; omega))) ?_ | refine LE_n ?_)
theorem sp_Ref_debts (K : ModAt hp q V A rd rl) (hv1 : V 1 = (N : Int)) (hN : N ≤ 6) (mA : A 1 = flat T) : Sp g MX12_debts (rm 2 0 0) [.ref q] hp (Pur (.int (I (sm (fun i => oby T i N) N))) hp) := by
  refine Sp_mk rfl (Nat.le_of_ble_eq_true rfl) ?_
  show wp g _ _ _ 0 0 0 [some (.ref q), none, none] [] hp
  have O := SO.rf (hp := hp) (lo := q) (hi := q + 25)
  refine wp_iconst (pc := 0) dX12_debts_0 ?_
  refine wp_istore_n (pc := 1) dX12_debts_1 (by decide) ?_
  refine wp_iconst (pc := 2) dX12_debts_2 ?_
  refine wp_istore_n (pc := 3) dX12_debts_3 (by decide) ?_
  refine wp_ls ?_ (lp_Ref_debts K hv1 hN mA (N + 1) 0 (by omega) (by omega))
  repeat' (first | exact LE_0 | refine LE_s rfl ?_ | refine LE_s (I_c (by first | omega | (simp only [sm]; omega))) ?_ | refine LE_s (J_c (by first | omega | exact Int.pow_succ _ _ | exact (Int.pow_succ _ _).symm | exact (Int.pow_zero _).symm | (simp only [sm]; omega))) ?_ | refine LE_n ?_)
/-- the sum over pairs of two, row by row -/
def opj (H : Nat → Nat → Int) (i : Nat) (s : Int) : Nat → Int
  | 0 => s
  | j + 1 => opj H i s j + (if i = j then 0 else H i j)
def opi (H : Nat → Nat → Int) (N : Nat) : Nat → Int
  | 0 => 0
  | i + 1 => opj H i (opi H N i) N
abbrev oaH (cs : List Int) (T : Nat → Int → Int) (c : Int) : Nat → Nat → Int := fun i j => if c = 0 then T 0 ((i : Int) * 6 + j) else wv cs T i j
theorem lp_oa2 (hI : TI T N) (hv1 : V 1 = (N : Int)) (mA : A 1 = flat T) (hu : RuA A V q rl t) (rc : c = 0 ∨ c = 1) (hn : n < N) {u : Int} {Q : Option Value → Hp → Prop} (Kn : ∀ hp3 V3 A3 rd3, ModAt hp3 q V3 A3 rd3 rl → SO hp hp3 q (q + 25) → SV [8, 9, 10, 11, 16] V V3 → SA [7] A A3 → wp g MX12_ofAll (rm 230 0 0) Q 0 0 72 [some (.ref q), some (.int (I c)), some (.int (I (opj (oaH (stl t) T c) n u N))), some (.int (I (n : Int))), none] [] hp3) : ∀ (m i : Nat), N < i + m → i ≤ N → ∀ (hp2 : Hp) (V2 : Nat → Int) (A2 : Nat → Int → Int) (rd2 : Value) (K : ModAt hp2 q V2 A2 rd2 rl) (O : SO hp hp2 q (q + 25)) (sV : SV [8, 9, 10, 11, 16] V V2) (sA : SA [7] A A2), wp g MX12_ofAll (rm 230 0 0) Q 0 0 15 [some (.ref q), some (.int (I c)), some (.int (I (opj (oaH (stl t) T c) n u i))), some (.int (I (n : Int))), some (.int (I (i : Int)))] [] hp2 := by
  intro m
  induction m with
  | zero => intro i h1 h2; exact absurd h1 (by omega)
  | succ m ih =>
    intro i h1 h2 hp2 V2 A2 rd2 K O sV sA
    have hN := hI.men.2
    have st : opj (oaH (stl t) T c) n u (i + 1) = opj (oaH (stl t) T c) n u i + (if n = i then 0 else oaH (stl t) T c n i) := rfl
    refine wp_iload (pc := 15) dX12_ofAll_15 rfl ?_
    refine wp_aload_n (pc := 17) dX12_ofAll_17 rfl ?_
    refine wm_gets dX12_ofAll_18 gf_X12_92 K (by rfl) (by repeat (first | assumption | exact pv10 | exact pv11 | (apply pv_o; decide; decide) | exact upN_eq | (apply upN_ne; decide) | (apply SV_at; assumption; decide) | exact rfl)) ?_
    refine wp_icmp_ge (pc := 21) 72 dX12_ofAll_21 (by decide) (by first | omega | exact TI.i5 (by assumption) | exact TI.i3 (by assumption) | exact TI.i2 (by assumption) | exact TI.i1 (by assumption) | exact TI.i0 (by assumption) | exact TI.i4 (by assumption) | exact TI.i6 (by assumption) | exact TI.i7 (by assumption)) (by first | omega | exact TI.i5 (by assumption) | exact TI.i3 (by assumption) | exact TI.i2 (by assumption) | exact TI.i1 (by assumption) | exact TI.i0 (by assumption) | exact TI.i4 (by assumption) | exact TI.i6 (by assumption) | exact TI.i7 (by assumption)) (fun c21 => ?_) (fun c21 => ?_)
    ·
      have e : i = N := by omega
      subst e
      refine wp_ls ?_ (Kn hp2 V2 A2 rd2 K O sV sA)
      repeat' (first | exact LE_0 | refine LE_s rfl ?_ | refine LE_s (I_c (by first | omega | (simp only [sm]; omega))) ?_ | refine LE_s (J_c (by first | omega | exact Int.pow_succ _ _ | exact (Int.pow_succ _ _).symm | exact (Int.pow_zero _).symm | (simp only [sm]; omega))) ?_ | refine LE_n ?_)
    ·
      refine wp_iload_n (pc := 24) dX12_ofAll_24 rfl ?_
      refine wp_iload_n (pc := 25) dX12_ofAll_25 rfl ?_
      refine wp_iload (pc := 26) dX12_ofAll_26 rfl ?_
      refine wp_icmp_ne (pc := 28) 35 dX12_ofAll_28 (by decide) (by first | omega | exact TI.i5 (by assumption) | exact TI.i3 (by assumption) | exact TI.i2 (by assumption) | exact TI.i1 (by assumption) | exact TI.i0 (by assumption) | exact TI.i4 (by assumption) | exact TI.i6 (by assumption) | exact TI.i7 (by assumption)) (by first | omega | exact TI.i5 (by assumption) | exact TI.i3 (by assumption) | exact TI.i2 (by assumption) | exact TI.i1 (by assumption) | exact TI.i0 (by assumption) | exact TI.i4 (by assumption) | exact TI.i6 (by assumption) | exact TI.i7 (by assumption)) (fun c28 => ?_) (fun c28 => ?_)
      ·
        refine wp_iload_n (pc := 35) dX12_ofAll_35 rfl ?_
        first | refine wp_ifb_eq (pc := 36) 53 dX12_ofAll_36 (by decide) (fun c36 => ?_) (fun c36 => ?_) | refine wp_if_eq (pc := 36) 53 dX12_ofAll_36 (by decide) (by first | omega | exact TI.i5 (by assumption) | exact TI.i3 (by assumption) | exact TI.i2 (by assumption) | exact TI.i1 (by assumption) | exact TI.i0 (by assumption) | exact TI.i4 (by assumption) | exact TI.i6 (by assumption) | exact TI.i7 (by assumption)) (fun c36 => ?_) (fun c36 => ?_)
        ·
          have e1 : opj (oaH (stl t) T c) n u (i + 1) = opj (oaH (stl t) T c) n u i + T 0 ((n : Int) * 6 + i) := by rw [st, if_neg (by omega)]; unfold oaH; rw [if_pos c36]
          skip -- go
          refine wp_aload_n (pc := 53) dX12_ofAll_53 rfl ?_
          refine wm_get dX12_ofAll_54 gf_X12_9 K (by rfl) ?_
          refine wp_iload_n (pc := 57) dX12_ofAll_57 rfl ?_
          refine wp_iload (pc := 58) dX12_ofAll_58 rfl ?_
          refine wp_Sp (pc := 60) dX12_ofAll_60 cl_X12_151 sp_Ref_pair rfl rfl (by decide) (Nat.le_of_ble_eq_true rfl) ?_
          refine wm_iald dX12_ofAll_63 K (by first | rfl | assumption) (by first | decide | omega) (by first | decide | omega) (by decide) (by omega) (by omega) (by repeat (first | assumption | exact upA_eq | (apply upA_ne; first | decide | omega) | (apply SA_at; assumption; first | decide | (simp; omega)) | exact rfl)) (by first | exact flat5 (by omega) (by omega) | exact flat3 (by omega) (by omega) | exact flat2 (by omega) (by omega) | exact flat6 (by omega) (by omega) | exact flat4 (by omega) (by omega) | exact flat1 (by omega) (by omega) | exact flat0 (by omega) (by omega) | exact flat7 | exact rfl) ?_
          refine wp_iadd (pc := 64) dX12_ofAll_64 ?_
          refine wp_istore_n (pc := 65) dX12_ofAll_65 (by decide) ?_
          refine wp_iinc (pc := 66) dX12_ofAll_66 rfl (by decide) ?_
          refine wp_goto (pc := 69) 15 dX12_ofAll_69 (by decide) ?_
          first
          | refine wp_ls ?_ (ih (i + 1) (by omega) (by omega) _ _ _ _ K O (SV.tr2 sV47 (by decide) sV) (SA.tr2 sA47 (by decide) sA))
            rw [e1]
            repeat' (first | exact LE_0 | refine LE_s rfl ?_ | refine LE_s (I_c (by first | omega | (simp only [sm]; omega))) ?_ | refine LE_s (J_c (by first | omega | exact Int.pow_succ _ _ | exact (Int.pow_succ _ _).symm | exact (Int.pow_zero _).symm | (simp only [sm]; omega))) ?_ | refine LE_n ?_)
          | refine wp_ls ?_ (ih (i + 1) (by omega) (by omega) _ _ _ _ K O sV sA)
            rw [e1]
            repeat' (first | exact LE_0 | refine LE_s rfl ?_ | refine LE_s (I_c (by first | omega | (simp only [sm]; omega))) ?_ | refine LE_s (J_c (by first | omega | exact Int.pow_succ _ _ | exact (Int.pow_succ _ _).symm | exact (Int.pow_zero _).symm | (simp only [sm]; omega))) ?_ | refine LE_n ?_)
        ·
          have e1 : opj (oaH (stl t) T c) n u (i + 1) = opj (oaH (stl t) T c) n u i + wv (stl t) T n i := by rw [st, if_neg (by omega)]; unfold oaH; rw [if_neg c36]
          skip -- go
          refine wp_aload_n (pc := 39) dX12_ofAll_39 rfl ?_
          refine wp_aload_n (pc := 40) dX12_ofAll_40 rfl ?_
          refine wm_get dX12_ofAll_41 gf_X12_9 K (by rfl) ?_
          refine wp_iload_n (pc := 44) dX12_ofAll_44 rfl ?_
          refine wp_iload (pc := 45) dX12_ofAll_45 rfl ?_
          refine wp_Vs (pc := 47) dX12_ofAll_47 cl_X12_216 (sp_Ref_wordsOf K hI (.inl rfl) (SA_at sA (by decide) mA) (hu.sc sV sA (by decide) (by decide) (by decide)) (by omega) (by omega)) rfl rfl K.1 (by rfl) (by decide) (Nat.le_of_ble_eq_true rfl) (fun hp47 e47 => ?_)
          obtain ⟨⟨V47, A47, rd47, K, sV47, sA47⟩, O1⟩ := e47; replace O := SO.tr O O1
          refine wp_goto (pc := 50) 64 dX12_ofAll_50 (by decide) ?_
          refine wp_iadd (pc := 64) dX12_ofAll_64 ?_
          refine wp_istore_n (pc := 65) dX12_ofAll_65 (by decide) ?_
          refine wp_iinc (pc := 66) dX12_ofAll_66 rfl (by decide) ?_
          refine wp_goto (pc := 69) 15 dX12_ofAll_69 (by decide) ?_
          first
          | refine wp_ls ?_ (ih (i + 1) (by omega) (by omega) _ _ _ _ K O (SV.tr2 sV47 (by decide) sV) (SA.tr2 sA47 (by decide) sA))
            rw [e1]
            repeat' (first | exact LE_0 | refine LE_s rfl ?_ | refine LE_s (I_c (by first | omega | (simp only [sm]; omega))) ?_ | refine LE_s (J_c (by first | omega | exact Int.pow_succ _ _ | exact (Int.pow_succ _ _).symm | exact (Int.pow_zero _).symm | (simp only [sm]; omega))) ?_ | refine LE_n ?_)
          | refine wp_ls ?_ (ih (i + 1) (by omega) (by omega) _ _ _ _ K O sV sA)
            rw [e1]
            repeat' (first | exact LE_0 | refine LE_s rfl ?_ | refine LE_s (I_c (by first | omega | (simp only [sm]; omega))) ?_ | refine LE_s (J_c (by first | omega | exact Int.pow_succ _ _ | exact (Int.pow_succ _ _).symm | exact (Int.pow_zero _).symm | (simp only [sm]; omega))) ?_ | refine LE_n ?_)
      ·
        have e1 : opj (oaH (stl t) T c) n u (i + 1) = opj (oaH (stl t) T c) n u i + 0 := by rw [st, if_pos (by omega)]
        skip -- go
        refine wp_iconst (pc := 31) dX12_ofAll_31 ?_
        refine wp_goto (pc := 32) 64 dX12_ofAll_32 (by decide) ?_
        refine wp_iadd (pc := 64) dX12_ofAll_64 ?_
        refine wp_istore_n (pc := 65) dX12_ofAll_65 (by decide) ?_
        refine wp_iinc (pc := 66) dX12_ofAll_66 rfl (by decide) ?_
        refine wp_goto (pc := 69) 15 dX12_ofAll_69 (by decide) ?_
        first
        | refine wp_ls ?_ (ih (i + 1) (by omega) (by omega) _ _ _ _ K O (SV.tr2 sV47 (by decide) sV) (SA.tr2 sA47 (by decide) sA))
          rw [e1]
          repeat' (first | exact LE_0 | refine LE_s rfl ?_ | refine LE_s (I_c (by first | omega | (simp only [sm]; omega))) ?_ | refine LE_s (J_c (by first | omega | exact Int.pow_succ _ _ | exact (Int.pow_succ _ _).symm | exact (Int.pow_zero _).symm | (simp only [sm]; omega))) ?_ | refine LE_n ?_)
        | refine wp_ls ?_ (ih (i + 1) (by omega) (by omega) _ _ _ _ K O sV sA)
          rw [e1]
          repeat' (first | exact LE_0 | refine LE_s rfl ?_ | refine LE_s (I_c (by first | omega | (simp only [sm]; omega))) ?_ | refine LE_s (J_c (by first | omega | exact Int.pow_succ _ _ | exact (Int.pow_succ _ _).symm | exact (Int.pow_zero _).symm | (simp only [sm]; omega))) ?_ | refine LE_n ?_)
theorem lp_oa1 (hI : TI T N) (hv1 : V 1 = (N : Int)) (mA : A 1 = flat T) (hu : RuA A V q rl t) (rc : c = 0 ∨ c = 1) : ∀ (m i : Nat), N < i + m → i ≤ N → ∀ (hp2 : Hp) (V2 : Nat → Int) (A2 : Nat → Int → Int) (rd2 : Value) (K : ModAt hp2 q V2 A2 rd2 rl) (O : SO hp hp2 q (q + 25)) (sV : SV [8, 9, 10, 11, 16] V V2) (sA : SA [7] A A2), wp g MX12_ofAll (rm 230 0 0) (Eff (.int (I (opi (oaH (stl t) T c) N N))) (fun hp3 => (∃ V2 A2 rd2, ModAt hp3 q V2 A2 rd2 rl ∧ SV [8, 9, 10, 11, 16] V V2 ∧ SA [7] A A2) ∧ SO hp hp3 q (q + 25))) 0 0 4 [some (.ref q), some (.int (I c)), some (.int (I (opi (oaH (stl t) T c) N i))), some (.int (I (i : Int))), none] [] hp2 := by
  intro m
  induction m with
  | zero => intro i h1 h2; exact absurd h1 (by omega)
  | succ m ih =>
    intro i h1 h2 hp2 V2 A2 rd2 K O sV sA
    have hN := hI.men.2
    refine wp_iload_n (pc := 4) dX12_ofAll_4 rfl ?_
    refine wp_aload_n (pc := 5) dX12_ofAll_5 rfl ?_
    refine wm_gets dX12_ofAll_6 gf_X12_92 K (by rfl) (by repeat (first | assumption | exact pv10 | exact pv11 | (apply pv_o; decide; decide) | exact upN_eq | (apply upN_ne; decide) | (apply SV_at; assumption; decide) | exact rfl)) ?_
    refine wp_icmp_ge (pc := 9) 78 dX12_ofAll_9 (by decide) (by first | omega | exact TI.i5 (by assumption) | exact TI.i3 (by assumption) | exact TI.i2 (by assumption) | exact TI.i1 (by assumption) | exact TI.i0 (by assumption) | exact TI.i4 (by assumption) | exact TI.i6 (by assumption) | exact TI.i7 (by assumption)) (by first | omega | exact TI.i5 (by assumption) | exact TI.i3 (by assumption) | exact TI.i2 (by assumption) | exact TI.i1 (by assumption) | exact TI.i0 (by assumption) | exact TI.i4 (by assumption) | exact TI.i6 (by assumption) | exact TI.i7 (by assumption)) (fun c9 => ?_) (fun c9 => ?_)
    ·
      have e : i = N := by omega
      subst e -- go
      refine wp_iload_n (pc := 78) dX12_ofAll_78 rfl ?_
      exact wp_ir (pc := 79) dX12_ofAll_79 rfl (by decide) (by decide) (by first | rfl | omega) ⟨⟨V2, A2, rd2, K, sV, sA⟩, O⟩
    ·
      refine wp_iconst (pc := 12) dX12_ofAll_12 ?_
      refine wp_istore (pc := 13) dX12_ofAll_13 (by decide) ?_
      refine wp_ls ?_ (lp_oa2 (n := i) (u := opi (oaH (stl t) T c) N i) hI hv1 mA hu rc (by omega) (fun hp3 V3 A3 rd3 K3 O3 sV3 sA3 => ?_) (N + 1) 0 (by omega) (by omega) _ _ _ _ K O sV sA)
      · repeat' (first | exact LE_0 | refine LE_s rfl ?_ | refine LE_s (I_c (by first | omega | (simp only [sm]; omega))) ?_ | refine LE_s (J_c (by first | omega | exact Int.pow_succ _ _ | exact (Int.pow_succ _ _).symm | exact (Int.pow_zero _).symm | (simp only [sm]; omega))) ?_ | refine LE_n ?_)
      · refine wp_iinc (pc := 72) dX12_ofAll_72 rfl (by decide) ?_
        refine wp_goto (pc := 75) 4 dX12_ofAll_75 (by decide) ?_
        refine wp_ls ?_ (ih (i + 1) (by omega) (by omega) _ _ _ _ K3 O3 sV3 sA3)
        repeat' (first | exact LE_0 | refine LE_s rfl ?_ | refine LE_s (I_c (by first | omega | (simp only [sm]; omega))) ?_ | refine LE_s (J_c (by first | omega | exact Int.pow_succ _ _ | exact (Int.pow_succ _ _).symm | exact (Int.pow_zero _).symm | (simp only [sm]; omega))) ?_ | refine LE_n ?_)
theorem sp_Ref_ofAll (K : ModAt hp q V A rd rl) (hI : TI T N) (hv1 : V 1 = (N : Int)) (mA : A 1 = flat T) (hu : RuA A V q rl t) (rc : c = 0 ∨ c = 1) : Sp g MX12_ofAll (rm 230 0 0) [.ref q, .int (I c)] hp (Eff (.int (I (opi (oaH (stl t) T c) N N))) (fun hp2 => (∃ V2 A2 rd2, ModAt hp2 q V2 A2 rd2 rl ∧ SV [8, 9, 10, 11, 16] V V2 ∧ SA [7] A A2) ∧ SO hp hp2 q (q + 25))) := by
  refine Sp_mk rfl (Nat.le_of_ble_eq_true rfl) ?_
  show wp g _ _ _ 0 0 0 [some (.ref q), some (.int (I c)), none, none, none] [] hp
  have O := SO.rf (hp := hp) (lo := q) (hi := q + 25)
  refine wp_iconst (pc := 0) dX12_ofAll_0 ?_
  refine wp_istore_n (pc := 1) dX12_ofAll_1 (by decide) ?_
  refine wp_iconst (pc := 2) dX12_ofAll_2 ?_
  refine wp_istore_n (pc := 3) dX12_ofAll_3 (by decide) ?_
  refine wp_ls ?_ (lp_oa1 hI hv1 mA hu rc (N + 1) 0 (by omega) (by omega) _ _ _ _ K O SV.rf SA.rf)
  repeat' (first | exact LE_0 | refine LE_s rfl ?_ | refine LE_s (I_c (by first | omega | (simp only [sm]; omega))) ?_ | refine LE_s (J_c (by first | omega | exact Int.pow_succ _ _ | exact (Int.pow_succ _ _).symm | exact (Int.pow_zero _).symm | (simp only [sm]; omega))) ?_ | refine LE_n ?_)
end MV_

