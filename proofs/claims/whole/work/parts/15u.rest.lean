/-! the reference: rests, draws, years, kept, counts -/
section MU_
variable {g : GT} {hp hp0 : Hp} {q N n a b s k p : Nat} {V V2 V3 : Nat → Int} {A A2 A3 : Nat → Int → Int} {rd rl : Value} {i j x v c y z w th o d : Int} {T T2 : Nat → Int → Int} {l t cs tx rw rw2 rt : List Int} {G f F D : Int → Int} {U U2 : List (Nat → Int → Int)} {hs : List (Int × Int)} {ss : List (Int × Int × Int)} {KT : Nat → Option (Nat → Int → Int)} {L L2 : List Nat}
theorem cnt_s {P : Nat → Bool} {k : Nat} : cnt P (k + 1) = cnt P k + if P k = true then 1 else 0 := rfl
theorem rro_len {P : Nat → Bool} {k : Nat} : (rro P k).length ≤ 2 := by unfold rro; split <;> simp
theorem rro_nil {P : Nat → Bool} {k : Nat} (h : cnt P k = 0) : rro P k = [] := by
  unfold rro
  rw [if_neg (by have := (cnt0 P k).mp h; omega)]
theorem lp_rs2 (rv : 0 ≤ v ∧ v ≤ 20) (rc : 0 ≤ c ∧ c ≤ 5) (hn : n < 10) (M : MX V A N T U tx rw rt hs ss KT) {Q : Option Value → Hp → Prop} (Kn : ∀ hp3 V3 A3 rd3, ModAt hp3 q V3 A3 rd3 (.ref (q + 5)) → SO hp hp3 q (q + 25) → V3 6 = 0 → SV qV V V3 → SA qA A A3 → Mrw V3 A3 (rro (rst v c) (10 * n + 10)) → wp g MX12_rests (rm 2 0 0) Q 0 0 107 [some (.ref q), some (.int (I v)), some (.int (I c)), some (.int (I ((cnt (rst v c) (10 * n + 10) : Nat) : Int))), some (.int (I (n : Int))), none] [] hp3) : ∀ (m i : Nat), 10 < i + m → i ≤ 10 → ∀ (hp2 : Hp) (V2 : Nat → Int) (A2 : Nat → Int → Int) (rd2 : Value) (K : ModAt hp2 q V2 A2 rd2 (.ref (q + 5))) (O : SO hp hp2 q (q + 25)) (h6 : V2 6 = 0) (sV : SV qV V V2) (sA : SA qA A A2) (hR : Mrw V2 A2 (rro (rst v c) (10 * n + i))), wp g MX12_rests (rm 2 0 0) Q 0 0 46 [some (.ref q), some (.int (I v)), some (.int (I c)), some (.int (I ((cnt (rst v c) (10 * n + i) : Nat) : Int))), some (.int (I (n : Int))), some (.int (I (i : Int)))] [] hp2 := by
  intro m
  induction m with
  | zero => intro i h1 h2; exact absurd h1 (by omega)
  | succ m ih =>
    intro i h1 h2 hp2 V2 A2 rd2 K O h6 sV sA hR
    have hcl := cnt_le (rst v c) (10 * n + i)
    have hri := fun h => rst_iff (v := v) (c := c) (x := n) (y := i) h
    refine wp_iload (pc := 46) dX12_rests_46 rfl ?_
    refine wp_bipush (pc := 48) (y := 9) dX12_rests_48 (by decide) ?_
    refine wp_icmp_gt (pc := 50) 107 dX12_rests_50 (by decide) (by first | omega | exact TI.i5 (by assumption) | exact TI.i3 (by assumption) | exact TI.i2 (by assumption) | exact TI.i1 (by assumption) | exact TI.i0 (by assumption) | exact TI.i4 (by assumption) | exact TI.i6 (by assumption) | exact TI.i7 (by assumption)) (by first | omega | exact TI.i5 (by assumption) | exact TI.i3 (by assumption) | exact TI.i2 (by assumption) | exact TI.i1 (by assumption) | exact TI.i0 (by assumption) | exact TI.i4 (by assumption) | exact TI.i6 (by assumption) | exact TI.i7 (by assumption)) (fun c50 => ?_) (fun c50 => ?_)
    ·
      have e : i = 10 := by omega
      subst e
      refine wp_ls ?_ (Kn hp2 V2 A2 rd2 K O h6 sV sA hR)
      repeat' (first | exact LE_0 | refine LE_s rfl ?_ | refine LE_s (I_c (by first | omega | (simp only [sm]; omega))) ?_ | refine LE_s (J_c (by first | omega | exact Int.pow_succ _ _ | exact (Int.pow_succ _ _).symm | exact (Int.pow_zero _).symm | (simp only [sm]; omega))) ?_ | refine LE_n ?_)
    ·
      have hri := hri (by omega) -- go
      refine wp_iload (pc := 53) dX12_rests_53 rfl ?_
      refine wp_iload (pc := 55) dX12_rests_55 rfl ?_
      refine wp_iload_n (pc := 57) dX12_rests_57 rfl ?_
      refine wp_iload_n (pc := 58) dX12_rests_58 rfl ?_
      refine wp_Sp (pc := 59) dX12_rests_59 cl_X12_367 (sp_Ref_isBest (k := n) (by omega) (by omega) rv rc) rfl rfl (by decide) (Nat.le_of_ble_eq_true rfl) ?_
      first | refine wp_ifb_eq (pc := 62) 101 dX12_rests_62 (by decide) (fun c62 => ?_) (fun c62 => ?_) | refine wp_if_eq (pc := 62) 101 dX12_rests_62 (by decide) (by first | omega | exact TI.i5 (by assumption) | exact TI.i3 (by assumption) | exact TI.i2 (by assumption) | exact TI.i1 (by assumption) | exact TI.i0 (by assumption) | exact TI.i4 (by assumption) | exact TI.i6 (by assumption) | exact TI.i7 (by assumption)) (fun c62 => ?_) (fun c62 => ?_)
      ·
        have hP : ¬ rst v c (10 * n + i) = true := fun z => c62 (hri.mp z).1
        have e1 : cnt (rst v c) (10 * n + (i + 1)) = cnt (rst v c) (10 * n + i) := by show cnt (rst v c) (10 * n + i + 1) = _; rw [cnt_s, if_neg hP]; rfl
        have e2 : rro (rst v c) (10 * n + (i + 1)) = rro (rst v c) (10 * n + i) := rro_no (fun z => hP z.1)
        rw [← e2] at hR -- go
        refine wp_iinc (pc := 101) dX12_rests_101 rfl (by decide) ?_
        refine wp_goto (pc := 104) 46 dX12_rests_104 (by decide) ?_
        first
        | refine wp_ls ?_ (ih (i + 1) (by omega) (by omega) _ _ _ _ K O (by repeat (first | assumption | exact pv10 | exact pv11 | (apply pv_o; decide; decide) | exact upN_eq | (apply upN_ne; decide) | (apply SV_at; assumption; decide) | exact rfl)) (by repeat (first | exact SV.rf | assumption | (apply SV.up1; decide) | (apply SV.tr2; assumption; decide))) (by repeat (first | exact SA.rf | assumption | (apply SA.up1; decide) | (apply SA.tr2; assumption; decide))) hR95')
          rw [e1]
          repeat' (first | exact LE_0 | refine LE_s rfl ?_ | refine LE_s (I_c (by first | omega | (simp only [sm]; omega))) ?_ | refine LE_s (J_c (by first | omega | exact Int.pow_succ _ _ | exact (Int.pow_succ _ _).symm | exact (Int.pow_zero _).symm | (simp only [sm]; omega))) ?_ | refine LE_n ?_)
        | refine wp_ls ?_ (ih (i + 1) (by omega) (by omega) _ _ _ _ K O h6 sV sA hR)
          rw [e1]
          repeat' (first | exact LE_0 | refine LE_s rfl ?_ | refine LE_s (I_c (by first | omega | (simp only [sm]; omega))) ?_ | refine LE_s (J_c (by first | omega | exact Int.pow_succ _ _ | exact (Int.pow_succ _ _).symm | exact (Int.pow_zero _).symm | (simp only [sm]; omega))) ?_ | refine LE_n ?_)
      ·
        refine wp_iload (pc := 65) dX12_rests_65 rfl ?_
        refine wp_iload (pc := 67) dX12_rests_67 rfl ?_
        refine wp_iload_n (pc := 69) dX12_rests_69 rfl ?_
        refine wp_iload_n (pc := 70) dX12_rests_70 rfl ?_
        refine wp_Sp (pc := 71) dX12_rests_71 cl_X12_367 (sp_Ref_isBest (k := i) (by omega) (by omega) rv rc) rfl rfl (by decide) (Nat.le_of_ble_eq_true rfl) ?_
        first | refine wp_ifb_ne (pc := 74) 80 dX12_rests_74 (by decide) (fun c74 => ?_) (fun c74 => ?_) | refine wp_if_ne (pc := 74) 80 dX12_rests_74 (by decide) (by first | omega | exact TI.i5 (by assumption) | exact TI.i3 (by assumption) | exact TI.i2 (by assumption) | exact TI.i1 (by assumption) | exact TI.i0 (by assumption) | exact TI.i4 (by assumption) | exact TI.i6 (by assumption) | exact TI.i7 (by assumption)) (fun c74 => ?_) (fun c74 => ?_)
        ·
          have hP : rst v c (10 * n + i) = true := hri.mpr ⟨c62, c74⟩
          have e1 : cnt (rst v c) (10 * n + (i + 1)) = cnt (rst v c) (10 * n + i) + 1 := by show cnt (rst v c) (10 * n + i + 1) = _; rw [cnt_s, if_pos hP] -- go
          refine wp_iload_n (pc := 80) dX12_rests_80 rfl ?_
          first | refine wp_ifb_ne (pc := 81) 98 dX12_rests_81 (by decide) (fun c81 => ?_) (fun c81 => ?_) | refine wp_if_ne (pc := 81) 98 dX12_rests_81 (by decide) (by first | omega | exact TI.i5 (by assumption) | exact TI.i3 (by assumption) | exact TI.i2 (by assumption) | exact TI.i1 (by assumption) | exact TI.i0 (by assumption) | exact TI.i4 (by assumption) | exact TI.i6 (by assumption) | exact TI.i7 (by assumption)) (fun c81 => ?_) (fun c81 => ?_)
          ·
            have e2 : rro (rst v c) (10 * n + (i + 1)) = rro (rst v c) (10 * n + i) := rro_no (k := 10 * n + i) (fun z => c81 (by rw [z.2]; rfl))
            rw [← e2] at hR -- go
            refine wp_iinc (pc := 98) dX12_rests_98 rfl (by decide) ?_
            refine wp_iinc (pc := 101) dX12_rests_101 rfl (by decide) ?_
            refine wp_goto (pc := 104) 46 dX12_rests_104 (by decide) ?_
            first
            | refine wp_ls ?_ (ih (i + 1) (by omega) (by omega) _ _ _ _ K O (by repeat (first | assumption | exact pv10 | exact pv11 | (apply pv_o; decide; decide) | exact upN_eq | (apply upN_ne; decide) | (apply SV_at; assumption; decide) | exact rfl)) (by repeat (first | exact SV.rf | assumption | (apply SV.up1; decide) | (apply SV.tr2; assumption; decide))) (by repeat (first | exact SA.rf | assumption | (apply SA.up1; decide) | (apply SA.tr2; assumption; decide))) hR95')
              rw [e1]
              repeat' (first | exact LE_0 | refine LE_s rfl ?_ | refine LE_s (I_c (by first | omega | (simp only [sm]; omega))) ?_ | refine LE_s (J_c (by first | omega | exact Int.pow_succ _ _ | exact (Int.pow_succ _ _).symm | exact (Int.pow_zero _).symm | (simp only [sm]; omega))) ?_ | refine LE_n ?_)
            | refine wp_ls ?_ (ih (i + 1) (by omega) (by omega) _ _ _ _ K O h6 sV sA hR)
              rw [e1]
              repeat' (first | exact LE_0 | refine LE_s rfl ?_ | refine LE_s (I_c (by first | omega | (simp only [sm]; omega))) ?_ | refine LE_s (J_c (by first | omega | exact Int.pow_succ _ _ | exact (Int.pow_succ _ _).symm | exact (Int.pow_zero _).symm | (simp only [sm]; omega))) ?_ | refine LE_n ?_)
          ·
            have hc0 : cnt (rst v c) (10 * n + i) = 0 := by omega
            have e2 : rro (rst v c) (10 * n + (i + 1)) = [(n : Int), (i : Int)] := by rw [show 10 * n + (i + 1) = 10 * n + i + 1 from rfl, rro_yes hP hc0, show (10 * n + i) / 10 = n by omega, show (10 * n + i) % 10 = i by omega]
            rw [rro_nil hc0] at hR -- go
            refine wp_aload_n (pc := 84) dX12_rests_84 rfl ?_
            refine wp_iload (pc := 85) dX12_rests_85 rfl ?_
            refine wp_i2l (pc := 87) dX12_rests_87 (by first | omega | exact TI.i5 (by assumption) | exact TI.i3 (by assumption) | exact TI.i2 (by assumption) | exact TI.i1 (by assumption) | exact TI.i0 (by assumption) | exact TI.i4 (by assumption) | exact TI.i6 (by assumption) | exact TI.i7 (by assumption)) ?_
            refine wp_Vn (pc := 88) dX12_rests_88 cl_X12_253 (sp_Ref_tellR K hR (by decide)) rfl rfl K.1 (by rfl) (by decide) (Nat.le_of_ble_eq_true rfl) (fun hp88 e88 => ?_)
            obtain ⟨⟨V88, A88, K, sV88, sA88, hR88⟩, O1⟩ := e88; replace O := SO.tr O O1
            refine wp_aload_n (pc := 91) dX12_rests_91 rfl ?_
            refine wp_iload (pc := 92) dX12_rests_92 rfl ?_
            refine wp_i2l (pc := 94) dX12_rests_94 (by first | omega | exact TI.i5 (by assumption) | exact TI.i3 (by assumption) | exact TI.i2 (by assumption) | exact TI.i1 (by assumption) | exact TI.i0 (by assumption) | exact TI.i4 (by assumption) | exact TI.i6 (by assumption) | exact TI.i7 (by assumption)) ?_
            refine wp_Vn (pc := 95) dX12_rests_95 cl_X12_253 (sp_Ref_tellR K hR88 (by simp)) rfl rfl K.1 (by rfl) (by decide) (Nat.le_of_ble_eq_true rfl) (fun hp95 e95 => ?_)
            obtain ⟨⟨V95, A95, K, sV95, sA95, hR95⟩, O1⟩ := e95; replace O := SO.tr O O1
            have hR95' : Mrw V95 A95 (rro (rst v c) (10 * n + (i + 1))) := by rw [e2]; exact hR95
            refine wp_iinc (pc := 98) dX12_rests_98 rfl (by decide) ?_
            refine wp_iinc (pc := 101) dX12_rests_101 rfl (by decide) ?_
            refine wp_goto (pc := 104) 46 dX12_rests_104 (by decide) ?_
            first
            | refine wp_ls ?_ (ih (i + 1) (by omega) (by omega) _ _ _ _ K O (by repeat (first | assumption | exact pv10 | exact pv11 | (apply pv_o; decide; decide) | exact upN_eq | (apply upN_ne; decide) | (apply SV_at; assumption; decide) | exact rfl)) (by repeat (first | exact SV.rf | assumption | (apply SV.up1; decide) | (apply SV.tr2; assumption; decide))) (by repeat (first | exact SA.rf | assumption | (apply SA.up1; decide) | (apply SA.tr2; assumption; decide))) hR95')
              rw [e1]
              repeat' (first | exact LE_0 | refine LE_s rfl ?_ | refine LE_s (I_c (by first | omega | (simp only [sm]; omega))) ?_ | refine LE_s (J_c (by first | omega | exact Int.pow_succ _ _ | exact (Int.pow_succ _ _).symm | exact (Int.pow_zero _).symm | (simp only [sm]; omega))) ?_ | refine LE_n ?_)
            | refine wp_ls ?_ (ih (i + 1) (by omega) (by omega) _ _ _ _ K O h6 sV sA hR)
              rw [e1]
              repeat' (first | exact LE_0 | refine LE_s rfl ?_ | refine LE_s (I_c (by first | omega | (simp only [sm]; omega))) ?_ | refine LE_s (J_c (by first | omega | exact Int.pow_succ _ _ | exact (Int.pow_succ _ _).symm | exact (Int.pow_zero _).symm | (simp only [sm]; omega))) ?_ | refine LE_n ?_)
        ·
          have hP : ¬ rst v c (10 * n + i) = true := fun z => c74 (hri.mp z).2
          have e1 : cnt (rst v c) (10 * n + (i + 1)) = cnt (rst v c) (10 * n + i) := by show cnt (rst v c) (10 * n + i + 1) = _; rw [cnt_s, if_neg hP]; rfl
          have e2 : rro (rst v c) (10 * n + (i + 1)) = rro (rst v c) (10 * n + i) := rro_no (fun z => hP z.1)
          rw [← e2] at hR -- go
          refine wp_goto (pc := 77) 101 dX12_rests_77 (by decide) ?_
          refine wp_iinc (pc := 101) dX12_rests_101 rfl (by decide) ?_
          refine wp_goto (pc := 104) 46 dX12_rests_104 (by decide) ?_
          first
          | refine wp_ls ?_ (ih (i + 1) (by omega) (by omega) _ _ _ _ K O (by repeat (first | assumption | exact pv10 | exact pv11 | (apply pv_o; decide; decide) | exact upN_eq | (apply upN_ne; decide) | (apply SV_at; assumption; decide) | exact rfl)) (by repeat (first | exact SV.rf | assumption | (apply SV.up1; decide) | (apply SV.tr2; assumption; decide))) (by repeat (first | exact SA.rf | assumption | (apply SA.up1; decide) | (apply SA.tr2; assumption; decide))) hR95')
            rw [e1]
            repeat' (first | exact LE_0 | refine LE_s rfl ?_ | refine LE_s (I_c (by first | omega | (simp only [sm]; omega))) ?_ | refine LE_s (J_c (by first | omega | exact Int.pow_succ _ _ | exact (Int.pow_succ _ _).symm | exact (Int.pow_zero _).symm | (simp only [sm]; omega))) ?_ | refine LE_n ?_)
          | refine wp_ls ?_ (ih (i + 1) (by omega) (by omega) _ _ _ _ K O h6 sV sA hR)
            rw [e1]
            repeat' (first | exact LE_0 | refine LE_s rfl ?_ | refine LE_s (I_c (by first | omega | (simp only [sm]; omega))) ?_ | refine LE_s (J_c (by first | omega | exact Int.pow_succ _ _ | exact (Int.pow_succ _ _).symm | exact (Int.pow_zero _).symm | (simp only [sm]; omega))) ?_ | refine LE_n ?_)
theorem lp_rs1 (rv : 0 ≤ v ∧ v ≤ 20) (rc : 0 ≤ c ∧ c ≤ 5) (M : MX V A N T U tx rw rt hs ss KT) : ∀ (m i : Nat), 10 < i + m → i ≤ 10 → ∀ (hp2 : Hp) (V2 : Nat → Int) (A2 : Nat → Int → Int) (rd2 : Value) (K : ModAt hp2 q V2 A2 rd2 (.ref (q + 5))) (O : SO hp hp2 q (q + 25)) (h6 : V2 6 = 0) (sV : SV qV V V2) (sA : SA qA A A2) (hR : Mrw V2 A2 (rro (rst v c) (10 * i))), wp g MX12_rests (rm 2 0 0) (Eff (.int (I ((cnt (rst v c) 100 : Nat) : Int))) (fun hp3 => MAt hp3 q 0 N T U tx (rro (rst v c) 100) rt hs ss KT ∧ SO hp hp3 q (q + 25))) 0 0 36 [some (.ref q), some (.int (I v)), some (.int (I c)), some (.int (I ((cnt (rst v c) (10 * i) : Nat) : Int))), some (.int (I (i : Int))), none] [] hp2 := by
  intro m
  induction m with
  | zero => intro i h1 h2; exact absurd h1 (by omega)
  | succ m ih =>
    intro i h1 h2 hp2 V2 A2 rd2 K O h6 sV sA hR
    refine wp_iload (pc := 36) dX12_rests_36 rfl ?_
    refine wp_bipush (pc := 38) (y := 9) dX12_rests_38 (by decide) ?_
    refine wp_icmp_gt (pc := 40) 113 dX12_rests_40 (by decide) (by first | omega | exact TI.i5 (by assumption) | exact TI.i3 (by assumption) | exact TI.i2 (by assumption) | exact TI.i1 (by assumption) | exact TI.i0 (by assumption) | exact TI.i4 (by assumption) | exact TI.i6 (by assumption) | exact TI.i7 (by assumption)) (by first | omega | exact TI.i5 (by assumption) | exact TI.i3 (by assumption) | exact TI.i2 (by assumption) | exact TI.i1 (by assumption) | exact TI.i0 (by assumption) | exact TI.i4 (by assumption) | exact TI.i6 (by assumption) | exact TI.i7 (by assumption)) (fun c40 => ?_) (fun c40 => ?_)
    ·
      have e : i = 10 := by omega
      subst e -- go
      refine wp_iload_n (pc := 113) dX12_rests_113 rfl ?_
      exact wp_ir (pc := 114) dX12_rests_114 rfl (by decide) (by decide) (by first | rfl | omega) ⟨⟨_, _, _, K, (by repeat (first | assumption | exact pv10 | exact pv11 | (apply pv_o; decide; decide) | exact upN_eq | (apply upN_ne; decide) | (apply SV_at; assumption; decide) | exact rfl)), M.qu (by repeat (first | exact SV.rf | assumption | (apply SV.up1; decide) | (apply SV.tr2; assumption; decide))) (by repeat (first | exact SA.rf | assumption | (apply SA.up1; decide) | (apply SA.tr2; assumption; decide))) (by first | assumption | exact Mrw.z (by repeat (first | assumption | exact pv10 | exact pv11 | (apply pv_o; decide; decide) | exact upN_eq | (apply upN_ne; decide) | (apply SV_at; assumption; decide) | exact rfl)) | exact Mrw.tr (by assumption) (by repeat (first | assumption | exact pv10 | exact pv11 | (apply pv_o; decide; decide) | exact upN_eq | (apply upN_ne; decide) | (apply SV_at; assumption; decide) | exact rfl)) (by repeat (first | assumption | exact upA_eq | (apply upA_ne; first | decide | omega) | (apply SA_at; assumption; first | decide | (simp; omega)) | exact rfl)))⟩, O⟩
    ·
      refine wp_iconst (pc := 43) dX12_rests_43 ?_
      refine wp_istore (pc := 44) dX12_rests_44 (by decide) ?_
      refine wp_ls ?_ (lp_rs2 (n := i) rv rc (by omega) M (fun hp3 V3 A3 rd3 K3 O3 h63 sV3 sA3 hR3 => ?_) 11 0 (by omega) (by omega) _ _ _ _ K O h6 sV sA hR)
      · repeat' (first | exact LE_0 | refine LE_s rfl ?_ | refine LE_s (I_c (by first | omega | (simp only [sm]; omega))) ?_ | refine LE_s (J_c (by first | omega | exact Int.pow_succ _ _ | exact (Int.pow_succ _ _).symm | exact (Int.pow_zero _).symm | (simp only [sm]; omega))) ?_ | refine LE_n ?_)
      · refine wp_iinc (pc := 107) dX12_rests_107 rfl (by decide) ?_
        refine wp_goto (pc := 110) 36 dX12_rests_110 (by decide) ?_
        refine wp_ls ?_ (ih (i + 1) (by omega) (by omega) _ _ _ _ K3 O3 h63 sV3 sA3 (by rw [show 10 * (i + 1) = 10 * i + 10 by omega]; exact hR3))
        rw [show 10 * (i + 1) = 10 * i + 10 by omega]
        repeat' (first | exact LE_0 | refine LE_s rfl ?_ | refine LE_s (I_c (by first | omega | (simp only [sm]; omega))) ?_ | refine LE_s (J_c (by first | omega | exact Int.pow_succ _ _ | exact (Int.pow_succ _ _).symm | exact (Int.pow_zero _).symm | (simp only [sm]; omega))) ?_ | refine LE_n ?_)
abbrev rsO (x y : Int) : Prop := 0 ≤ x ∧ x ≤ 20 ∧ 0 ≤ y ∧ y ≤ 5
theorem sp_Ref_rests (hM : MAt hp q th N T U tx rw rt hs ss KT) (rx : InR x) (ry : InR y) : Sp g MX12_rests (rm 2 0 0) [.ref q, .int (I x), .int (I y)] hp (Eff (.int (I (if rsO x y then ((cnt (rst x y) 100 : Nat) : Int) else -1))) (fun hp2 => MAt hp2 q 0 N T U tx (if rsO x y then rro (rst x y) 100 else rw) rt hs ss KT ∧ SO hp hp2 q (q + 25))) := by
  refine Sp_mk rfl (Nat.le_of_ble_eq_true rfl) ?_
  show wp g _ _ _ 0 0 0 [some (.ref q), some (.int (I x)), some (.int (I y)), none, none, none] [] hp
  have O := SO.rf (hp := hp) (lo := q) (hi := q + 25)
  obtain ⟨V, A, rd, K, hth, M⟩ := hM
  have hu := M.ru (q := q)
  have M2 := M
  obtain ⟨m1, mA, mt, mr, mu, mU, mh, ms, mk⟩ := M2
  refine wp_aload_n (pc := 0) dX12_rests_0 rfl ?_
  refine wp_iconst (pc := 1) dX12_rests_1 ?_
  refine wm_put dX12_rests_2 pf_X12_85 K O (by decide) mset_6 rfl rfl (fun hp K O => ?_)
  refine wp_iload_n (pc := 5) dX12_rests_5 rfl ?_
  refine wp_iconst (pc := 6) dX12_rests_6 ?_
  refine wp_bipush (pc := 7) (y := 20) dX12_rests_7 (by decide) ?_
  refine wp_Sp (pc := 9) dX12_rests_9 cl_X12_95 (sp_Ref_in (by first | assumption | omega | (repeat (first | assumption | exact pv10 | exact pv11 | (apply pv_o; decide; decide) | exact upN_eq | (apply upN_ne; decide) | (apply SV_at; assumption; decide) | exact upA_eq | (apply upA_ne; first | decide | omega) | (apply SA_at; assumption; first | decide | (simp; omega)) | exact rfl))) (by first | assumption | omega | (repeat (first | assumption | exact pv10 | exact pv11 | (apply pv_o; decide; decide) | exact upN_eq | (apply upN_ne; decide) | (apply SV_at; assumption; decide) | exact upA_eq | (apply upA_ne; first | decide | omega) | (apply SA_at; assumption; first | decide | (simp; omega)) | exact rfl))) (by first | assumption | omega | (repeat (first | assumption | exact pv10 | exact pv11 | (apply pv_o; decide; decide) | exact upN_eq | (apply upN_ne; decide) | (apply SV_at; assumption; decide) | exact upA_eq | (apply upA_ne; first | decide | omega) | (apply SA_at; assumption; first | decide | (simp; omega)) | exact rfl)))) rfl rfl (by decide) (Nat.le_of_ble_eq_true rfl) ?_
  first | refine wp_ifb_eq (pc := 12) 24 dX12_rests_12 (by decide) (fun c12 => ?_) (fun c12 => ?_) | refine wp_if_eq (pc := 12) 24 dX12_rests_12 (by decide) (by first | omega | exact TI.i5 (by assumption) | exact TI.i3 (by assumption) | exact TI.i2 (by assumption) | exact TI.i1 (by assumption) | exact TI.i0 (by assumption) | exact TI.i4 (by assumption) | exact TI.i6 (by assumption) | exact TI.i7 (by assumption)) (fun c12 => ?_) (fun c12 => ?_)
  ·
    rw [if_neg (show ¬ rsO x y by omega), if_neg (show ¬ rsO x y by omega)] -- go
    refine wp_iconst (pc := 24) dX12_rests_24 ?_
    exact wp_ir (pc := 25) dX12_rests_25 rfl (by decide) (by decide) (by first | rfl | omega) ⟨⟨_, _, _, K, (by repeat (first | assumption | exact pv10 | exact pv11 | (apply pv_o; decide; decide) | exact upN_eq | (apply upN_ne; decide) | (apply SV_at; assumption; decide) | exact rfl)), M.qu (by repeat (first | exact SV.rf | assumption | (apply SV.up1; decide) | (apply SV.tr2; assumption; decide))) (by repeat (first | exact SA.rf | assumption | (apply SA.up1; decide) | (apply SA.tr2; assumption; decide))) (by first | assumption | exact Mrw.z (by repeat (first | assumption | exact pv10 | exact pv11 | (apply pv_o; decide; decide) | exact upN_eq | (apply upN_ne; decide) | (apply SV_at; assumption; decide) | exact rfl)) | exact Mrw.tr (by assumption) (by repeat (first | assumption | exact pv10 | exact pv11 | (apply pv_o; decide; decide) | exact upN_eq | (apply upN_ne; decide) | (apply SV_at; assumption; decide) | exact rfl)) (by repeat (first | assumption | exact upA_eq | (apply upA_ne; first | decide | omega) | (apply SA_at; assumption; first | decide | (simp; omega)) | exact rfl)))⟩, O⟩
  ·
    refine wp_iload_n (pc := 15) dX12_rests_15 rfl ?_
    refine wp_iconst (pc := 16) dX12_rests_16 ?_
    refine wp_iconst (pc := 17) dX12_rests_17 ?_
    refine wp_Sp (pc := 18) dX12_rests_18 cl_X12_95 (sp_Ref_in (by first | assumption | omega | (repeat (first | assumption | exact pv10 | exact pv11 | (apply pv_o; decide; decide) | exact upN_eq | (apply upN_ne; decide) | (apply SV_at; assumption; decide) | exact upA_eq | (apply upA_ne; first | decide | omega) | (apply SA_at; assumption; first | decide | (simp; omega)) | exact rfl))) (by first | assumption | omega | (repeat (first | assumption | exact pv10 | exact pv11 | (apply pv_o; decide; decide) | exact upN_eq | (apply upN_ne; decide) | (apply SV_at; assumption; decide) | exact upA_eq | (apply upA_ne; first | decide | omega) | (apply SA_at; assumption; first | decide | (simp; omega)) | exact rfl))) (by first | assumption | omega | (repeat (first | assumption | exact pv10 | exact pv11 | (apply pv_o; decide; decide) | exact upN_eq | (apply upN_ne; decide) | (apply SV_at; assumption; decide) | exact upA_eq | (apply upA_ne; first | decide | omega) | (apply SA_at; assumption; first | decide | (simp; omega)) | exact rfl)))) rfl rfl (by decide) (Nat.le_of_ble_eq_true rfl) ?_
    first | refine wp_ifb_ne (pc := 21) 26 dX12_rests_21 (by decide) (fun c21 => ?_) (fun c21 => ?_) | refine wp_if_ne (pc := 21) 26 dX12_rests_21 (by decide) (by first | omega | exact TI.i5 (by assumption) | exact TI.i3 (by assumption) | exact TI.i2 (by assumption) | exact TI.i1 (by assumption) | exact TI.i0 (by assumption) | exact TI.i4 (by assumption) | exact TI.i6 (by assumption) | exact TI.i7 (by assumption)) (fun c21 => ?_) (fun c21 => ?_)
    ·
      rw [if_pos (show rsO x y by omega), if_pos (show rsO x y by omega)] -- go
      refine wp_iconst (pc := 26) dX12_rests_26 ?_
      refine wp_istore_n (pc := 27) dX12_rests_27 (by decide) ?_
      refine wp_aload_n (pc := 28) dX12_rests_28 rfl ?_
      refine wp_iconst (pc := 29) dX12_rests_29 ?_
      refine wm_put dX12_rests_30 pf_X12_89 K O (by decide) mset_5 rfl rfl (fun hp K O => ?_)
      refine wp_iconst (pc := 33) dX12_rests_33 ?_
      refine wp_istore (pc := 34) dX12_rests_34 (by decide) ?_
      refine wp_ls ?_ (lp_rs1 (by omega) (by omega) M 11 0 (by omega) (by omega) _ _ _ _ K O (by repeat (first | assumption | exact pv10 | exact pv11 | (apply pv_o; decide; decide) | exact upN_eq | (apply upN_ne; decide) | (apply SV_at; assumption; decide) | exact rfl)) (by repeat (first | exact SV.rf | assumption | (apply SV.up1; decide) | (apply SV.tr2; assumption; decide))) (by repeat (first | exact SA.rf | assumption | (apply SA.up1; decide) | (apply SA.tr2; assumption; decide))) (by rw [show rro (rst x y) (10 * 0) = [] from rfl]; exact (by first | assumption | exact Mrw.z (by repeat (first | assumption | exact pv10 | exact pv11 | (apply pv_o; decide; decide) | exact upN_eq | (apply upN_ne; decide) | (apply SV_at; assumption; decide) | exact rfl)) | exact Mrw.tr (by assumption) (by repeat (first | assumption | exact pv10 | exact pv11 | (apply pv_o; decide; decide) | exact upN_eq | (apply upN_ne; decide) | (apply SV_at; assumption; decide) | exact rfl)) (by repeat (first | assumption | exact upA_eq | (apply upA_ne; first | decide | omega) | (apply SA_at; assumption; first | decide | (simp; omega)) | exact rfl)))))
      repeat' (first | exact LE_0 | refine LE_s rfl ?_ | refine LE_s (I_c (by first | omega | (simp only [sm]; omega))) ?_ | refine LE_s (J_c (by first | omega | exact Int.pow_succ _ _ | exact (Int.pow_succ _ _).symm | exact (Int.pow_zero _).symm | (simp only [sm]; omega))) ?_ | refine LE_n ?_)
    ·
      rw [if_neg (show ¬ rsO x y by omega), if_neg (show ¬ rsO x y by omega)] -- go
      refine wp_iconst (pc := 24) dX12_rests_24 ?_
      exact wp_ir (pc := 25) dX12_rests_25 rfl (by decide) (by decide) (by first | rfl | omega) ⟨⟨_, _, _, K, (by repeat (first | assumption | exact pv10 | exact pv11 | (apply pv_o; decide; decide) | exact upN_eq | (apply upN_ne; decide) | (apply SV_at; assumption; decide) | exact rfl)), M.qu (by repeat (first | exact SV.rf | assumption | (apply SV.up1; decide) | (apply SV.tr2; assumption; decide))) (by repeat (first | exact SA.rf | assumption | (apply SA.up1; decide) | (apply SA.tr2; assumption; decide))) (by first | assumption | exact Mrw.z (by repeat (first | assumption | exact pv10 | exact pv11 | (apply pv_o; decide; decide) | exact upN_eq | (apply upN_ne; decide) | (apply SV_at; assumption; decide) | exact rfl)) | exact Mrw.tr (by assumption) (by repeat (first | assumption | exact pv10 | exact pv11 | (apply pv_o; decide; decide) | exact upN_eq | (apply upN_ne; decide) | (apply SV_at; assumption; decide) | exact rfl)) (by repeat (first | assumption | exact upA_eq | (apply upA_ne; first | decide | omega) | (apply SA_at; assumption; first | decide | (simp; omega)) | exact rfl)))⟩, O⟩
/-! years -/
theorem sp_Ref_draw (K : ModAt hp q V A rd rl) (h35 : V 35 = x) (hy : 0 < y ∧ y < 65536) : Sp g MX12_draw (rm 0 0 0) [.ref q, .int (I y)] hp (Eff (.int (I (hi16 (nxt x) % y))) (fun hp2 => ModAt hp2 q (upN V 35 (nxt x)) A rd rl ∧ SO hp hp2 q (q + 25))) := by
  have hh := hi16_in (nxt x)
  refine Sp_mk rfl (Nat.le_of_ble_eq_true rfl) ?_
  show wp g _ _ _ 0 0 0 [some (.ref q), some (.int (I y))] [] hp
  have O := SO.rf (hp := hp) (lo := q) (hi := q + 25)
  refine wp_aload_n (pc := 0) dX12_draw_0 rfl ?_
  refine wp_aload_n (pc := 1) dX12_draw_1 rfl ?_
  refine wm_gets dX12_draw_2 gf_X12_375 K (by rfl) (by repeat (first | assumption | exact pv10 | exact pv11 | (apply pv_o; decide; decide) | exact upN_eq | (apply upN_ne; decide) | (apply SV_at; assumption; decide) | exact rfl)) ?_
  refine wp_ldcw (pc := 5) (y := 1103515245) dX12_draw_5 kc_X12_378 ?_
  refine wp_imul (pc := 8) dX12_draw_8 ?_
  refine wp_sipush (pc := 9) (y := 12345) dX12_draw_9 (by decide) ?_
  refine wp_iadd (pc := 12) dX12_draw_12 ?_
  refine wm_put (V2 := upN V 35 (nxt x)) dX12_draw_13 pf_X12_375 K O (by decide) (by unfold nxt; exact mset_35) rfl rfl (fun hp K O => ?_)
  refine wp_aload_n (pc := 16) dX12_draw_16 rfl ?_
  refine wm_gets dX12_draw_17 gf_X12_375 K (by rfl) (by repeat (first | assumption | exact pv10 | exact pv11 | (apply pv_o; decide; decide) | exact upN_eq | (apply upN_ne; decide) | (apply SV_at; assumption; decide) | exact rfl)) ?_
  refine wp_bipush (pc := 20) (y := 16) dX12_draw_20 (by decide) ?_
  refine wp_iushr (pc := 22) dX12_draw_22 (hi16_ok (nxt x)) ?_
  refine wp_iload_n (pc := 23) dX12_draw_23 rfl ?_
  refine wp_irem (pc := 24) dX12_draw_24 (I_ne0 (by omega) (by omega)) (I_rem hh.1 (by omega) (by omega) (by omega)) ?_
  exact wp_ir (pc := 25) dX12_draw_25 rfl (by decide) (by decide) (by first | rfl | omega) (by first | exact ⟨K, O⟩ | rfl)
def yst (cs : List Int) (N : Nat) (s : (Nat → Int → Int) × Int) : (Nat → Int → Int) × Int := if hi16 (nxt s.2) % 4 < 2 then (pasT cs s.1 N, nxt s.2) else if N = 0 then (s.1, nxt s.2) else if hi16 (nxt s.2) % 4 = 2 then (dieT s.1 N (hi16 (nxt (nxt s.2)) % N) (hi16 (nxt (nxt (nxt s.2))) % 9 + 1), nxt (nxt (nxt s.2))) else (couT s.1 N (hi16 (nxt (nxt s.2)) % N), nxt (nxt s.2))
def yrs (cs : List Int) (T : Nat → Int → Int) (N : Nat) (x : Int) : Nat → (Nat → Int → Int) × Int
  | 0 => (T, x)
  | i + 1 => yst cs N (yrs cs T N x i)
theorem couT_7 : couT T N x 7 = T 7 := by unfold couT; split <;> rfl
theorem couT_HS (hH : HS T) : HS (couT T N x) := by
  unfold couT
  split
  · exact fun i hi => hH i hi
  · exact hH
theorem yst_I {cs : List Int} {r : (Nat → Int → Int) × Int} (hI : TI r.1 N) (hH : HS r.1) (hb : r.1 7 0 + 1 < 2000000000) : TI (yst cs N r).1 N ∧ HS (yst cs N r).1 ∧ (yst cs N r).1 7 0 ≤ r.1 7 0 + 1 := by
  unfold yst
  by_cases z1 : hi16 (nxt r.2) % 4 < 2
  · rw [if_pos z1]; exact ⟨pasT_I hI hb, pasT_HS hI hH, Int.le_refl _⟩
  · rw [if_neg z1]
    by_cases z2 : N = 0
    · rw [if_pos z2]; exact ⟨hI, hH, by show r.1 7 0 ≤ _; omega⟩
    · rw [if_neg z2]
      by_cases z3 : hi16 (nxt r.2) % 4 = 2
      · rw [if_pos z3]; exact ⟨dieT_I hI, dieT_HS hH, by show dieT _ _ _ _ 7 0 ≤ _; rw [dieT_7]; omega⟩
      · rw [if_neg z3]; exact ⟨couT_I hI, couT_HS hH, by show couT _ _ _ 7 0 ≤ _; rw [couT_7]; omega⟩
theorem yrs_I {cs : List Int} (hI : TI T N) (hH : HS T) (hb : T 7 0 < 1900000000) : ∀ n : Nat, n ≤ 100 → TI (yrs cs T N x n).1 N ∧ HS (yrs cs T N x n).1 ∧ (yrs cs T N x n).1 7 0 ≤ T 7 0 + n
  | 0, _ => ⟨hI, hH, by show T 7 0 ≤ _; omega⟩
  | n + 1, hn => by
    obtain ⟨h1, h2, h3⟩ := yrs_I hI hH hb n (by omega)
    obtain ⟨a, b, c⟩ := yst_I (cs := cs) h1 h2 (by omega)
    exact ⟨a, b, by show (yst cs N (yrs cs T N x n)).1 7 0 ≤ _; omega⟩
theorem lp_Ref_years (hI : TI T N) (hH : HS T) (hb : T 7 0 < 1900000000) (M : MX V A N T U tx rw rt hs ss KT) (hn : n ≤ 60) : ∀ (m i : Nat), n < i + m → i ≤ n → ∀ (hp2 : Hp) (V2 : Nat → Int) (A2 : Nat → Int → Int) (rd2 : Value) (K : ModAt hp2 q V2 A2 rd2 (.ref (q + 5))) (O : SO hp hp2 q (q + 25)) (h6 : V2 6 = 0) (sV : SV qV V V2) (sA : SA qA A A2) (h35 : V2 35 = (yrs (stl rt) T N x i).2) (hA2 : A2 10 = flat (yrs (stl rt) T N x i).1), wp g MX12_years (rm 231 0 0) (Eff (.int (I (sm ((yrs (stl rt) T N x n).1 3) N))) (fun hp3 => MAt hp3 q 0 N T U tx [dct (yrs (stl rt) T N x n).1 N, sm ((yrs (stl rt) T N x n).1 4) N] rt hs ss KT ∧ SO hp hp3 q (q + 25))) 0 0 36 [some (.ref q), none, some (.int (I (n : Int))), some (.int (I (i : Int))), none, none, none] [] hp2 := by
  intro m
  induction m with
  | zero => intro i h1 h2; exact absurd h1 (by omega)
  | succ m ih =>
    intro i h1 h2 hp2 V2 A2 rd2 K O h6 sV sA h35 hA2
    have hN := hI.men.2
    have m1 := M.1
    have hu := M.ru (q := q)
    obtain ⟨hI2, hH2, hb2⟩ := yrs_I (cs := stl rt) (x := x) hI hH hb i (by omega)
    have es : yrs (stl rt) T N x (i + 1) = yst (stl rt) N (yrs (stl rt) T N x i) := rfl
    generalize hg : yrs (stl rt) T N x i = r at *
    have hh := hi16_in (nxt r.2)
    have hdd := dct_in r.1 N
    have hs4 : 0 ≤ sm (r.1 4) N ∧ sm (r.1 4) N ≤ 600 := by
      have := sm_range (f := r.1 4) (lo := 0) (hi := 99) (n := N) (fun j _ => hI2.r4 j)
      omega
    refine wp_iload_n (pc := 36) dX12_years_36 rfl ?_
    refine wp_iload_n (pc := 37) dX12_years_37 rfl ?_
    refine wp_icmp_ge (pc := 38) 162 dX12_years_38 (by decide) (by first | omega | exact TI.i5 (by assumption) | exact TI.i3 (by assumption) | exact TI.i2 (by assumption) | exact TI.i1 (by assumption) | exact TI.i0 (by assumption) | exact TI.i4 (by assumption) | exact TI.i6 (by assumption) | exact TI.i7 (by assumption)) (by first | omega | exact TI.i5 (by assumption) | exact TI.i3 (by assumption) | exact TI.i2 (by assumption) | exact TI.i1 (by assumption) | exact TI.i0 (by assumption) | exact TI.i4 (by assumption) | exact TI.i6 (by assumption) | exact TI.i7 (by assumption)) (fun c38 => ?_) (fun c38 => ?_)
    ·
      have e : i = n := by omega
      subst e
      rw [hg] -- go
      refine wp_aload_n (pc := 162) dX12_years_162 rfl ?_
      refine wp_iconst (pc := 163) dX12_years_163 ?_
      refine wm_put dX12_years_164 pf_X12_89 K O (by decide) mset_5 rfl rfl (fun hp K O => ?_)
      refine wp_aload_n (pc := 167) dX12_years_167 rfl ?_
      refine wp_aload_n (pc := 168) dX12_years_168 rfl ?_
      refine wp_aload_n (pc := 169) dX12_years_169 rfl ?_
      refine wm_get dX12_years_170 gf_X12_39 K (by rfl) ?_
      refine wp_Vp (pc := 173) dX12_years_173 cl_X12_235 (sp_Ref_deadOnes K (by repeat (first | assumption | exact pv10 | exact pv11 | (apply pv_o; decide; decide) | exact upN_eq | (apply upN_ne; decide) | (apply SV_at; assumption; decide) | exact rfl)) hI2 (.inr rfl) (by repeat (first | assumption | exact upA_eq | (apply upA_ne; first | decide | omega) | (apply SA_at; assumption; first | decide | (simp; omega)) | exact rfl))) rfl rfl K.1 (by rfl) (by decide) (Nat.le_of_ble_eq_true rfl) ?_
      refine wp_Sp (pc := 176) dX12_years_176 cl_X12_257 (sp_Integer_bitCount (bits64 hN)) rfl rfl (by decide) (Nat.le_of_ble_eq_true rfl) ?_
      refine wp_topE (dct_eq hN) ?_
      refine wp_i2l (pc := 179) dX12_years_179 (by first | omega | exact TI.i5 (by assumption) | exact TI.i3 (by assumption) | exact TI.i2 (by assumption) | exact TI.i1 (by assumption) | exact TI.i0 (by assumption) | exact TI.i4 (by assumption) | exact TI.i6 (by assumption) | exact TI.i7 (by assumption)) ?_
      refine wp_Vn (pc := 180) dX12_years_180 cl_X12_253 (sp_Ref_tellR K (by first | assumption | exact Mrw.z (by repeat (first | assumption | exact pv10 | exact pv11 | (apply pv_o; decide; decide) | exact upN_eq | (apply upN_ne; decide) | (apply SV_at; assumption; decide) | exact rfl))) (by first | decide | (simp; omega) | simp | omega)) rfl rfl K.1 (by rfl) (by decide) (Nat.le_of_ble_eq_true rfl) (fun hp180 e180 => ?_)
      obtain ⟨⟨V180, A180, K, sV180, sA180, hR180⟩, O1⟩ := e180; replace O := SO.tr O O1
      refine wp_aload_n (pc := 183) dX12_years_183 rfl ?_
      refine wp_aload_n (pc := 184) dX12_years_184 rfl ?_
      refine wp_aload_n (pc := 185) dX12_years_185 rfl ?_
      refine wm_get dX12_years_186 gf_X12_39 K (by rfl) ?_
      refine wp_bipush (pc := 189) (y := 48) dX12_years_189 (by decide) ?_
      refine wp_Vp (pc := 191) dX12_years_191 cl_X12_220 (sp_sum4 K (by repeat (first | assumption | exact pv10 | exact pv11 | (apply pv_o; decide; decide) | exact upN_eq | (apply upN_ne; decide) | (apply SV_at; assumption; decide) | exact rfl)) hN (.inr rfl) (by repeat (first | assumption | exact upA_eq | (apply upA_ne; first | decide | omega) | (apply SA_at; assumption; first | decide | (simp; omega)) | exact rfl))) rfl rfl K.1 (by rfl) (by decide) (Nat.le_of_ble_eq_true rfl) ?_
      refine wp_i2l (pc := 194) dX12_years_194 (by first | omega | exact TI.i5 (by assumption) | exact TI.i3 (by assumption) | exact TI.i2 (by assumption) | exact TI.i1 (by assumption) | exact TI.i0 (by assumption) | exact TI.i4 (by assumption) | exact TI.i6 (by assumption) | exact TI.i7 (by assumption)) ?_
      refine wp_Vn (pc := 195) dX12_years_195 cl_X12_253 (sp_Ref_tellR K (by first | assumption | exact Mrw.z (by repeat (first | assumption | exact pv10 | exact pv11 | (apply pv_o; decide; decide) | exact upN_eq | (apply upN_ne; decide) | (apply SV_at; assumption; decide) | exact rfl))) (by first | decide | (simp; omega) | simp | omega)) rfl rfl K.1 (by rfl) (by decide) (Nat.le_of_ble_eq_true rfl) (fun hp195 e195 => ?_)
      obtain ⟨⟨V195, A195, K, sV195, sA195, hR195⟩, O1⟩ := e195; replace O := SO.tr O O1
      refine wp_aload_n (pc := 198) dX12_years_198 rfl ?_
      refine wp_aload_n (pc := 199) dX12_years_199 rfl ?_
      refine wm_get dX12_years_200 gf_X12_39 K (by rfl) ?_
      refine wp_bipush (pc := 203) (y := 42) dX12_years_203 (by decide) ?_
      refine wp_Vp (pc := 205) dX12_years_205 cl_X12_220 (sp_sum3 K (by repeat (first | assumption | exact pv10 | exact pv11 | (apply pv_o; decide; decide) | exact upN_eq | (apply upN_ne; decide) | (apply SV_at; assumption; decide) | exact rfl)) hN (.inr rfl) (by repeat (first | assumption | exact upA_eq | (apply upA_ne; first | decide | omega) | (apply SA_at; assumption; first | decide | (simp; omega)) | exact rfl))) rfl rfl K.1 (by rfl) (by decide) (Nat.le_of_ble_eq_true rfl) ?_
      exact wp_ir (pc := 208) dX12_years_208 rfl (by decide) (by decide) (by first | rfl | omega) ⟨⟨_, _, _, K, (by repeat (first | assumption | exact pv10 | exact pv11 | (apply pv_o; decide; decide) | exact upN_eq | (apply upN_ne; decide) | (apply SV_at; assumption; decide) | exact rfl)), M.qu (by repeat (first | exact SV.rf | assumption | (apply SV.up1; decide) | (apply SV.tr2; assumption; decide))) (by repeat (first | exact SA.rf | assumption | (apply SA.up1; decide) | (apply SA.tr2; assumption; decide))) (by first | assumption | exact Mrw.z (by repeat (first | assumption | exact pv10 | exact pv11 | (apply pv_o; decide; decide) | exact upN_eq | (apply upN_ne; decide) | (apply SV_at; assumption; decide) | exact rfl)) | exact Mrw.tr (by assumption) (by repeat (first | assumption | exact pv10 | exact pv11 | (apply pv_o; decide; decide) | exact upN_eq | (apply upN_ne; decide) | (apply SV_at; assumption; decide) | exact rfl)) (by repeat (first | assumption | exact upA_eq | (apply upA_ne; first | decide | omega) | (apply SA_at; assumption; first | decide | (simp; omega)) | exact rfl)))⟩, O⟩
    ·
      first
      | (exfalso; omega)
      | skip
        refine wp_aload_n (pc := 41) dX12_years_41 rfl ?_
        refine wp_iconst (pc := 42) dX12_years_42 ?_
        refine wp_Vs (pc := 43) dX12_years_43 cl_X12_379 (sp_Ref_draw K h35 (by decide)) rfl rfl K.1 (by rfl) (by decide) (Nat.le_of_ble_eq_true rfl) (fun hp43 e43 => ?_)
        obtain ⟨K, O1⟩ := e43
        replace O := SO.tr O O1
        refine wp_istore (pc := 46) dX12_years_46 (by decide) ?_
        refine wp_iload (pc := 48) dX12_years_48 rfl ?_
        refine wp_iconst (pc := 50) dX12_years_50 ?_
        refine wp_icmp_ge (pc := 51) 63 dX12_years_51 (by decide) (by first | omega | exact TI.i5 (by assumption) | exact TI.i3 (by assumption) | exact TI.i2 (by assumption) | exact TI.i1 (by assumption) | exact TI.i0 (by assumption) | exact TI.i4 (by assumption) | exact TI.i6 (by assumption) | exact TI.i7 (by assumption)) (by first | omega | exact TI.i5 (by assumption) | exact TI.i3 (by assumption) | exact TI.i2 (by assumption) | exact TI.i1 (by assumption) | exact TI.i0 (by assumption) | exact TI.i4 (by assumption) | exact TI.i6 (by assumption) | exact TI.i7 (by assumption)) (fun c51 => ?_) (fun c51 => ?_)
        ·
          have e0 : yst (stl rt) N r = if N = 0 then (r.1, nxt r.2) else if hi16 (nxt r.2) % 4 = 2 then (dieT r.1 N (hi16 (nxt (nxt r.2)) % N) (hi16 (nxt (nxt (nxt r.2))) % 9 + 1), nxt (nxt (nxt r.2))) else (couT r.1 N (hi16 (nxt (nxt r.2)) % N), nxt (nxt r.2)) := if_neg (by omega)
          skip -- go
          refine wp_iload (pc := 63) dX12_years_63 rfl ?_
          refine wp_iconst (pc := 65) dX12_years_65 ?_
          refine wp_icmp_lt (pc := 66) 156 dX12_years_66 (by decide) (by first | omega | exact TI.i5 (by assumption) | exact TI.i3 (by assumption) | exact TI.i2 (by assumption) | exact TI.i1 (by assumption) | exact TI.i0 (by assumption) | exact TI.i4 (by assumption) | exact TI.i6 (by assumption) | exact TI.i7 (by assumption)) (by first | omega | exact TI.i5 (by assumption) | exact TI.i3 (by assumption) | exact TI.i2 (by assumption) | exact TI.i1 (by assumption) | exact TI.i0 (by assumption) | exact TI.i4 (by assumption) | exact TI.i6 (by assumption) | exact TI.i7 (by assumption)) (fun c66 => ?_) (fun c66 => ?_)
          ·
            first
            | (exfalso; omega)
            | skip
              refine wp_iinc (pc := 156) dX12_years_156 rfl (by decide) ?_
              refine wp_goto (pc := 159) 36 dX12_years_159 (by decide) ?_
              refine wp_ls ?_ (ih (i + 1) (by omega) (by omega) _ _ _ _ K O (by repeat (first | assumption | exact pv10 | exact pv11 | (apply pv_o; decide; decide) | exact upN_eq | (apply upN_ne; decide) | (apply SV_at; assumption; decide) | exact rfl)) (by repeat (first | exact SV.rf | assumption | (apply SV.up1; decide) | (apply SV.tr2; assumption; decide))) (by repeat (first | exact SA.rf | assumption | (apply SA.up1; decide) | (apply SA.tr2; assumption; decide))) (by rw [e1]; exact (by repeat (first | assumption | exact pv10 | exact pv11 | (apply pv_o; decide; decide) | exact upN_eq | (apply upN_ne; decide) | (apply SV_at; assumption; decide) | exact rfl))) (by rw [e1]; exact (by repeat (first | assumption | exact upA_eq | (apply upA_ne; first | decide | omega) | (apply SA_at; assumption; first | decide | (simp; omega)) | exact rfl))))
              repeat' (first | exact LE_0 | refine LE_s rfl ?_ | refine LE_s (I_c (by first | omega | (simp only [sm]; omega))) ?_ | refine LE_s (J_c (by first | omega | exact Int.pow_succ _ _ | exact (Int.pow_succ _ _).symm | exact (Int.pow_zero _).symm | (simp only [sm]; omega))) ?_ | refine LE_n ?_)
          ·
            first
            | (exfalso; omega)
            | skip
              refine wp_aload_n (pc := 69) dX12_years_69 rfl ?_
              refine wm_gets dX12_years_70 gf_X12_92 K (by rfl) (by repeat (first | assumption | exact pv10 | exact pv11 | (apply pv_o; decide; decide) | exact upN_eq | (apply upN_ne; decide) | (apply SV_at; assumption; decide) | exact rfl)) ?_
              first | refine wp_ifb_ne (pc := 73) 79 dX12_years_73 (by decide) (fun c73 => ?_) (fun c73 => ?_) | refine wp_if_ne (pc := 73) 79 dX12_years_73 (by decide) (by first | omega | exact TI.i5 (by assumption) | exact TI.i3 (by assumption) | exact TI.i2 (by assumption) | exact TI.i1 (by assumption) | exact TI.i0 (by assumption) | exact TI.i4 (by assumption) | exact TI.i6 (by assumption) | exact TI.i7 (by assumption)) (fun c73 => ?_) (fun c73 => ?_)
              ·
                have e2 : yst (stl rt) N r = if hi16 (nxt r.2) % 4 = 2 then (dieT r.1 N (hi16 (nxt (nxt r.2)) % N) (hi16 (nxt (nxt (nxt r.2))) % 9 + 1), nxt (nxt (nxt r.2))) else (couT r.1 N (hi16 (nxt (nxt r.2)) % N), nxt (nxt r.2)) := by rw [e0]; exact if_neg (by omega)
                have hm2 := Int.emod_nonneg (hi16 (nxt (nxt r.2))) (show (N : Int) ≠ 0 by omega)
                have hm3 := Int.emod_lt_of_pos (hi16 (nxt (nxt r.2))) (show (0 : Int) < N by omega) -- go
                refine wp_aload_n (pc := 79) dX12_years_79 rfl ?_
                refine wp_aload_n (pc := 80) dX12_years_80 rfl ?_
                refine wm_gets dX12_years_81 gf_X12_92 K (by rfl) (by repeat (first | assumption | exact pv10 | exact pv11 | (apply pv_o; decide; decide) | exact upN_eq | (apply upN_ne; decide) | (apply SV_at; assumption; decide) | exact rfl)) ?_
                refine wp_Vs (pc := 84) dX12_years_84 cl_X12_379 (sp_Ref_draw K (by repeat (first | assumption | exact pv10 | exact pv11 | (apply pv_o; decide; decide) | exact upN_eq | (apply upN_ne; decide) | (apply SV_at; assumption; decide) | exact rfl)) (by omega)) rfl rfl K.1 (by rfl) (by decide) (Nat.le_of_ble_eq_true rfl) (fun hp84 e84 => ?_)
                obtain ⟨K, O1⟩ := e84
                replace O := SO.tr O O1
                refine wp_istore (pc := 87) dX12_years_87 (by decide) ?_
                refine wp_iload (pc := 89) dX12_years_89 rfl ?_
                refine wp_iconst (pc := 91) dX12_years_91 ?_
                refine wp_icmp_ne (pc := 92) 134 dX12_years_92 (by decide) (by first | omega | exact TI.i5 (by assumption) | exact TI.i3 (by assumption) | exact TI.i2 (by assumption) | exact TI.i1 (by assumption) | exact TI.i0 (by assumption) | exact TI.i4 (by assumption) | exact TI.i6 (by assumption) | exact TI.i7 (by assumption)) (by first | omega | exact TI.i5 (by assumption) | exact TI.i3 (by assumption) | exact TI.i2 (by assumption) | exact TI.i1 (by assumption) | exact TI.i0 (by assumption) | exact TI.i4 (by assumption) | exact TI.i6 (by assumption) | exact TI.i7 (by assumption)) (fun c92 => ?_) (fun c92 => ?_)
                ·
                  have e1 : yrs (stl rt) T N x (i + 1) = (couT r.1 N (hi16 (nxt (nxt r.2)) % N), nxt (nxt r.2)) := by rw [es, e2]; exact if_neg c92
                  skip -- go
                  refine wp_aload_n (pc := 134) dX12_years_134 rfl ?_
                  refine wp_aload_n (pc := 135) dX12_years_135 rfl ?_
                  refine wm_get dX12_years_136 gf_X12_39 K (by rfl) ?_
                  refine wp_iload (pc := 139) dX12_years_139 rfl ?_
                  refine wp_Vp (pc := 141) dX12_years_141 cl_X12_267 (sp_Ref_refusesCough K (by repeat (first | assumption | exact pv10 | exact pv11 | (apply pv_o; decide; decide) | exact upN_eq | (apply upN_ne; decide) | (apply SV_at; assumption; decide) | exact rfl)) hI2 (.inr rfl) (by repeat (first | assumption | exact upA_eq | (apply upA_ne; first | decide | omega) | (apply SA_at; assumption; first | decide | (simp; omega)) | exact rfl)) (by omega)) rfl rfl K.1 (by rfl) (by decide) (Nat.le_of_ble_eq_true rfl) ?_
                  first | refine wp_ifb_ne (pc := 144) 156 dX12_years_144 (by decide) (fun c144 => ?_) (fun c144 => ?_) | refine wp_if_ne (pc := 144) 156 dX12_years_144 (by decide) (by (repeat' split) <;> omega) (fun c144 => ?_) (fun c144 => ?_)
                  ·
                    have eT : couT r.1 N (hi16 (nxt (nxt r.2)) % N) = r.1 := if_neg (fun z => c144 (by rw [if_neg (by omega), if_neg (by omega)]))
                    rw [eT] at e1 -- go
                    refine wp_iinc (pc := 156) dX12_years_156 rfl (by decide) ?_
                    refine wp_goto (pc := 159) 36 dX12_years_159 (by decide) ?_
                    refine wp_ls ?_ (ih (i + 1) (by omega) (by omega) _ _ _ _ K O (by repeat (first | assumption | exact pv10 | exact pv11 | (apply pv_o; decide; decide) | exact upN_eq | (apply upN_ne; decide) | (apply SV_at; assumption; decide) | exact rfl)) (by repeat (first | exact SV.rf | assumption | (apply SV.up1; decide) | (apply SV.tr2; assumption; decide))) (by repeat (first | exact SA.rf | assumption | (apply SA.up1; decide) | (apply SA.tr2; assumption; decide))) (by rw [e1]; exact (by repeat (first | assumption | exact pv10 | exact pv11 | (apply pv_o; decide; decide) | exact upN_eq | (apply upN_ne; decide) | (apply SV_at; assumption; decide) | exact rfl))) (by rw [e1]; exact (by repeat (first | assumption | exact upA_eq | (apply upA_ne; first | decide | omega) | (apply SA_at; assumption; first | decide | (simp; omega)) | exact rfl))))
                    repeat' (first | exact LE_0 | refine LE_s rfl ?_ | refine LE_s (I_c (by first | omega | (simp only [sm]; omega))) ?_ | refine LE_s (J_c (by first | omega | exact Int.pow_succ _ _ | exact (Int.pow_succ _ _).symm | exact (Int.pow_zero _).symm | (simp only [sm]; omega))) ?_ | refine LE_n ?_)
                  ·
                    have eT : couT r.1 N (hi16 (nxt (nxt r.2)) % N) = up (up r.1 5 (hi16 (nxt (nxt r.2)) % N) 0) 3 (hi16 (nxt (nxt r.2)) % N) (r.1 3 (hi16 (nxt (nxt r.2)) % N) / 2) := if_pos (by revert c144; (repeat' split) <;> omega)
                    skip -- go
                    refine wp_aload_n (pc := 147) dX12_years_147 rfl ?_
                    refine wm_get dX12_years_148 gf_X12_39 K (by rfl) ?_
                    refine wp_iload (pc := 151) dX12_years_151 rfl ?_
                    refine wp_Sn (pc := 153) dX12_years_153 cl_X12_270 (sp_Ref_goCough K hI2 (.inr rfl) (by repeat (first | assumption | exact upA_eq | (apply upA_ne; first | decide | omega) | (apply SA_at; assumption; first | decide | (simp; omega)) | exact rfl)) (by omega)) rfl rfl (by decide) (Nat.le_of_ble_eq_true rfl) (fun hp153 e153 => ?_)
                    obtain ⟨K, O1⟩ := e153
                    replace O := SO.tr O O1
                    rw [← eT] at K
                    refine wp_iinc (pc := 156) dX12_years_156 rfl (by decide) ?_
                    refine wp_goto (pc := 159) 36 dX12_years_159 (by decide) ?_
                    refine wp_ls ?_ (ih (i + 1) (by omega) (by omega) _ _ _ _ K O (by repeat (first | assumption | exact pv10 | exact pv11 | (apply pv_o; decide; decide) | exact upN_eq | (apply upN_ne; decide) | (apply SV_at; assumption; decide) | exact rfl)) (by repeat (first | exact SV.rf | assumption | (apply SV.up1; decide) | (apply SV.tr2; assumption; decide))) (by repeat (first | exact SA.rf | assumption | (apply SA.up1; decide) | (apply SA.tr2; assumption; decide))) (by rw [e1]; exact (by repeat (first | assumption | exact pv10 | exact pv11 | (apply pv_o; decide; decide) | exact upN_eq | (apply upN_ne; decide) | (apply SV_at; assumption; decide) | exact rfl))) (by rw [e1]; exact (by repeat (first | assumption | exact upA_eq | (apply upA_ne; first | decide | omega) | (apply SA_at; assumption; first | decide | (simp; omega)) | exact rfl))))
                    repeat' (first | exact LE_0 | refine LE_s rfl ?_ | refine LE_s (I_c (by first | omega | (simp only [sm]; omega))) ?_ | refine LE_s (J_c (by first | omega | exact Int.pow_succ _ _ | exact (Int.pow_succ _ _).symm | exact (Int.pow_zero _).symm | (simp only [sm]; omega))) ?_ | refine LE_n ?_)
                ·
                  have e1 : yrs (stl rt) T N x (i + 1) = (dieT r.1 N (hi16 (nxt (nxt r.2)) % N) (hi16 (nxt (nxt (nxt r.2))) % 9 + 1), nxt (nxt (nxt r.2))) := by rw [es, e2]; exact if_pos c92
                  have hm4 := Int.emod_nonneg (hi16 (nxt (nxt (nxt r.2)))) (show (9 : Int) ≠ 0 by omega)
                  have hm5 := Int.emod_lt_of_pos (hi16 (nxt (nxt (nxt r.2)))) (show (0 : Int) < 9 by omega) -- go
                  refine wp_iconst (pc := 95) dX12_years_95 ?_
                  refine wp_aload_n (pc := 96) dX12_years_96 rfl ?_
                  refine wp_bipush (pc := 97) (y := 9) dX12_years_97 (by decide) ?_
                  refine wp_Vs (pc := 99) dX12_years_99 cl_X12_379 (sp_Ref_draw K (by repeat (first | assumption | exact pv10 | exact pv11 | (apply pv_o; decide; decide) | exact upN_eq | (apply upN_ne; decide) | (apply SV_at; assumption; decide) | exact rfl)) (by decide)) rfl rfl K.1 (by rfl) (by decide) (Nat.le_of_ble_eq_true rfl) (fun hp99 e99 => ?_)
                  obtain ⟨K, O1⟩ := e99
                  replace O := SO.tr O O1
                  refine wp_iadd (pc := 102) dX12_years_102 ?_
                  refine wp_topE (Int.add_comm 1 _) ?_
                  refine wp_istore (pc := 103) dX12_years_103 (by decide) ?_
                  refine wp_aload_n (pc := 105) dX12_years_105 rfl ?_
                  refine wp_aload_n (pc := 106) dX12_years_106 rfl ?_
                  refine wm_get dX12_years_107 gf_X12_39 K (by rfl) ?_
                  refine wp_iload (pc := 110) dX12_years_110 rfl ?_
                  refine wp_iload (pc := 112) dX12_years_112 rfl ?_
                  refine wp_Vp (pc := 114) dX12_years_114 cl_X12_260 (sp_Ref_refusesDeath K (by repeat (first | assumption | exact pv10 | exact pv11 | (apply pv_o; decide; decide) | exact upN_eq | (apply upN_ne; decide) | (apply SV_at; assumption; decide) | exact rfl)) hI2 (.inr rfl) (by repeat (first | assumption | exact upA_eq | (apply upA_ne; first | decide | omega) | (apply SA_at; assumption; first | decide | (simp; omega)) | exact rfl)) (by omega) (by omega)) rfl rfl K.1 (by rfl) (by decide) (Nat.le_of_ble_eq_true rfl) ?_
                  first | refine wp_ifb_ne (pc := 117) 131 dX12_years_117 (by decide) (fun c117 => ?_) (fun c117 => ?_) | refine wp_if_ne (pc := 117) 131 dX12_years_117 (by decide) (by (repeat' split) <;> omega) (fun c117 => ?_) (fun c117 => ?_)
                  ·
                    have eT : dieT r.1 N (hi16 (nxt (nxt r.2)) % N) (hi16 (nxt (nxt (nxt r.2))) % 9 + 1) = r.1 := if_neg (fun z => c117 (by rw [if_neg (by omega), if_neg (by omega)]))
                    rw [eT] at e1 -- go
                    refine wp_goto (pc := 131) 156 dX12_years_131 (by decide) ?_
                    refine wp_iinc (pc := 156) dX12_years_156 rfl (by decide) ?_
                    refine wp_goto (pc := 159) 36 dX12_years_159 (by decide) ?_
                    refine wp_ls ?_ (ih (i + 1) (by omega) (by omega) _ _ _ _ K O (by repeat (first | assumption | exact pv10 | exact pv11 | (apply pv_o; decide; decide) | exact upN_eq | (apply upN_ne; decide) | (apply SV_at; assumption; decide) | exact rfl)) (by repeat (first | exact SV.rf | assumption | (apply SV.up1; decide) | (apply SV.tr2; assumption; decide))) (by repeat (first | exact SA.rf | assumption | (apply SA.up1; decide) | (apply SA.tr2; assumption; decide))) (by rw [e1]; exact (by repeat (first | assumption | exact pv10 | exact pv11 | (apply pv_o; decide; decide) | exact upN_eq | (apply upN_ne; decide) | (apply SV_at; assumption; decide) | exact rfl))) (by rw [e1]; exact (by repeat (first | assumption | exact upA_eq | (apply upA_ne; first | decide | omega) | (apply SA_at; assumption; first | decide | (simp; omega)) | exact rfl))))
                    repeat' (first | exact LE_0 | refine LE_s rfl ?_ | refine LE_s (I_c (by first | omega | (simp only [sm]; omega))) ?_ | refine LE_s (J_c (by first | omega | exact Int.pow_succ _ _ | exact (Int.pow_succ _ _).symm | exact (Int.pow_zero _).symm | (simp only [sm]; omega))) ?_ | refine LE_n ?_)
                  ·
                    have eT : dieT r.1 N (hi16 (nxt (nxt r.2)) % N) (hi16 (nxt (nxt (nxt r.2))) % 9 + 1) = up (up (up r.1 5 (hi16 (nxt (nxt r.2)) % N) (hi16 (nxt (nxt (nxt r.2))) % 9 + 1)) 4 (hi16 (nxt (nxt r.2)) % N) (mi 99 (r.1 4 (hi16 (nxt (nxt r.2)) % N) + 1))) 6 (hi16 (nxt (nxt r.2)) % N) 0 := if_pos (by revert c117; (repeat' split) <;> omega)
                    skip -- go
                    refine wp_aload_n (pc := 120) dX12_years_120 rfl ?_
                    refine wm_get dX12_years_121 gf_X12_39 K (by rfl) ?_
                    refine wp_iload (pc := 124) dX12_years_124 rfl ?_
                    refine wp_iload (pc := 126) dX12_years_126 rfl ?_
                    refine wp_Sn (pc := 128) dX12_years_128 cl_X12_263 (sp_Ref_goDeath K hI2 (.inr rfl) (by repeat (first | assumption | exact upA_eq | (apply upA_ne; first | decide | omega) | (apply SA_at; assumption; first | decide | (simp; omega)) | exact rfl)) (by omega)) rfl rfl (by decide) (Nat.le_of_ble_eq_true rfl) (fun hp128 e128 => ?_)
                    obtain ⟨K, O1⟩ := e128
                    replace O := SO.tr O O1
                    rw [← eT] at K
                    refine wp_goto (pc := 131) 156 dX12_years_131 (by decide) ?_
                    refine wp_iinc (pc := 156) dX12_years_156 rfl (by decide) ?_
                    refine wp_goto (pc := 159) 36 dX12_years_159 (by decide) ?_
                    refine wp_ls ?_ (ih (i + 1) (by omega) (by omega) _ _ _ _ K O (by repeat (first | assumption | exact pv10 | exact pv11 | (apply pv_o; decide; decide) | exact upN_eq | (apply upN_ne; decide) | (apply SV_at; assumption; decide) | exact rfl)) (by repeat (first | exact SV.rf | assumption | (apply SV.up1; decide) | (apply SV.tr2; assumption; decide))) (by repeat (first | exact SA.rf | assumption | (apply SA.up1; decide) | (apply SA.tr2; assumption; decide))) (by rw [e1]; exact (by repeat (first | assumption | exact pv10 | exact pv11 | (apply pv_o; decide; decide) | exact upN_eq | (apply upN_ne; decide) | (apply SV_at; assumption; decide) | exact rfl))) (by rw [e1]; exact (by repeat (first | assumption | exact upA_eq | (apply upA_ne; first | decide | omega) | (apply SA_at; assumption; first | decide | (simp; omega)) | exact rfl))))
                    repeat' (first | exact LE_0 | refine LE_s rfl ?_ | refine LE_s (I_c (by first | omega | (simp only [sm]; omega))) ?_ | refine LE_s (J_c (by first | omega | exact Int.pow_succ _ _ | exact (Int.pow_succ _ _).symm | exact (Int.pow_zero _).symm | (simp only [sm]; omega))) ?_ | refine LE_n ?_)
              ·
                have e1 : yrs (stl rt) T N x (i + 1) = (r.1, nxt r.2) := by rw [es, e0]; exact if_pos (by omega)
                skip -- go
                refine wp_goto (pc := 76) 156 dX12_years_76 (by decide) ?_
                refine wp_iinc (pc := 156) dX12_years_156 rfl (by decide) ?_
                refine wp_goto (pc := 159) 36 dX12_years_159 (by decide) ?_
                refine wp_ls ?_ (ih (i + 1) (by omega) (by omega) _ _ _ _ K O (by repeat (first | assumption | exact pv10 | exact pv11 | (apply pv_o; decide; decide) | exact upN_eq | (apply upN_ne; decide) | (apply SV_at; assumption; decide) | exact rfl)) (by repeat (first | exact SV.rf | assumption | (apply SV.up1; decide) | (apply SV.tr2; assumption; decide))) (by repeat (first | exact SA.rf | assumption | (apply SA.up1; decide) | (apply SA.tr2; assumption; decide))) (by rw [e1]; exact (by repeat (first | assumption | exact pv10 | exact pv11 | (apply pv_o; decide; decide) | exact upN_eq | (apply upN_ne; decide) | (apply SV_at; assumption; decide) | exact rfl))) (by rw [e1]; exact (by repeat (first | assumption | exact upA_eq | (apply upA_ne; first | decide | omega) | (apply SA_at; assumption; first | decide | (simp; omega)) | exact rfl))))
                repeat' (first | exact LE_0 | refine LE_s rfl ?_ | refine LE_s (I_c (by first | omega | (simp only [sm]; omega))) ?_ | refine LE_s (J_c (by first | omega | exact Int.pow_succ _ _ | exact (Int.pow_succ _ _).symm | exact (Int.pow_zero _).symm | (simp only [sm]; omega))) ?_ | refine LE_n ?_)
        ·
          have e1 : yrs (stl rt) T N x (i + 1) = (pasT (stl rt) r.1 N, nxt r.2) := by rw [es]; exact if_pos (by omega)
          skip -- go
          refine wp_aload_n (pc := 54) dX12_years_54 rfl ?_
          refine wp_aload_n (pc := 55) dX12_years_55 rfl ?_
          refine wm_get dX12_years_56 gf_X12_39 K (by rfl) ?_
          refine wp_Vs (pc := 59) dX12_years_59 cl_X12_243 (sp_Ref_goHour K (by repeat (first | assumption | exact pv10 | exact pv11 | (apply pv_o; decide; decide) | exact upN_eq | (apply upN_ne; decide) | (apply SV_at; assumption; decide) | exact rfl)) hI2 hH2 (.inr rfl) (by repeat (first | assumption | exact upA_eq | (apply upA_ne; first | decide | omega) | (apply SA_at; assumption; first | decide | (simp; omega)) | exact rfl)) (RuA.cc hu (by repeat (first | assumption | exact pv10 | exact pv11 | (apply pv_o; decide; decide) | exact upN_eq | (apply upN_ne; decide) | (apply SV_at; assumption; decide) | exact rfl)) (by repeat (first | assumption | exact upA_eq | (apply upA_ne; first | decide | omega) | (apply SA_at; assumption; first | decide | (simp; omega)) | exact rfl)) (by repeat (first | assumption | exact upA_eq | (apply upA_ne; first | decide | omega) | (apply SA_at; assumption; first | decide | (simp; omega)) | exact rfl)))) rfl rfl K.1 (by rfl) (by decide) (Nat.le_of_ble_eq_true rfl) (fun hp59 e59 => ?_)
          obtain ⟨⟨V59, A59, rd59, K, sV59, sA59, hA59⟩, O1⟩ := e59; replace O := SO.tr O O1
          refine wp_pop (pc := 62) dX12_years_62 rfl ?_
          refine wp_iload (pc := 63) dX12_years_63 rfl ?_
          refine wp_iconst (pc := 65) dX12_years_65 ?_
          refine wp_icmp_lt (pc := 66) 156 dX12_years_66 (by decide) (by first | omega | exact TI.i5 (by assumption) | exact TI.i3 (by assumption) | exact TI.i2 (by assumption) | exact TI.i1 (by assumption) | exact TI.i0 (by assumption) | exact TI.i4 (by assumption) | exact TI.i6 (by assumption) | exact TI.i7 (by assumption)) (by first | omega | exact TI.i5 (by assumption) | exact TI.i3 (by assumption) | exact TI.i2 (by assumption) | exact TI.i1 (by assumption) | exact TI.i0 (by assumption) | exact TI.i4 (by assumption) | exact TI.i6 (by assumption) | exact TI.i7 (by assumption)) (fun c66 => ?_) (fun c66 => ?_)
          ·
            first
            | (exfalso; omega)
            | skip
              refine wp_iinc (pc := 156) dX12_years_156 rfl (by decide) ?_
              refine wp_goto (pc := 159) 36 dX12_years_159 (by decide) ?_
              refine wp_ls ?_ (ih (i + 1) (by omega) (by omega) _ _ _ _ K O (by repeat (first | assumption | exact pv10 | exact pv11 | (apply pv_o; decide; decide) | exact upN_eq | (apply upN_ne; decide) | (apply SV_at; assumption; decide) | exact rfl)) (by repeat (first | exact SV.rf | assumption | (apply SV.up1; decide) | (apply SV.tr2; assumption; decide))) (by repeat (first | exact SA.rf | assumption | (apply SA.up1; decide) | (apply SA.tr2; assumption; decide))) (by rw [e1]; exact (by repeat (first | assumption | exact pv10 | exact pv11 | (apply pv_o; decide; decide) | exact upN_eq | (apply upN_ne; decide) | (apply SV_at; assumption; decide) | exact rfl))) (by rw [e1]; exact (by repeat (first | assumption | exact upA_eq | (apply upA_ne; first | decide | omega) | (apply SA_at; assumption; first | decide | (simp; omega)) | exact rfl))))
              repeat' (first | exact LE_0 | refine LE_s rfl ?_ | refine LE_s (I_c (by first | omega | (simp only [sm]; omega))) ?_ | refine LE_s (J_c (by first | omega | exact Int.pow_succ _ _ | exact (Int.pow_succ _ _).symm | exact (Int.pow_zero _).symm | (simp only [sm]; omega))) ?_ | refine LE_n ?_)
          ·
            first
            | (exfalso; omega)
            | skip
              refine wp_aload_n (pc := 69) dX12_years_69 rfl ?_
              refine wm_gets dX12_years_70 gf_X12_92 K (by rfl) (by repeat (first | assumption | exact pv10 | exact pv11 | (apply pv_o; decide; decide) | exact upN_eq | (apply upN_ne; decide) | (apply SV_at; assumption; decide) | exact rfl)) ?_
              first | refine wp_ifb_ne (pc := 73) 79 dX12_years_73 (by decide) (fun c73 => ?_) (fun c73 => ?_) | refine wp_if_ne (pc := 73) 79 dX12_years_73 (by decide) (by first | omega | exact TI.i5 (by assumption) | exact TI.i3 (by assumption) | exact TI.i2 (by assumption) | exact TI.i1 (by assumption) | exact TI.i0 (by assumption) | exact TI.i4 (by assumption) | exact TI.i6 (by assumption) | exact TI.i7 (by assumption)) (fun c73 => ?_) (fun c73 => ?_)
              ·
                have e2 : yst (stl rt) N r = if hi16 (nxt r.2) % 4 = 2 then (dieT r.1 N (hi16 (nxt (nxt r.2)) % N) (hi16 (nxt (nxt (nxt r.2))) % 9 + 1), nxt (nxt (nxt r.2))) else (couT r.1 N (hi16 (nxt (nxt r.2)) % N), nxt (nxt r.2)) := by rw [e0]; exact if_neg (by omega)
                have hm2 := Int.emod_nonneg (hi16 (nxt (nxt r.2))) (show (N : Int) ≠ 0 by omega)
                have hm3 := Int.emod_lt_of_pos (hi16 (nxt (nxt r.2))) (show (0 : Int) < N by omega) -- go
                refine wp_aload_n (pc := 79) dX12_years_79 rfl ?_
                refine wp_aload_n (pc := 80) dX12_years_80 rfl ?_
                refine wm_gets dX12_years_81 gf_X12_92 K (by rfl) (by repeat (first | assumption | exact pv10 | exact pv11 | (apply pv_o; decide; decide) | exact upN_eq | (apply upN_ne; decide) | (apply SV_at; assumption; decide) | exact rfl)) ?_
                refine wp_Vs (pc := 84) dX12_years_84 cl_X12_379 (sp_Ref_draw K (by repeat (first | assumption | exact pv10 | exact pv11 | (apply pv_o; decide; decide) | exact upN_eq | (apply upN_ne; decide) | (apply SV_at; assumption; decide) | exact rfl)) (by omega)) rfl rfl K.1 (by rfl) (by decide) (Nat.le_of_ble_eq_true rfl) (fun hp84 e84 => ?_)
                obtain ⟨K, O1⟩ := e84
                replace O := SO.tr O O1
                refine wp_istore (pc := 87) dX12_years_87 (by decide) ?_
                refine wp_iload (pc := 89) dX12_years_89 rfl ?_
                refine wp_iconst (pc := 91) dX12_years_91 ?_
                refine wp_icmp_ne (pc := 92) 134 dX12_years_92 (by decide) (by first | omega | exact TI.i5 (by assumption) | exact TI.i3 (by assumption) | exact TI.i2 (by assumption) | exact TI.i1 (by assumption) | exact TI.i0 (by assumption) | exact TI.i4 (by assumption) | exact TI.i6 (by assumption) | exact TI.i7 (by assumption)) (by first | omega | exact TI.i5 (by assumption) | exact TI.i3 (by assumption) | exact TI.i2 (by assumption) | exact TI.i1 (by assumption) | exact TI.i0 (by assumption) | exact TI.i4 (by assumption) | exact TI.i6 (by assumption) | exact TI.i7 (by assumption)) (fun c92 => ?_) (fun c92 => ?_)
                ·
                  have e1 : yrs (stl rt) T N x (i + 1) = (couT r.1 N (hi16 (nxt (nxt r.2)) % N), nxt (nxt r.2)) := by rw [es, e2]; exact if_neg c92
                  skip -- go
                  refine wp_aload_n (pc := 134) dX12_years_134 rfl ?_
                  refine wp_aload_n (pc := 135) dX12_years_135 rfl ?_
                  refine wm_get dX12_years_136 gf_X12_39 K (by rfl) ?_
                  refine wp_iload (pc := 139) dX12_years_139 rfl ?_
                  refine wp_Vp (pc := 141) dX12_years_141 cl_X12_267 (sp_Ref_refusesCough K (by repeat (first | assumption | exact pv10 | exact pv11 | (apply pv_o; decide; decide) | exact upN_eq | (apply upN_ne; decide) | (apply SV_at; assumption; decide) | exact rfl)) hI2 (.inr rfl) (by repeat (first | assumption | exact upA_eq | (apply upA_ne; first | decide | omega) | (apply SA_at; assumption; first | decide | (simp; omega)) | exact rfl)) (by omega)) rfl rfl K.1 (by rfl) (by decide) (Nat.le_of_ble_eq_true rfl) ?_
                  first | refine wp_ifb_ne (pc := 144) 156 dX12_years_144 (by decide) (fun c144 => ?_) (fun c144 => ?_) | refine wp_if_ne (pc := 144) 156 dX12_years_144 (by decide) (by (repeat' split) <;> omega) (fun c144 => ?_) (fun c144 => ?_)
                  ·
                    have eT : couT r.1 N (hi16 (nxt (nxt r.2)) % N) = r.1 := if_neg (fun z => c144 (by rw [if_neg (by omega), if_neg (by omega)]))
                    rw [eT] at e1 -- go
                    refine wp_iinc (pc := 156) dX12_years_156 rfl (by decide) ?_
                    refine wp_goto (pc := 159) 36 dX12_years_159 (by decide) ?_
                    refine wp_ls ?_ (ih (i + 1) (by omega) (by omega) _ _ _ _ K O (by repeat (first | assumption | exact pv10 | exact pv11 | (apply pv_o; decide; decide) | exact upN_eq | (apply upN_ne; decide) | (apply SV_at; assumption; decide) | exact rfl)) (by repeat (first | exact SV.rf | assumption | (apply SV.up1; decide) | (apply SV.tr2; assumption; decide))) (by repeat (first | exact SA.rf | assumption | (apply SA.up1; decide) | (apply SA.tr2; assumption; decide))) (by rw [e1]; exact (by repeat (first | assumption | exact pv10 | exact pv11 | (apply pv_o; decide; decide) | exact upN_eq | (apply upN_ne; decide) | (apply SV_at; assumption; decide) | exact rfl))) (by rw [e1]; exact (by repeat (first | assumption | exact upA_eq | (apply upA_ne; first | decide | omega) | (apply SA_at; assumption; first | decide | (simp; omega)) | exact rfl))))
                    repeat' (first | exact LE_0 | refine LE_s rfl ?_ | refine LE_s (I_c (by first | omega | (simp only [sm]; omega))) ?_ | refine LE_s (J_c (by first | omega | exact Int.pow_succ _ _ | exact (Int.pow_succ _ _).symm | exact (Int.pow_zero _).symm | (simp only [sm]; omega))) ?_ | refine LE_n ?_)
                  ·
                    have eT : couT r.1 N (hi16 (nxt (nxt r.2)) % N) = up (up r.1 5 (hi16 (nxt (nxt r.2)) % N) 0) 3 (hi16 (nxt (nxt r.2)) % N) (r.1 3 (hi16 (nxt (nxt r.2)) % N) / 2) := if_pos (by revert c144; (repeat' split) <;> omega)
                    skip -- go
                    refine wp_aload_n (pc := 147) dX12_years_147 rfl ?_
                    refine wm_get dX12_years_148 gf_X12_39 K (by rfl) ?_
                    refine wp_iload (pc := 151) dX12_years_151 rfl ?_
                    refine wp_Sn (pc := 153) dX12_years_153 cl_X12_270 (sp_Ref_goCough K hI2 (.inr rfl) (by repeat (first | assumption | exact upA_eq | (apply upA_ne; first | decide | omega) | (apply SA_at; assumption; first | decide | (simp; omega)) | exact rfl)) (by omega)) rfl rfl (by decide) (Nat.le_of_ble_eq_true rfl) (fun hp153 e153 => ?_)
                    obtain ⟨K, O1⟩ := e153
                    replace O := SO.tr O O1
                    rw [← eT] at K
                    refine wp_iinc (pc := 156) dX12_years_156 rfl (by decide) ?_
                    refine wp_goto (pc := 159) 36 dX12_years_159 (by decide) ?_
                    refine wp_ls ?_ (ih (i + 1) (by omega) (by omega) _ _ _ _ K O (by repeat (first | assumption | exact pv10 | exact pv11 | (apply pv_o; decide; decide) | exact upN_eq | (apply upN_ne; decide) | (apply SV_at; assumption; decide) | exact rfl)) (by repeat (first | exact SV.rf | assumption | (apply SV.up1; decide) | (apply SV.tr2; assumption; decide))) (by repeat (first | exact SA.rf | assumption | (apply SA.up1; decide) | (apply SA.tr2; assumption; decide))) (by rw [e1]; exact (by repeat (first | assumption | exact pv10 | exact pv11 | (apply pv_o; decide; decide) | exact upN_eq | (apply upN_ne; decide) | (apply SV_at; assumption; decide) | exact rfl))) (by rw [e1]; exact (by repeat (first | assumption | exact upA_eq | (apply upA_ne; first | decide | omega) | (apply SA_at; assumption; first | decide | (simp; omega)) | exact rfl))))
                    repeat' (first | exact LE_0 | refine LE_s rfl ?_ | refine LE_s (I_c (by first | omega | (simp only [sm]; omega))) ?_ | refine LE_s (J_c (by first | omega | exact Int.pow_succ _ _ | exact (Int.pow_succ _ _).symm | exact (Int.pow_zero _).symm | (simp only [sm]; omega))) ?_ | refine LE_n ?_)
                ·
                  have e1 : yrs (stl rt) T N x (i + 1) = (dieT r.1 N (hi16 (nxt (nxt r.2)) % N) (hi16 (nxt (nxt (nxt r.2))) % 9 + 1), nxt (nxt (nxt r.2))) := by rw [es, e2]; exact if_pos c92
                  have hm4 := Int.emod_nonneg (hi16 (nxt (nxt (nxt r.2)))) (show (9 : Int) ≠ 0 by omega)
                  have hm5 := Int.emod_lt_of_pos (hi16 (nxt (nxt (nxt r.2)))) (show (0 : Int) < 9 by omega) -- go
                  refine wp_iconst (pc := 95) dX12_years_95 ?_
                  refine wp_aload_n (pc := 96) dX12_years_96 rfl ?_
                  refine wp_bipush (pc := 97) (y := 9) dX12_years_97 (by decide) ?_
                  refine wp_Vs (pc := 99) dX12_years_99 cl_X12_379 (sp_Ref_draw K (by repeat (first | assumption | exact pv10 | exact pv11 | (apply pv_o; decide; decide) | exact upN_eq | (apply upN_ne; decide) | (apply SV_at; assumption; decide) | exact rfl)) (by decide)) rfl rfl K.1 (by rfl) (by decide) (Nat.le_of_ble_eq_true rfl) (fun hp99 e99 => ?_)
                  obtain ⟨K, O1⟩ := e99
                  replace O := SO.tr O O1
                  refine wp_iadd (pc := 102) dX12_years_102 ?_
                  refine wp_topE (Int.add_comm 1 _) ?_
                  refine wp_istore (pc := 103) dX12_years_103 (by decide) ?_
                  refine wp_aload_n (pc := 105) dX12_years_105 rfl ?_
                  refine wp_aload_n (pc := 106) dX12_years_106 rfl ?_
                  refine wm_get dX12_years_107 gf_X12_39 K (by rfl) ?_
                  refine wp_iload (pc := 110) dX12_years_110 rfl ?_
                  refine wp_iload (pc := 112) dX12_years_112 rfl ?_
                  refine wp_Vp (pc := 114) dX12_years_114 cl_X12_260 (sp_Ref_refusesDeath K (by repeat (first | assumption | exact pv10 | exact pv11 | (apply pv_o; decide; decide) | exact upN_eq | (apply upN_ne; decide) | (apply SV_at; assumption; decide) | exact rfl)) hI2 (.inr rfl) (by repeat (first | assumption | exact upA_eq | (apply upA_ne; first | decide | omega) | (apply SA_at; assumption; first | decide | (simp; omega)) | exact rfl)) (by omega) (by omega)) rfl rfl K.1 (by rfl) (by decide) (Nat.le_of_ble_eq_true rfl) ?_
                  first | refine wp_ifb_ne (pc := 117) 131 dX12_years_117 (by decide) (fun c117 => ?_) (fun c117 => ?_) | refine wp_if_ne (pc := 117) 131 dX12_years_117 (by decide) (by (repeat' split) <;> omega) (fun c117 => ?_) (fun c117 => ?_)
                  ·
                    have eT : dieT r.1 N (hi16 (nxt (nxt r.2)) % N) (hi16 (nxt (nxt (nxt r.2))) % 9 + 1) = r.1 := if_neg (fun z => c117 (by rw [if_neg (by omega), if_neg (by omega)]))
                    rw [eT] at e1 -- go
                    refine wp_goto (pc := 131) 156 dX12_years_131 (by decide) ?_
                    refine wp_iinc (pc := 156) dX12_years_156 rfl (by decide) ?_
                    refine wp_goto (pc := 159) 36 dX12_years_159 (by decide) ?_
                    refine wp_ls ?_ (ih (i + 1) (by omega) (by omega) _ _ _ _ K O (by repeat (first | assumption | exact pv10 | exact pv11 | (apply pv_o; decide; decide) | exact upN_eq | (apply upN_ne; decide) | (apply SV_at; assumption; decide) | exact rfl)) (by repeat (first | exact SV.rf | assumption | (apply SV.up1; decide) | (apply SV.tr2; assumption; decide))) (by repeat (first | exact SA.rf | assumption | (apply SA.up1; decide) | (apply SA.tr2; assumption; decide))) (by rw [e1]; exact (by repeat (first | assumption | exact pv10 | exact pv11 | (apply pv_o; decide; decide) | exact upN_eq | (apply upN_ne; decide) | (apply SV_at; assumption; decide) | exact rfl))) (by rw [e1]; exact (by repeat (first | assumption | exact upA_eq | (apply upA_ne; first | decide | omega) | (apply SA_at; assumption; first | decide | (simp; omega)) | exact rfl))))
                    repeat' (first | exact LE_0 | refine LE_s rfl ?_ | refine LE_s (I_c (by first | omega | (simp only [sm]; omega))) ?_ | refine LE_s (J_c (by first | omega | exact Int.pow_succ _ _ | exact (Int.pow_succ _ _).symm | exact (Int.pow_zero _).symm | (simp only [sm]; omega))) ?_ | refine LE_n ?_)
                  ·
                    have eT : dieT r.1 N (hi16 (nxt (nxt r.2)) % N) (hi16 (nxt (nxt (nxt r.2))) % 9 + 1) = up (up (up r.1 5 (hi16 (nxt (nxt r.2)) % N) (hi16 (nxt (nxt (nxt r.2))) % 9 + 1)) 4 (hi16 (nxt (nxt r.2)) % N) (mi 99 (r.1 4 (hi16 (nxt (nxt r.2)) % N) + 1))) 6 (hi16 (nxt (nxt r.2)) % N) 0 := if_pos (by revert c117; (repeat' split) <;> omega)
                    skip -- go
                    refine wp_aload_n (pc := 120) dX12_years_120 rfl ?_
                    refine wm_get dX12_years_121 gf_X12_39 K (by rfl) ?_
                    refine wp_iload (pc := 124) dX12_years_124 rfl ?_
                    refine wp_iload (pc := 126) dX12_years_126 rfl ?_
                    refine wp_Sn (pc := 128) dX12_years_128 cl_X12_263 (sp_Ref_goDeath K hI2 (.inr rfl) (by repeat (first | assumption | exact upA_eq | (apply upA_ne; first | decide | omega) | (apply SA_at; assumption; first | decide | (simp; omega)) | exact rfl)) (by omega)) rfl rfl (by decide) (Nat.le_of_ble_eq_true rfl) (fun hp128 e128 => ?_)
                    obtain ⟨K, O1⟩ := e128
                    replace O := SO.tr O O1
                    rw [← eT] at K
                    refine wp_goto (pc := 131) 156 dX12_years_131 (by decide) ?_
                    refine wp_iinc (pc := 156) dX12_years_156 rfl (by decide) ?_
                    refine wp_goto (pc := 159) 36 dX12_years_159 (by decide) ?_
                    refine wp_ls ?_ (ih (i + 1) (by omega) (by omega) _ _ _ _ K O (by repeat (first | assumption | exact pv10 | exact pv11 | (apply pv_o; decide; decide) | exact upN_eq | (apply upN_ne; decide) | (apply SV_at; assumption; decide) | exact rfl)) (by repeat (first | exact SV.rf | assumption | (apply SV.up1; decide) | (apply SV.tr2; assumption; decide))) (by repeat (first | exact SA.rf | assumption | (apply SA.up1; decide) | (apply SA.tr2; assumption; decide))) (by rw [e1]; exact (by repeat (first | assumption | exact pv10 | exact pv11 | (apply pv_o; decide; decide) | exact upN_eq | (apply upN_ne; decide) | (apply SV_at; assumption; decide) | exact rfl))) (by rw [e1]; exact (by repeat (first | assumption | exact upA_eq | (apply upA_ne; first | decide | omega) | (apply SA_at; assumption; first | decide | (simp; omega)) | exact rfl))))
                    repeat' (first | exact LE_0 | refine LE_s rfl ?_ | refine LE_s (I_c (by first | omega | (simp only [sm]; omega))) ?_ | refine LE_s (J_c (by first | omega | exact Int.pow_succ _ _ | exact (Int.pow_succ _ _).symm | exact (Int.pow_zero _).symm | (simp only [sm]; omega))) ?_ | refine LE_n ?_)
              ·
                have e1 : yrs (stl rt) T N x (i + 1) = (r.1, nxt r.2) := by rw [es, e0]; exact if_pos (by omega)
                skip -- go
                refine wp_goto (pc := 76) 156 dX12_years_76 (by decide) ?_
                refine wp_iinc (pc := 156) dX12_years_156 rfl (by decide) ?_
                refine wp_goto (pc := 159) 36 dX12_years_159 (by decide) ?_
                refine wp_ls ?_ (ih (i + 1) (by omega) (by omega) _ _ _ _ K O (by repeat (first | assumption | exact pv10 | exact pv11 | (apply pv_o; decide; decide) | exact upN_eq | (apply upN_ne; decide) | (apply SV_at; assumption; decide) | exact rfl)) (by repeat (first | exact SV.rf | assumption | (apply SV.up1; decide) | (apply SV.tr2; assumption; decide))) (by repeat (first | exact SA.rf | assumption | (apply SA.up1; decide) | (apply SA.tr2; assumption; decide))) (by rw [e1]; exact (by repeat (first | assumption | exact pv10 | exact pv11 | (apply pv_o; decide; decide) | exact upN_eq | (apply upN_ne; decide) | (apply SV_at; assumption; decide) | exact rfl))) (by rw [e1]; exact (by repeat (first | assumption | exact upA_eq | (apply upA_ne; first | decide | omega) | (apply SA_at; assumption; first | decide | (simp; omega)) | exact rfl))))
                repeat' (first | exact LE_0 | refine LE_s rfl ?_ | refine LE_s (I_c (by first | omega | (simp only [sm]; omega))) ?_ | refine LE_s (J_c (by first | omega | exact Int.pow_succ _ _ | exact (Int.pow_succ _ _).symm | exact (Int.pow_zero _).symm | (simp only [sm]; omega))) ?_ | refine LE_n ?_)
theorem sp_Ref_years (hM : MAt hp q th N T U tx rw rt hs ss KT) (hI : TI T N) (hH : HS T) (hb : T 7 0 < 1900000000) (ry : InR y) : Sp g MX12_years (rm 231 0 0) [.ref q, .int (I x), .int (I y)] hp (Eff (.int (I (if 1 ≤ y ∧ y ≤ 60 then sm ((yrs (stl rt) T N x y.toNat).1 3) N else -1))) (fun hp2 => MAt hp2 q 0 N T U tx (if 1 ≤ y ∧ y ≤ 60 then [dct (yrs (stl rt) T N x y.toNat).1 N, sm ((yrs (stl rt) T N x y.toNat).1 4) N] else rw) rt hs ss KT ∧ SO hp hp2 q (q + 25))) := by
  have hN := hI.men.2
  refine Sp_mk rfl (Nat.le_of_ble_eq_true rfl) ?_
  show wp g _ _ _ 0 0 0 [some (.ref q), some (.int (I x)), some (.int (I y)), none, none, none, none] [] hp
  have O := SO.rf (hp := hp) (lo := q) (hi := q + 25)
  obtain ⟨V, A, rd, K, hth, M⟩ := hM
  have hu := M.ru (q := q)
  have M2 := M
  obtain ⟨m1, mA, mt, mr, mu, mU, mh, ms, mk⟩ := M2
  refine wp_aload_n (pc := 0) dX12_years_0 rfl ?_
  refine wp_iconst (pc := 1) dX12_years_1 ?_
  refine wm_put dX12_years_2 pf_X12_85 K O (by decide) mset_6 rfl rfl (fun hp K O => ?_)
  refine wp_iload_n (pc := 5) dX12_years_5 rfl ?_
  refine wp_iconst (pc := 6) dX12_years_6 ?_
  refine wp_bipush (pc := 7) (y := 60) dX12_years_7 (by decide) ?_
  refine wp_Sp (pc := 9) dX12_years_9 cl_X12_95 (sp_Ref_in (by first | assumption | omega | (repeat (first | assumption | exact pv10 | exact pv11 | (apply pv_o; decide; decide) | exact upN_eq | (apply upN_ne; decide) | (apply SV_at; assumption; decide) | exact upA_eq | (apply upA_ne; first | decide | omega) | (apply SA_at; assumption; first | decide | (simp; omega)) | exact rfl))) (by first | assumption | omega | (repeat (first | assumption | exact pv10 | exact pv11 | (apply pv_o; decide; decide) | exact upN_eq | (apply upN_ne; decide) | (apply SV_at; assumption; decide) | exact upA_eq | (apply upA_ne; first | decide | omega) | (apply SA_at; assumption; first | decide | (simp; omega)) | exact rfl))) (by first | assumption | omega | (repeat (first | assumption | exact pv10 | exact pv11 | (apply pv_o; decide; decide) | exact upN_eq | (apply upN_ne; decide) | (apply SV_at; assumption; decide) | exact upA_eq | (apply upA_ne; first | decide | omega) | (apply SA_at; assumption; first | decide | (simp; omega)) | exact rfl)))) rfl rfl (by decide) (Nat.le_of_ble_eq_true rfl) ?_
  first | refine wp_ifb_ne (pc := 12) 17 dX12_years_12 (by decide) (fun c12 => ?_) (fun c12 => ?_) | refine wp_if_ne (pc := 12) 17 dX12_years_12 (by decide) (by first | omega | exact TI.i5 (by assumption) | exact TI.i3 (by assumption) | exact TI.i2 (by assumption) | exact TI.i1 (by assumption) | exact TI.i0 (by assumption) | exact TI.i4 (by assumption) | exact TI.i6 (by assumption) | exact TI.i7 (by assumption)) (fun c12 => ?_) (fun c12 => ?_)
  ·
    rw [if_pos c12, if_pos c12]
    obtain ⟨n, rfl⟩ := Int.eq_ofNat_of_zero_le (show 0 ≤ y by omega)
    rw [Int.toNat_natCast] -- go
    refine wp_aload_n (pc := 17) dX12_years_17 rfl ?_
    refine wp_iload_n (pc := 18) dX12_years_18 rfl ?_
    refine wm_put dX12_years_19 pf_X12_375 K O (by decide) mset_35 rfl rfl (fun hp K O => ?_)
    refine wp_aload_n (pc := 22) dX12_years_22 rfl ?_
    refine wm_get dX12_years_23 gf_X12_9 K (by rfl) ?_
    refine wp_aload_n (pc := 26) dX12_years_26 rfl ?_
    refine wm_get dX12_years_27 gf_X12_39 K (by rfl) ?_
    refine wp_iconst (pc := 30) dX12_years_30 ?_
    refine wp_Sn (pc := 31) dX12_years_31 cl_X12_223 (sp_Ref_lay K rfl (by decide) rfl (by decide) (by decide) (by repeat (first | assumption | exact upA_eq | (apply upA_ne; first | decide | omega) | (apply SA_at; assumption; first | decide | (simp; omega)) | exact rfl))) rfl rfl (by decide) (Nat.le_of_ble_eq_true rfl) (fun hp31 e31 => ?_)
    obtain ⟨K, O1⟩ := e31
    replace O := SO.tr O O1
    refine wp_iconst (pc := 34) dX12_years_34 ?_
    refine wp_istore_n (pc := 35) dX12_years_35 (by decide) ?_
    refine wp_ls ?_ (lp_Ref_years (x := x) hI hH hb M (by omega) (n + 1) 0 (by omega) (by omega) _ _ _ _ K O (by repeat (first | assumption | exact pv10 | exact pv11 | (apply pv_o; decide; decide) | exact upN_eq | (apply upN_ne; decide) | (apply SV_at; assumption; decide) | exact rfl)) (by repeat (first | exact SV.rf | assumption | (apply SV.up1; decide) | (apply SV.tr2; assumption; decide))) (by repeat (first | exact SA.rf | assumption | (apply SA.up1; decide) | (apply SA.tr2; assumption; decide))) (by repeat (first | assumption | exact pv10 | exact pv11 | (apply pv_o; decide; decide) | exact upN_eq | (apply upN_ne; decide) | (apply SV_at; assumption; decide) | exact rfl)) (by repeat (first | assumption | exact upA_eq | (apply upA_ne; first | decide | omega) | (apply SA_at; assumption; first | decide | (simp; omega)) | exact rfl)))
    repeat' (first | exact LE_0 | refine LE_s rfl ?_ | refine LE_s (I_c (by first | omega | (simp only [sm]; omega))) ?_ | refine LE_s (J_c (by first | omega | exact Int.pow_succ _ _ | exact (Int.pow_succ _ _).symm | exact (Int.pow_zero _).symm | (simp only [sm]; omega))) ?_ | refine LE_n ?_)
  ·
    rw [if_neg c12, if_neg c12] -- go
    refine wp_iconst (pc := 15) dX12_years_15 ?_
    exact wp_ir (pc := 16) dX12_years_16 rfl (by decide) (by decide) (by first | rfl | omega) ⟨⟨_, _, _, K, (by repeat (first | assumption | exact pv10 | exact pv11 | (apply pv_o; decide; decide) | exact upN_eq | (apply upN_ne; decide) | (apply SV_at; assumption; decide) | exact rfl)), M.qu (by repeat (first | exact SV.rf | assumption | (apply SV.up1; decide) | (apply SV.tr2; assumption; decide))) (by repeat (first | exact SA.rf | assumption | (apply SA.up1; decide) | (apply SA.tr2; assumption; decide))) (by first | assumption | exact Mrw.z (by repeat (first | assumption | exact pv10 | exact pv11 | (apply pv_o; decide; decide) | exact upN_eq | (apply upN_ne; decide) | (apply SV_at; assumption; decide) | exact rfl)) | exact Mrw.tr (by assumption) (by repeat (first | assumption | exact pv10 | exact pv11 | (apply pv_o; decide; decide) | exact upN_eq | (apply upN_ne; decide) | (apply SV_at; assumption; decide) | exact rfl)) (by repeat (first | assumption | exact upA_eq | (apply upA_ne; first | decide | omega) | (apply SA_at; assumption; first | decide | (simp; omega)) | exact rfl)))⟩, O⟩
end MU_

