/-! the reference: together, heirs, flattery, wakes, echo -/
section MM_
variable {g : GT} {hp hp0 : Hp} {q N n a b s k p D : Nat} {V V2 V3 : Nat → Int} {A A2 A3 : Nat → Int → Int} {rd rl : Value} {i j x v c y z w th : Int} {T T2 : Nat → Int → Int} {l t cs tx rw rw2 rt : List Int} {W G f : Int → Int} {U U2 : List (Nat → Int → Int)} {hs : List (Int × Int)} {ss : List (Int × Int × Int)} {KT : Nat → Option (Nat → Int → Int)} {L L2 : List Nat}
/-- those of a set die, one behind another -/
def dieS (T : Nat → Int → Int) (N s : Nat) (y : Int) : Nat → Nat → Int → Int
  | 0 => T
  | i + 1 => if s.testBit i = true then dieT (dieS T N s y i) N (i : Int) y else dieS T N s y i
theorem dieS_I (hI : TI T N) : ∀ i, TI (dieS T N s y i) N
  | 0 => hI
  | i + 1 => by
    unfold dieS
    split
    · exact dieT_I (dieS_I hI i)
    · exact dieS_I hI i
theorem dieS_HS (hH : HS T) : ∀ i, HS (dieS T N s y i)
  | 0 => hH
  | i + 1 => by
    unfold dieS
    split
    · exact dieT_HS (dieS_HS hH i)
    · exact dieS_HS hH i
theorem dieS_7 : ∀ i, dieS T N s y i 7 = T 7
  | 0 => rfl
  | i + 1 => by
    unfold dieS
    split
    · rw [dieT_7, dieS_7 i]
    · exact dieS_7 i
theorem dieT_5 (h : x ≠ z) : dieT T N z y 5 x = T 5 x := by
  unfold dieT
  split
  · exact updI_ne h
  · rfl
theorem dieS_5 : ∀ i : Nat, (i : Int) ≤ x → dieS T N s y i 5 x = T 5 x
  | 0, _ => rfl
  | i + 1, h => by
    unfold dieS
    split
    · rw [dieT_5 (by omega), dieS_5 i (by omega)]
    · exact dieS_5 i (by omega)
def tgf (cs : List Int) (T : Nat → Int → Int) (N : Nat) (y : Int) (s : Nat) : Int := sm (runT cs (dieS T N s y N) N y.toNat 3) N
/-- of the sets below n that none of the dead is in: the first best and its honour -/
def tgb (f : Nat → Int) (D : Nat) : Nat → Nat × Int
  | 0 => (0, -1)
  | n + 1 => if n &&& D = 0 ∧ (tgb f D n).2 < f n then (n, f n) else tgb f D n
theorem tgb_in (f : Nat → Int) (D : Nat) (h : ∀ n, 0 ≤ f n ∧ f n ≤ 100000) : ∀ n, (tgb f D n).1 ≤ n ∧ -1 ≤ (tgb f D n).2 ∧ (tgb f D n).2 ≤ 100000
  | 0 => by unfold tgb; exact ⟨Nat.le_refl _, by decide, by decide⟩
  | n + 1 => by
    have := tgb_in f D h n
    have h2 := h n
    unfold tgb
    split
    · exact ⟨Nat.le_succ _, by show -1 ≤ f n; omega, h2.2⟩
    · omega
theorem tgf_in {cs : List Int} (hI : TI T N) (hb : T 7 0 < 1900000000) (hy : y ≤ 9) (s : Nat) : 0 ≤ tgf cs T N y s ∧ tgf cs T N y s ≤ 100000 := by
  have := sm_r3 (runT_I (cs := cs) (dieS_I (s := s) (y := y) hI N) y.toNat (by rw [dieS_7]; omega))
  unfold tgf
  omega
theorem and0_bit {s D i : Nat} (h : s &&& D = 0) (hi : s.testBit i = true) : ¬ D.testBit i = true := fun z => by
  have := congrArg (fun v => v.testBit i) h
  simp [Nat.testBit_and, hi, z] at this
theorem lp_tg2 (hI : TI T N) (hH : HS T) (M : MX V A N T U tx rw rt hs ss KT) (hs6 : s < 64) (hsD : s &&& bits (ddb T) N = 0) (hy : 1 ≤ y ∧ y ≤ 9) {Q : Option Value → Hp → Prop} {v1 v2 v3 : Int} (Kn : ∀ hp3 A3, ModAt hp3 q V2 A3 rd (.ref (q + 5)) → SO hp hp3 q (q + 25) → SA qA A A3 → A3 10 = flat (dieS T N s y N) → wp g MX12_together (rm 232 0 0) Q 0 0 103 [some (.ref q), some (.int (I y)), some (.int (I v1)), some (.int (I v2)), some (.int (I v3)), some (.int (I (s : Int))), none] [] hp3) (sV : SV qV V V2) : ∀ (m i : Nat), N < i + m → i ≤ N → ∀ (hp2 : Hp) (A2 : Nat → Int → Int) (K : ModAt hp2 q V2 A2 rd (.ref (q + 5))) (O : SO hp hp2 q (q + 25)) (sA : SA qA A A2) (hA2 : A2 10 = flat (dieS T N s y i)), wp g MX12_together (rm 232 0 0) Q 0 0 68 [some (.ref q), some (.int (I y)), some (.int (I v1)), some (.int (I v2)), some (.int (I v3)), some (.int (I (s : Int))), some (.int (I (i : Int)))] [] hp2 := by
  intro m
  induction m with
  | zero => intro i h1 h2; exact absurd h1 (by omega)
  | succ m ih =>
    intro i h1 h2 hp2 A2 K O sA hA2
    have hN := hI.men.2
    have m1 := M.1
    refine wp_iload (pc := 68) dX12_together_68 rfl ?_
    refine wp_aload_n (pc := 70) dX12_together_70 rfl ?_
    refine wm_gets dX12_together_71 gf_X12_92 K (by rfl) (by repeat (first | assumption | exact pv10 | exact pv11 | (apply pv_o; decide; decide) | exact upN_eq | (apply upN_ne; decide) | (apply SV_at; assumption; decide) | exact rfl)) ?_
    refine wp_icmp_ge (pc := 74) 103 dX12_together_74 (by decide) (by first | omega | exact TI.i5 (by assumption) | exact TI.i3 (by assumption) | exact TI.i2 (by assumption) | exact TI.i1 (by assumption) | exact TI.i0 (by assumption) | exact TI.i4 (by assumption) | exact TI.i6 (by assumption) | exact TI.i7 (by assumption)) (by first | omega | exact TI.i5 (by assumption) | exact TI.i3 (by assumption) | exact TI.i2 (by assumption) | exact TI.i1 (by assumption) | exact TI.i0 (by assumption) | exact TI.i4 (by assumption) | exact TI.i6 (by assumption) | exact TI.i7 (by assumption)) (fun c74 => ?_) (fun c74 => ?_)
    ·
      have e : i = N := by omega
      subst e
      refine wp_ls ?_ (Kn hp2 A2 K O sA hA2)
      repeat' (first | exact LE_0 | refine LE_s rfl ?_ | refine LE_s (I_c (by first | omega | (simp only [sm]; omega))) ?_ | refine LE_s (J_c (by first | omega | exact Int.pow_succ _ _ | exact (Int.pow_succ _ _).symm | exact (Int.pow_zero _).symm | (simp only [sm]; omega))) ?_ | refine LE_n ?_)
    ·
      refine wp_iload (pc := 77) dX12_together_77 rfl ?_
      refine wp_iload (pc := 79) dX12_together_79 rfl ?_
      refine wp_Sp (pc := 81) dX12_together_81 cl_X12_227 (sp_Ref_has (s := s) (k := i) (by omega) (by omega)) rfl rfl (by decide) (Nat.le_of_ble_eq_true rfl) ?_
      first | refine wp_ifb_eq (pc := 84) 97 dX12_together_84 (by decide) (fun c84 => ?_) (fun c84 => ?_) | refine wp_if_eq (pc := 84) 97 dX12_together_84 (by decide) (by first | omega | exact TI.i5 (by assumption) | exact TI.i3 (by assumption) | exact TI.i2 (by assumption) | exact TI.i1 (by assumption) | exact TI.i0 (by assumption) | exact TI.i4 (by assumption) | exact TI.i6 (by assumption) | exact TI.i7 (by assumption)) (fun c84 => ?_) (fun c84 => ?_)
      ·
        have e1 : dieS T N s y (i + 1) = dieS T N s y i := if_neg c84
        rw [← e1] at hA2 -- go
        refine wp_iinc (pc := 97) dX12_together_97 rfl (by decide) ?_
        refine wp_goto (pc := 100) 68 dX12_together_100 (by decide) ?_
        first
        | refine wp_ls ?_ (ih (i + 1) (by omega) (by omega) hp2 A2 K O sA hA2)
          repeat' (first | exact LE_0 | refine LE_s rfl ?_ | refine LE_s (I_c (by first | omega | (simp only [sm]; omega))) ?_ | refine LE_s (J_c (by first | omega | exact Int.pow_succ _ _ | exact (Int.pow_succ _ _).symm | exact (Int.pow_zero _).symm | (simp only [sm]; omega))) ?_ | refine LE_n ?_)
        | refine wp_ls ?_ (ih (i + 1) (by omega) (by omega) _ _ K O (by repeat (first | exact SA.rf | assumption | (apply SA.up1; decide) | (apply SA.tr2; assumption; decide))) upA_eq)
          repeat' (first | exact LE_0 | refine LE_s rfl ?_ | refine LE_s (I_c (by first | omega | (simp only [sm]; omega))) ?_ | refine LE_s (J_c (by first | omega | exact Int.pow_succ _ _ | exact (Int.pow_succ _ _).symm | exact (Int.pow_zero _).symm | (simp only [sm]; omega))) ?_ | refine LE_n ?_)
      ·
        have e1 : dieS T N s y (i + 1) = dieT (dieS T N s y i) N (i : Int) y := if_pos c84
        have hnd := and0_bit hsD c84
        have h50 : T 5 (i : Int) = 0 := Classical.byContradiction fun z => hnd (by rw [bits_test]; simp [ddb, lv, z, show i < N by omega])
        have e2 : dieT (dieS T N s y i) N (i : Int) y = up (up (up (dieS T N s y i) 5 (i : Int) y) 4 (i : Int) (mi 99 (dieS T N s y i 4 (i : Int) + 1))) 6 (i : Int) 0 := if_pos ⟨by omega, by omega, hy.1, hy.2, by rw [dieS_5 i (Int.le_refl _)]; exact h50⟩
        skip -- go
        refine wp_aload_n (pc := 87) dX12_together_87 rfl ?_
        refine wm_get dX12_together_88 gf_X12_39 K (by rfl) ?_
        refine wp_iload (pc := 91) dX12_together_91 rfl ?_
        refine wp_iload_n (pc := 93) dX12_together_93 rfl ?_
        refine wp_Sn (pc := 94) dX12_together_94 cl_X12_263 (sp_Ref_goDeath K (dieS_I hI i) (.inr rfl) (by repeat (first | assumption | exact upA_eq | (apply upA_ne; first | decide | omega) | (apply SA_at; assumption; first | decide | (simp; omega)) | exact rfl)) (by omega)) rfl rfl (by decide) (Nat.le_of_ble_eq_true rfl) (fun hp94 e94 => ?_)
        obtain ⟨K, O1⟩ := e94
        replace O := SO.tr O O1
        rw [← e2, ← e1] at K
        refine wp_iinc (pc := 97) dX12_together_97 rfl (by decide) ?_
        refine wp_goto (pc := 100) 68 dX12_together_100 (by decide) ?_
        first
        | refine wp_ls ?_ (ih (i + 1) (by omega) (by omega) hp2 A2 K O sA hA2)
          repeat' (first | exact LE_0 | refine LE_s rfl ?_ | refine LE_s (I_c (by first | omega | (simp only [sm]; omega))) ?_ | refine LE_s (J_c (by first | omega | exact Int.pow_succ _ _ | exact (Int.pow_succ _ _).symm | exact (Int.pow_zero _).symm | (simp only [sm]; omega))) ?_ | refine LE_n ?_)
        | refine wp_ls ?_ (ih (i + 1) (by omega) (by omega) _ _ K O (by repeat (first | exact SA.rf | assumption | (apply SA.up1; decide) | (apply SA.tr2; assumption; decide))) upA_eq)
          repeat' (first | exact LE_0 | refine LE_s rfl ?_ | refine LE_s (I_c (by first | omega | (simp only [sm]; omega))) ?_ | refine LE_s (J_c (by first | omega | exact Int.pow_succ _ _ | exact (Int.pow_succ _ _).symm | exact (Int.pow_zero _).symm | (simp only [sm]; omega))) ?_ | refine LE_n ?_)
theorem lp_tg1 (hI : TI T N) (hH : HS T) (hb : T 7 0 < 1900000000) (M : MX V A N T U tx rw rt hs ss KT) (hy : 1 ≤ y ∧ y ≤ 9) : ∀ (m i : Nat), (2 ^ N) < i + m → i ≤ (2 ^ N) → ∀ (hp2 : Hp) (V2 : Nat → Int) (A2 : Nat → Int → Int) (rd2 : Value) (K : ModAt hp2 q V2 A2 rd2 (.ref (q + 5))) (O : SO hp hp2 q (q + 25)) (h6 : V2 6 = 0) (sV : SV qV V V2) (sA : SA qA A A2), wp g MX12_together (rm 232 0 0) (Eff (.int (I (tgb (tgf (stl rt) T N y) (bits (ddb T) N) (2 ^ N)).2)) (fun hp3 => MAt hp3 q 0 N T U tx [((tgb (tgf (stl rt) T N y) (bits (ddb T) N) (2 ^ N)).1 : Int)] rt hs ss KT ∧ SO hp hp3 q (q + 25))) 0 0 34 [some (.ref q), some (.int (I y)), some (.int (I ((bits (ddb T) N : Nat) : Int))), some (.int (I ((tgb (tgf (stl rt) T N y) (bits (ddb T) N) i).1 : Nat))), some (.int (I (tgb (tgf (stl rt) T N y) (bits (ddb T) N) i).2)), some (.int (I (i : Int))), none] [] hp2 := by
  intro m
  induction m with
  | zero => intro i h1 h2; exact absurd h1 (by omega)
  | succ m ih =>
    intro i h1 h2 hp2 V2 A2 rd2 K O h6 sV sA
    have hN := hI.men.2
    have hp6 := pow64 hN
    have m1 := M.1
    have mA := M.2.1
    have hu := M.ru (q := q)
    have q1 := tgb_in (tgf (stl rt) T N y) (bits (ddb T) N) (tgf_in hI hb hy.2) i
    have q2 := tgf_in (cs := stl rt) hI hb hy.2 i
    obtain ⟨n, hn⟩ := Int.eq_ofNat_of_zero_le (show 0 ≤ y by omega)
    refine wp_iload (pc := 34) dX12_together_34 rfl ?_
    refine wp_aload_n (pc := 36) dX12_together_36 rfl ?_
    refine wp_Vp (pc := 37) dX12_together_37 cl_X12_293 (sp_Ref_all (by first | assumption | omega | (repeat (first | assumption | exact pv10 | exact pv11 | (apply pv_o; decide; decide) | exact upN_eq | (apply upN_ne; decide) | (apply SV_at; assumption; decide) | exact upA_eq | (apply upA_ne; first | decide | omega) | (apply SA_at; assumption; first | decide | (simp; omega)) | exact rfl))) (by first | assumption | omega | (repeat (first | assumption | exact pv10 | exact pv11 | (apply pv_o; decide; decide) | exact upN_eq | (apply upN_ne; decide) | (apply SV_at; assumption; decide) | exact upA_eq | (apply upA_ne; first | decide | omega) | (apply SA_at; assumption; first | decide | (simp; omega)) | exact rfl))) (by first | assumption | omega | (repeat (first | assumption | exact pv10 | exact pv11 | (apply pv_o; decide; decide) | exact upN_eq | (apply upN_ne; decide) | (apply SV_at; assumption; decide) | exact upA_eq | (apply upA_ne; first | decide | omega) | (apply SA_at; assumption; first | decide | (simp; omega)) | exact rfl)))) rfl rfl K.1 (by rfl) (by decide) (Nat.le_of_ble_eq_true rfl) ?_
    refine wp_icmp_gt (pc := 40) 152 dX12_together_40 (by decide) (by first | omega | exact TI.i5 (by assumption) | exact TI.i3 (by assumption) | exact TI.i2 (by assumption) | exact TI.i1 (by assumption) | exact TI.i0 (by assumption) | exact TI.i4 (by assumption) | exact TI.i6 (by assumption) | exact TI.i7 (by assumption)) (by first | omega | exact TI.i5 (by assumption) | exact TI.i3 (by assumption) | exact TI.i2 (by assumption) | exact TI.i1 (by assumption) | exact TI.i0 (by assumption) | exact TI.i4 (by assumption) | exact TI.i6 (by assumption) | exact TI.i7 (by assumption)) (fun c40 => ?_) (fun c40 => ?_)
    ·
      have e : i = 2 ^ N := by omega
      subst e -- go
      refine wp_aload_n (pc := 152) dX12_together_152 rfl ?_
      refine wp_iconst (pc := 153) dX12_together_153 ?_
      refine wm_put dX12_together_154 pf_X12_89 K O (by decide) mset_5 rfl rfl (fun hp K O => ?_)
      refine wp_aload_n (pc := 157) dX12_together_157 rfl ?_
      refine wp_iload_n (pc := 158) dX12_together_158 rfl ?_
      refine wp_i2l (pc := 159) dX12_together_159 (by first | omega | exact TI.i5 (by assumption) | exact TI.i3 (by assumption) | exact TI.i2 (by assumption) | exact TI.i1 (by assumption) | exact TI.i0 (by assumption) | exact TI.i4 (by assumption) | exact TI.i6 (by assumption) | exact TI.i7 (by assumption)) ?_
      refine wp_Vn (pc := 160) dX12_together_160 cl_X12_253 (sp_Ref_tellR K (by first | assumption | exact Mrw.z (by repeat (first | assumption | exact pv10 | exact pv11 | (apply pv_o; decide; decide) | exact upN_eq | (apply upN_ne; decide) | (apply SV_at; assumption; decide) | exact rfl))) (by first | decide | (simp; omega) | simp | omega)) rfl rfl K.1 (by rfl) (by decide) (Nat.le_of_ble_eq_true rfl) (fun hp160 e160 => ?_)
      obtain ⟨⟨V160, A160, K, sV160, sA160, hR160⟩, O1⟩ := e160; replace O := SO.tr O O1
      refine wp_iload (pc := 163) dX12_together_163 rfl ?_
      exact wp_ir (pc := 165) dX12_together_165 rfl (by decide) (by decide) (by first | rfl | omega) ⟨⟨_, _, _, K, (by repeat (first | assumption | exact pv10 | exact pv11 | (apply pv_o; decide; decide) | exact upN_eq | (apply upN_ne; decide) | (apply SV_at; assumption; decide) | exact rfl)), M.qu (by repeat (first | exact SV.rf | assumption | (apply SV.up1; decide) | (apply SV.tr2; assumption; decide))) (by repeat (first | exact SA.rf | assumption | (apply SA.up1; decide) | (apply SA.tr2; assumption; decide))) (by first | assumption | exact Mrw.z (by repeat (first | assumption | exact pv10 | exact pv11 | (apply pv_o; decide; decide) | exact upN_eq | (apply upN_ne; decide) | (apply SV_at; assumption; decide) | exact rfl)) | exact Mrw.tr (by assumption) (by repeat (first | assumption | exact pv10 | exact pv11 | (apply pv_o; decide; decide) | exact upN_eq | (apply upN_ne; decide) | (apply SV_at; assumption; decide) | exact rfl)) (by repeat (first | assumption | exact upA_eq | (apply upA_ne; first | decide | omega) | (apply SA_at; assumption; first | decide | (simp; omega)) | exact rfl)))⟩, O⟩
    ·
      refine wp_iload (pc := 43) dX12_together_43 rfl ?_
      refine wp_iload_n (pc := 45) dX12_together_45 rfl ?_
      refine wp_iand (pc := 46) dX12_together_46 I_and ?_
      first | refine wp_ifb_eq (pc := 47) 53 dX12_together_47 (by decide) (fun c47 => ?_) (fun c47 => ?_) | refine wp_if_eq (pc := 47) 53 dX12_together_47 (by decide) (by have := Nat.and_le_left (n := i) (m := bits (ddb T) N); omega) (fun c47 => ?_) (fun c47 => ?_)
      ·
        have hand : i &&& bits (ddb T) N = 0 := by omega
        have hI2 := dieS_I (s := i) (y := y) hI N
        have hH2 := dieS_HS (N := N) (s := i) (y := y) hH N
        skip -- go
        refine wp_aload_n (pc := 53) dX12_together_53 rfl ?_
        refine wm_get dX12_together_54 gf_X12_9 K (by rfl) ?_
        refine wp_aload_n (pc := 57) dX12_together_57 rfl ?_
        refine wm_get dX12_together_58 gf_X12_39 K (by rfl) ?_
        refine wp_iconst (pc := 61) dX12_together_61 ?_
        refine wp_Sn (pc := 62) dX12_together_62 cl_X12_223 (sp_Ref_lay K rfl (by decide) rfl (by decide) (by decide) (by repeat (first | assumption | exact upA_eq | (apply upA_ne; first | decide | omega) | (apply SA_at; assumption; first | decide | (simp; omega)) | exact rfl))) rfl rfl (by decide) (Nat.le_of_ble_eq_true rfl) (fun hp62 e62 => ?_)
        obtain ⟨K, O1⟩ := e62
        replace O := SO.tr O O1
        refine wp_iconst (pc := 65) dX12_together_65 ?_
        refine wp_istore (pc := 66) dX12_together_66 (by decide) ?_
        refine wp_ls ?_ (lp_tg2 (s := i) (v1 := ((bits (ddb T) N : Nat) : Int)) (v2 := (((tgb (tgf (stl rt) T N y) (bits (ddb T) N) i).1 : Nat) : Int)) (v3 := (tgb (tgf (stl rt) T N y) (bits (ddb T) N) i).2) (V := V) (A := A) hI hH M (by omega) hand hy (fun hp3 A3 K3 O3 sA3 hA3 => ?_) sV (N + 1) 0 (by omega) (by omega) _ _ K O (by repeat (first | exact SA.rf | assumption | (apply SA.up1; decide) | (apply SA.tr2; assumption; decide))) upA_eq)
        · repeat' (first | exact LE_0 | refine LE_s rfl ?_ | refine LE_s (I_c (by first | omega | (simp only [sm]; omega))) ?_ | refine LE_s (J_c (by first | omega | exact Int.pow_succ _ _ | exact (Int.pow_succ _ _).symm | exact (Int.pow_zero _).symm | (simp only [sm]; omega))) ?_ | refine LE_n ?_)
        · have K := K3
          have O := O3
          refine wp_aload_n (pc := 103) dX12_together_103 rfl ?_
          refine wp_aload_n (pc := 104) dX12_together_104 rfl ?_
          refine wm_get dX12_together_105 gf_X12_39 K (by rfl) ?_
          refine wp_iload_n (pc := 108) dX12_together_108 rfl ?_
          refine wp_topE hn ?_
          refine wp_Vs (pc := 109) dX12_together_109 cl_X12_250 (sp_Ref_goHours (n := n) (T := dieS T N i y N) K (by repeat (first | assumption | exact pv10 | exact pv11 | (apply pv_o; decide; decide) | exact upN_eq | (apply upN_ne; decide) | (apply SV_at; assumption; decide) | exact rfl)) hI2 hH2 (.inr rfl) (by repeat (first | assumption | exact upA_eq | (apply upA_ne; first | decide | omega) | (apply SA_at; assumption; first | decide | (simp; omega)) | exact rfl)) (RuA.cc hu (by repeat (first | assumption | exact pv10 | exact pv11 | (apply pv_o; decide; decide) | exact upN_eq | (apply upN_ne; decide) | (apply SV_at; assumption; decide) | exact rfl)) (by repeat (first | assumption | exact upA_eq | (apply upA_ne; first | decide | omega) | (apply SA_at; assumption; first | decide | (simp; omega)) | exact rfl)) (by repeat (first | assumption | exact upA_eq | (apply upA_ne; first | decide | omega) | (apply SA_at; assumption; first | decide | (simp; omega)) | exact rfl))) (by rw [dieS_7]; omega) (by omega)) rfl rfl K.1 (by rfl) (by decide) (Nat.le_of_ble_eq_true rfl) (fun hp109 e109 => ?_)
          obtain ⟨⟨V109, A109, rd109, K, sV109, sA109, hA109⟩, O1⟩ := e109; replace O := SO.tr O O1
          have ey : y.toNat = n := by omega
          rw [← ey] at hA109
          have ef : sm (runT (stl rt) (dieS T N i y N) N y.toNat 3) N = tgf (stl rt) T N y i := rfl
          refine wp_pop (pc := 112) dX12_together_112 rfl ?_
          refine wp_aload_n (pc := 113) dX12_together_113 rfl ?_
          refine wp_aload_n (pc := 114) dX12_together_114 rfl ?_
          refine wm_get dX12_together_115 gf_X12_39 K (by rfl) ?_
          refine wp_bipush (pc := 118) (y := 42) dX12_together_118 (by decide) ?_
          refine wp_Vp (pc := 120) dX12_together_120 cl_X12_220 (sp_sum3 K (by repeat (first | assumption | exact pv10 | exact pv11 | (apply pv_o; decide; decide) | exact upN_eq | (apply upN_ne; decide) | (apply SV_at; assumption; decide) | exact rfl)) hN (.inr rfl) (by repeat (first | assumption | exact upA_eq | (apply upA_ne; first | decide | omega) | (apply SA_at; assumption; first | decide | (simp; omega)) | exact rfl))) rfl rfl K.1 (by rfl) (by decide) (Nat.le_of_ble_eq_true rfl) ?_
          rw [ef]
          refine wp_iload (pc := 123) dX12_together_123 rfl ?_
          refine wp_icmp_gt (pc := 125) 131 dX12_together_125 (by decide) (by first | omega | exact TI.i5 (by assumption) | exact TI.i3 (by assumption) | exact TI.i2 (by assumption) | exact TI.i1 (by assumption) | exact TI.i0 (by assumption) | exact TI.i4 (by assumption) | exact TI.i6 (by assumption) | exact TI.i7 (by assumption)) (by first | omega | exact TI.i5 (by assumption) | exact TI.i3 (by assumption) | exact TI.i2 (by assumption) | exact TI.i1 (by assumption) | exact TI.i0 (by assumption) | exact TI.i4 (by assumption) | exact TI.i6 (by assumption) | exact TI.i7 (by assumption)) (fun c125 => ?_) (fun c125 => ?_)
          ·
            have e1 : tgb (tgf (stl rt) T N y) (bits (ddb T) N) (i + 1) = (i, tgf (stl rt) T N y i) := if_pos ⟨hand, by omega⟩
            skip -- go
            refine wp_iload (pc := 131) dX12_together_131 rfl ?_
            refine wp_istore_n (pc := 133) dX12_together_133 (by decide) ?_
            refine wp_aload_n (pc := 134) dX12_together_134 rfl ?_
            refine wp_aload_n (pc := 135) dX12_together_135 rfl ?_
            refine wm_get dX12_together_136 gf_X12_39 K (by rfl) ?_
            refine wp_bipush (pc := 139) (y := 42) dX12_together_139 (by decide) ?_
            refine wp_Vp (pc := 141) dX12_together_141 cl_X12_220 (sp_sum3 K (by repeat (first | assumption | exact pv10 | exact pv11 | (apply pv_o; decide; decide) | exact upN_eq | (apply upN_ne; decide) | (apply SV_at; assumption; decide) | exact rfl)) hN (.inr rfl) (by repeat (first | assumption | exact upA_eq | (apply upA_ne; first | decide | omega) | (apply SA_at; assumption; first | decide | (simp; omega)) | exact rfl))) rfl rfl K.1 (by rfl) (by decide) (Nat.le_of_ble_eq_true rfl) ?_
            rw [ef]
            refine wp_istore (pc := 144) dX12_together_144 (by decide) ?_
            refine wp_iinc (pc := 146) dX12_together_146 rfl (by decide) ?_
            refine wp_goto (pc := 149) 34 dX12_together_149 (by decide) ?_
            refine wp_ls ?_ (ih (i + 1) (by omega) (by omega) _ _ _ _ K O (by repeat (first | assumption | exact pv10 | exact pv11 | (apply pv_o; decide; decide) | exact upN_eq | (apply upN_ne; decide) | (apply SV_at; assumption; decide) | exact rfl)) (by repeat (first | exact SV.rf | assumption | (apply SV.up1; decide) | (apply SV.tr2; assumption; decide))) (by repeat (first | exact SA.rf | assumption | (apply SA.up1; decide) | (apply SA.tr2; assumption; decide))))
            rw [e1]
            repeat' (first | exact LE_0 | refine LE_s rfl ?_ | refine LE_s (I_c (by first | omega | (simp only [sm]; omega))) ?_ | refine LE_s (J_c (by first | omega | exact Int.pow_succ _ _ | exact (Int.pow_succ _ _).symm | exact (Int.pow_zero _).symm | (simp only [sm]; omega))) ?_ | refine LE_n ?_)
          ·
            have e1 : tgb (tgf (stl rt) T N y) (bits (ddb T) N) (i + 1) = tgb (tgf (stl rt) T N y) (bits (ddb T) N) i := if_neg (fun z => by omega)
            skip -- go
            refine wp_goto (pc := 128) 146 dX12_together_128 (by decide) ?_
            refine wp_iinc (pc := 146) dX12_together_146 rfl (by decide) ?_
            refine wp_goto (pc := 149) 34 dX12_together_149 (by decide) ?_
            refine wp_ls ?_ (ih (i + 1) (by omega) (by omega) _ _ _ _ K O (by repeat (first | assumption | exact pv10 | exact pv11 | (apply pv_o; decide; decide) | exact upN_eq | (apply upN_ne; decide) | (apply SV_at; assumption; decide) | exact rfl)) (by repeat (first | exact SV.rf | assumption | (apply SV.up1; decide) | (apply SV.tr2; assumption; decide))) (by repeat (first | exact SA.rf | assumption | (apply SA.up1; decide) | (apply SA.tr2; assumption; decide))))
            rw [e1]
            repeat' (first | exact LE_0 | refine LE_s rfl ?_ | refine LE_s (I_c (by first | omega | (simp only [sm]; omega))) ?_ | refine LE_s (J_c (by first | omega | exact Int.pow_succ _ _ | exact (Int.pow_succ _ _).symm | exact (Int.pow_zero _).symm | (simp only [sm]; omega))) ?_ | refine LE_n ?_)
      ·
        have e1 : tgb (tgf (stl rt) T N y) (bits (ddb T) N) (i + 1) = tgb (tgf (stl rt) T N y) (bits (ddb T) N) i := if_neg (fun z => c47 (by rw [z.1]; rfl))
        skip -- go
        refine wp_goto (pc := 50) 146 dX12_together_50 (by decide) ?_
        refine wp_iinc (pc := 146) dX12_together_146 rfl (by decide) ?_
        refine wp_goto (pc := 149) 34 dX12_together_149 (by decide) ?_
        refine wp_ls ?_ (ih (i + 1) (by omega) (by omega) _ _ _ _ K O (by repeat (first | assumption | exact pv10 | exact pv11 | (apply pv_o; decide; decide) | exact upN_eq | (apply upN_ne; decide) | (apply SV_at; assumption; decide) | exact rfl)) (by repeat (first | exact SV.rf | assumption | (apply SV.up1; decide) | (apply SV.tr2; assumption; decide))) (by repeat (first | exact SA.rf | assumption | (apply SA.up1; decide) | (apply SA.tr2; assumption; decide))))
        rw [e1]
        repeat' (first | exact LE_0 | refine LE_s rfl ?_ | refine LE_s (I_c (by first | omega | (simp only [sm]; omega))) ?_ | refine LE_s (J_c (by first | omega | exact Int.pow_succ _ _ | exact (Int.pow_succ _ _).symm | exact (Int.pow_zero _).symm | (simp only [sm]; omega))) ?_ | refine LE_n ?_)
theorem sp_Ref_together (hM : MAt hp q th N T U tx rw rt hs ss KT) (hI : TI T N) (hH : HS T) (hb : T 7 0 < 1900000000) (ry : InR y) : Sp g MX12_together (rm 232 0 0) [.ref q, .int (I y)] hp (Eff (.int (I (if 1 ≤ y ∧ y ≤ 9 then (tgb (tgf (stl rt) T N y) (bits (ddb T) N) (2 ^ N)).2 else -1))) (fun hp2 => MAt hp2 q 0 N T U tx (if 1 ≤ y ∧ y ≤ 9 then [((tgb (tgf (stl rt) T N y) (bits (ddb T) N) (2 ^ N)).1 : Int)] else rw) rt hs ss KT ∧ SO hp hp2 q (q + 25))) := by
  have hN := hI.men.2
  have hp6 := pow64 hN
  refine Sp_mk rfl (Nat.le_of_ble_eq_true rfl) ?_
  show wp g _ _ _ 0 0 0 [some (.ref q), some (.int (I y)), none, none, none, none, none] [] hp
  have O := SO.rf (hp := hp) (lo := q) (hi := q + 25)
  obtain ⟨V, A, rd, K, hth, M⟩ := hM
  have hu := M.ru (q := q)
  have M2 := M
  obtain ⟨m1, mA, mt, mr, mu, mU, mh, ms, mk⟩ := M2
  refine wp_aload_n (pc := 0) dX12_together_0 rfl ?_
  refine wp_iconst (pc := 1) dX12_together_1 ?_
  refine wm_put dX12_together_2 pf_X12_85 K O (by decide) mset_6 rfl rfl (fun hp K O => ?_)
  refine wp_iload_n (pc := 5) dX12_together_5 rfl ?_
  refine wp_iconst (pc := 6) dX12_together_6 ?_
  refine wp_bipush (pc := 7) (y := 9) dX12_together_7 (by decide) ?_
  refine wp_Sp (pc := 9) dX12_together_9 cl_X12_95 (sp_Ref_in (by first | assumption | omega | (repeat (first | assumption | exact pv10 | exact pv11 | (apply pv_o; decide; decide) | exact upN_eq | (apply upN_ne; decide) | (apply SV_at; assumption; decide) | exact upA_eq | (apply upA_ne; first | decide | omega) | (apply SA_at; assumption; first | decide | (simp; omega)) | exact rfl))) (by first | assumption | omega | (repeat (first | assumption | exact pv10 | exact pv11 | (apply pv_o; decide; decide) | exact upN_eq | (apply upN_ne; decide) | (apply SV_at; assumption; decide) | exact upA_eq | (apply upA_ne; first | decide | omega) | (apply SA_at; assumption; first | decide | (simp; omega)) | exact rfl))) (by first | assumption | omega | (repeat (first | assumption | exact pv10 | exact pv11 | (apply pv_o; decide; decide) | exact upN_eq | (apply upN_ne; decide) | (apply SV_at; assumption; decide) | exact upA_eq | (apply upA_ne; first | decide | omega) | (apply SA_at; assumption; first | decide | (simp; omega)) | exact rfl)))) rfl rfl (by decide) (Nat.le_of_ble_eq_true rfl) ?_
  first | refine wp_ifb_ne (pc := 12) 17 dX12_together_12 (by decide) (fun c12 => ?_) (fun c12 => ?_) | refine wp_if_ne (pc := 12) 17 dX12_together_12 (by decide) (by first | omega | exact TI.i5 (by assumption) | exact TI.i3 (by assumption) | exact TI.i2 (by assumption) | exact TI.i1 (by assumption) | exact TI.i0 (by assumption) | exact TI.i4 (by assumption) | exact TI.i6 (by assumption) | exact TI.i7 (by assumption)) (fun c12 => ?_) (fun c12 => ?_)
  ·
    rw [if_pos c12, if_pos c12] -- go
    refine wp_aload_n (pc := 17) dX12_together_17 rfl ?_
    refine wp_aload_n (pc := 18) dX12_together_18 rfl ?_
    refine wm_get dX12_together_19 gf_X12_9 K (by rfl) ?_
    refine wp_Vp (pc := 22) dX12_together_22 cl_X12_235 (sp_Ref_deadOnes K (by repeat (first | assumption | exact pv10 | exact pv11 | (apply pv_o; decide; decide) | exact upN_eq | (apply upN_ne; decide) | (apply SV_at; assumption; decide) | exact rfl)) hI (.inl rfl) (by repeat (first | assumption | exact upA_eq | (apply upA_ne; first | decide | omega) | (apply SA_at; assumption; first | decide | (simp; omega)) | exact rfl))) rfl rfl K.1 (by rfl) (by decide) (Nat.le_of_ble_eq_true rfl) ?_
    refine wp_istore_n (pc := 25) dX12_together_25 (by decide) ?_
    refine wp_iconst (pc := 26) dX12_together_26 ?_
    refine wp_istore_n (pc := 27) dX12_together_27 (by decide) ?_
    refine wp_iconst (pc := 28) dX12_together_28 ?_
    refine wp_istore (pc := 29) dX12_together_29 (by decide) ?_
    refine wp_iconst (pc := 31) dX12_together_31 ?_
    refine wp_istore (pc := 32) dX12_together_32 (by decide) ?_
    refine wp_ls ?_ (lp_tg1 hI hH hb M c12 (2 ^ N + 1) 0 (by omega) (by omega) _ _ _ _ K O (by repeat (first | assumption | exact pv10 | exact pv11 | (apply pv_o; decide; decide) | exact upN_eq | (apply upN_ne; decide) | (apply SV_at; assumption; decide) | exact rfl)) (by repeat (first | exact SV.rf | assumption | (apply SV.up1; decide) | (apply SV.tr2; assumption; decide))) (by repeat (first | exact SA.rf | assumption | (apply SA.up1; decide) | (apply SA.tr2; assumption; decide))))
    repeat' (first | exact LE_0 | refine LE_s rfl ?_ | refine LE_s (I_c (by first | omega | (simp only [sm]; omega))) ?_ | refine LE_s (J_c (by first | omega | exact Int.pow_succ _ _ | exact (Int.pow_succ _ _).symm | exact (Int.pow_zero _).symm | (simp only [sm]; omega))) ?_ | refine LE_n ?_)
  ·
    rw [if_neg c12, if_neg c12] -- go
    refine wp_iconst (pc := 15) dX12_together_15 ?_
    exact wp_ir (pc := 16) dX12_together_16 rfl (by decide) (by decide) (by first | rfl | omega) ⟨⟨_, _, _, K, (by repeat (first | assumption | exact pv10 | exact pv11 | (apply pv_o; decide; decide) | exact upN_eq | (apply upN_ne; decide) | (apply SV_at; assumption; decide) | exact rfl)), M.qu (by repeat (first | exact SV.rf | assumption | (apply SV.up1; decide) | (apply SV.tr2; assumption; decide))) (by repeat (first | exact SA.rf | assumption | (apply SA.up1; decide) | (apply SA.tr2; assumption; decide))) (by first | assumption | exact Mrw.z (by repeat (first | assumption | exact pv10 | exact pv11 | (apply pv_o; decide; decide) | exact upN_eq | (apply upN_ne; decide) | (apply SV_at; assumption; decide) | exact rfl)) | exact Mrw.tr (by assumption) (by repeat (first | assumption | exact pv10 | exact pv11 | (apply pv_o; decide; decide) | exact upN_eq | (apply upN_ne; decide) | (apply SV_at; assumption; decide) | exact rfl)) (by repeat (first | assumption | exact upA_eq | (apply upA_ne; first | decide | omega) | (apply SA_at; assumption; first | decide | (simp; omega)) | exact rfl)))⟩, O⟩
/-! whose death is worth the most -/
def wor (T : Nat → Int → Int) (N : Nat) (x : Int) : Int := T 2 x + oto T x N - oby T x N
theorem wor_in (hI : TI T N) : -700 ≤ wor T N x ∧ wor T N x ≤ 700 := by
  have := oby_in (p := x) hI
  have := oto_in (p := x) hI
  have := hI.r2 x
  unfold wor
  omega
theorem sp_Ref_fortune (K : ModAt hp q V A rd rl) (m1 : V 1 = (N : Int)) (hI : TI T N) (ha : a = 1 ∨ a = 10) (hA : A a = flat T) (rx : 0 ≤ x ∧ x < 6) : Sp g MX12_fortune (rm 2 0 0) [.ref q, .ref (q + a), .int (I x)] hp (Pur (.int (I (wor T N x))) hp) := by
  have hm := mty_n ha
  have hN := hI.men.2
  refine Sp_mk rfl (Nat.le_of_ble_eq_true rfl) ?_
  show wp g _ _ _ 0 0 0 [some (.ref q), some (.ref (q + a)), some (.int (I x))] [] hp
  have O := SO.rf (hp := hp) (lo := q) (hi := q + 25)
  refine wp_aload_n (pc := 0) dX12_fortune_0 rfl ?_
  refine wp_bipush (pc := 1) (y := 36) dX12_fortune_1 (by decide) ?_
  refine wp_iload_n (pc := 3) dX12_fortune_3 rfl ?_
  refine wp_iadd (pc := 4) dX12_fortune_4 ?_
  refine wm_iald dX12_fortune_5 K (by first | rfl | assumption) (by first | decide | omega) (by first | decide | omega) (by decide) (by omega) (by omega) (by repeat (first | assumption | exact upA_eq | (apply upA_ne; first | decide | omega) | (apply SA_at; assumption; first | decide | (simp; omega)) | exact rfl)) (by first | exact flat5 (by omega) (by omega) | exact flat3 (by omega) (by omega) | exact flat2 (by omega) (by omega) | exact flat6 (by omega) (by omega) | exact flat4 (by omega) (by omega) | exact flat1 (by omega) (by omega) | exact flat0 (by omega) (by omega) | exact flat7 | exact rfl) ?_
  refine wp_aload_n (pc := 6) dX12_fortune_6 rfl ?_
  refine wp_aload_n (pc := 7) dX12_fortune_7 rfl ?_
  refine wp_iload_n (pc := 8) dX12_fortune_8 rfl ?_
  refine wp_Vp (pc := 9) dX12_fortune_9 cl_X12_209 (sp_Ref_owedAll (by first | assumption | omega | (repeat (first | assumption | exact pv10 | exact pv11 | (apply pv_o; decide; decide) | exact upN_eq | (apply upN_ne; decide) | (apply SV_at; assumption; decide) | exact upA_eq | (apply upA_ne; first | decide | omega) | (apply SA_at; assumption; first | decide | (simp; omega)) | exact rfl))) (by first | assumption | omega | (repeat (first | assumption | exact pv10 | exact pv11 | (apply pv_o; decide; decide) | exact upN_eq | (apply upN_ne; decide) | (apply SV_at; assumption; decide) | exact upA_eq | (apply upA_ne; first | decide | omega) | (apply SA_at; assumption; first | decide | (simp; omega)) | exact rfl))) (by first | assumption | omega | (repeat (first | assumption | exact pv10 | exact pv11 | (apply pv_o; decide; decide) | exact upN_eq | (apply upN_ne; decide) | (apply SV_at; assumption; decide) | exact upA_eq | (apply upA_ne; first | decide | omega) | (apply SA_at; assumption; first | decide | (simp; omega)) | exact rfl))) (by first | assumption | omega | (repeat (first | assumption | exact pv10 | exact pv11 | (apply pv_o; decide; decide) | exact upN_eq | (apply upN_ne; decide) | (apply SV_at; assumption; decide) | exact upA_eq | (apply upA_ne; first | decide | omega) | (apply SA_at; assumption; first | decide | (simp; omega)) | exact rfl))) (by first | assumption | omega | (repeat (first | assumption | exact pv10 | exact pv11 | (apply pv_o; decide; decide) | exact upN_eq | (apply upN_ne; decide) | (apply SV_at; assumption; decide) | exact upA_eq | (apply upA_ne; first | decide | omega) | (apply SA_at; assumption; first | decide | (simp; omega)) | exact rfl))) (by first | assumption | omega | (repeat (first | assumption | exact pv10 | exact pv11 | (apply pv_o; decide; decide) | exact upN_eq | (apply upN_ne; decide) | (apply SV_at; assumption; decide) | exact upA_eq | (apply upA_ne; first | decide | omega) | (apply SA_at; assumption; first | decide | (simp; omega)) | exact rfl)))) rfl rfl K.1 (by rfl) (by decide) (Nat.le_of_ble_eq_true rfl) ?_
  refine wp_iadd (pc := 12) dX12_fortune_12 ?_
  refine wp_aload_n (pc := 13) dX12_fortune_13 rfl ?_
  refine wp_aload_n (pc := 14) dX12_fortune_14 rfl ?_
  refine wp_iload_n (pc := 15) dX12_fortune_15 rfl ?_
  refine wp_Vp (pc := 16) dX12_fortune_16 cl_X12_205 (sp_Ref_owesAll (by first | assumption | omega | (repeat (first | assumption | exact pv10 | exact pv11 | (apply pv_o; decide; decide) | exact upN_eq | (apply upN_ne; decide) | (apply SV_at; assumption; decide) | exact upA_eq | (apply upA_ne; first | decide | omega) | (apply SA_at; assumption; first | decide | (simp; omega)) | exact rfl))) (by first | assumption | omega | (repeat (first | assumption | exact pv10 | exact pv11 | (apply pv_o; decide; decide) | exact upN_eq | (apply upN_ne; decide) | (apply SV_at; assumption; decide) | exact upA_eq | (apply upA_ne; first | decide | omega) | (apply SA_at; assumption; first | decide | (simp; omega)) | exact rfl))) (by first | assumption | omega | (repeat (first | assumption | exact pv10 | exact pv11 | (apply pv_o; decide; decide) | exact upN_eq | (apply upN_ne; decide) | (apply SV_at; assumption; decide) | exact upA_eq | (apply upA_ne; first | decide | omega) | (apply SA_at; assumption; first | decide | (simp; omega)) | exact rfl))) (by first | assumption | omega | (repeat (first | assumption | exact pv10 | exact pv11 | (apply pv_o; decide; decide) | exact upN_eq | (apply upN_ne; decide) | (apply SV_at; assumption; decide) | exact upA_eq | (apply upA_ne; first | decide | omega) | (apply SA_at; assumption; first | decide | (simp; omega)) | exact rfl))) (by first | assumption | omega | (repeat (first | assumption | exact pv10 | exact pv11 | (apply pv_o; decide; decide) | exact upN_eq | (apply upN_ne; decide) | (apply SV_at; assumption; decide) | exact upA_eq | (apply upA_ne; first | decide | omega) | (apply SA_at; assumption; first | decide | (simp; omega)) | exact rfl))) (by first | assumption | omega | (repeat (first | assumption | exact pv10 | exact pv11 | (apply pv_o; decide; decide) | exact upN_eq | (apply upN_ne; decide) | (apply SV_at; assumption; decide) | exact upA_eq | (apply upA_ne; first | decide | omega) | (apply SA_at; assumption; first | decide | (simp; omega)) | exact rfl)))) rfl rfl K.1 (by rfl) (by decide) (Nat.le_of_ble_eq_true rfl) ?_
  refine wp_isub (pc := 19) dX12_fortune_19 ?_
  exact wp_ir (pc := 20) dX12_fortune_20 rfl (by decide) (by decide) (by first | rfl | omega) (by first | exact ⟨K, O⟩ | rfl)
def hrf (cs : List Int) (T : Nat → Int → Int) (N : Nat) (x y : Int) (i : Nat) : Int := wor (runT cs (dieT T N (i : Int) y) N y.toNat) N x
/-- of those below n who may die, the first best for x: its number and the worth; -2 if none -/
def hrb (f : Nat → Int) (P : Nat → Bool) : Nat → Int × Int
  | 0 => (-2, -1000000)
  | n + 1 => if P n = true ∧ (hrb f P n).2 < f n then ((n : Int), f n) else hrb f P n
abbrev hrP (T : Nat → Int → Int) (x : Int) : Nat → Bool := fun i => decide ((i : Int) ≠ x ∧ T 5 (i : Int) = 0)
theorem hrb_in (f : Nat → Int) (P : Nat → Bool) (h : ∀ n, -700 ≤ f n ∧ f n ≤ 700) : ∀ n : Nat, -2 ≤ (hrb f P n).1 ∧ (hrb f P n).1 ≤ n ∧ (hrb f P n).1 ≠ -1 ∧ -1000000 ≤ (hrb f P n).2 ∧ (hrb f P n).2 ≤ 700 ∧ ((hrb f P n).1 ≠ -2 → -700 ≤ (hrb f P n).2)
  | 0 => by unfold hrb; exact ⟨by decide, by decide, by decide, by decide, by decide, fun z => absurd rfl z⟩
  | n + 1 => by
    obtain ⟨h1, h2, h3, h4, h5, h6⟩ := hrb_in f P h n
    have h7 := h n
    unfold hrb
    split
    · exact ⟨by show -2 ≤ (n : Int); omega, by show (n : Int) ≤ _; omega, by show (n : Int) ≠ _; omega, by show -1000000 ≤ f n; omega, h7.2, fun _ => h7.1⟩
    · exact ⟨h1, by omega, h3, h4, h5, h6⟩
theorem hrf_in {cs : List Int} (hI : TI T N) (hb : T 7 0 < 1900000000) (hy : y ≤ 9) (i : Nat) : -700 ≤ hrf cs T N x y i ∧ hrf cs T N x y i ≤ 700 := wor_in (runT_I (cs := cs) (dieT_I (p := (i : Int)) (n := y) hI) y.toNat (by rw [dieT_7]; omega))
theorem lp_Ref_heir (hI : TI T N) (hH : HS T) (hb : T 7 0 < 1900000000) (M : MX V A N T U tx rw rt hs ss KT) (hx : 0 ≤ x ∧ x < N) (hy : 1 ≤ y ∧ y ≤ 9) : ∀ (m i : Nat), N < i + m → i ≤ N → ∀ (hp2 : Hp) (V2 : Nat → Int) (A2 : Nat → Int → Int) (rd2 : Value) (K : ModAt hp2 q V2 A2 rd2 (.ref (q + 5))) (O : SO hp hp2 q (q + 25)) (h6 : V2 6 = 0) (sV : SV qV V V2) (sA : SA qA A A2) (hR : Mrw V2 A2 rw), wp g MX12_heir (rm 232 0 0) (Eff (.int (I (hrb (hrf (stl rt) T N x y) (hrP T x) N).1)) (fun hp3 => MAt hp3 q 0 N T U tx (if (hrb (hrf (stl rt) T N x y) (hrP T x) N).1 = -2 then rw else [1000 + (hrb (hrf (stl rt) T N x y) (hrP T x) N).2, 1000 + wor (runT (stl rt) T N y.toNat) N x]) rt hs ss KT ∧ SO hp hp3 q (q + 25))) 0 0 36 [some (.ref q), some (.int (I x)), some (.int (I y)), some (.int (I (hrb (hrf (stl rt) T N x y) (hrP T x) i).1)), some (.int (I (hrb (hrf (stl rt) T N x y) (hrP T x) i).2)), some (.int (I (i : Int)))] [] hp2 := by
  intro m
  induction m with
  | zero => intro i h1 h2; exact absurd h1 (by omega)
  | succ m ih =>
    intro i h1 h2 hp2 V2 A2 rd2 K O h6 sV sA hR
    have hN := hI.men.2
    have m1 := M.1
    have mA := M.2.1
    have hu := M.ru (q := q)
    have h5 := hI.r5 (i : Int)
    have q1 := hrb_in (hrf (stl rt) T N x y) (hrP T x) (hrf_in hI hb hy.2) i
    have q2 := hrf_in (cs := stl rt) (x := x) hI hb hy.2 i
    obtain ⟨n, hn⟩ := Int.eq_ofNat_of_zero_le (show 0 ≤ y by omega)
    have ey : y.toNat = n := by omega
    have hI3 := runT_I (cs := stl rt) hI n (by omega)
    have hw3 := wor_in (x := x) hI3
    refine wp_iload (pc := 36) dX12_heir_36 rfl ?_
    refine wp_aload_n (pc := 38) dX12_heir_38 rfl ?_
    refine wm_gets dX12_heir_39 gf_X12_92 K (by rfl) (by repeat (first | assumption | exact pv10 | exact pv11 | (apply pv_o; decide; decide) | exact upN_eq | (apply upN_ne; decide) | (apply SV_at; assumption; decide) | exact rfl)) ?_
    refine wp_icmp_ge (pc := 42) 136 dX12_heir_42 (by decide) (by first | omega | exact TI.i5 (by assumption) | exact TI.i3 (by assumption) | exact TI.i2 (by assumption) | exact TI.i1 (by assumption) | exact TI.i0 (by assumption) | exact TI.i4 (by assumption) | exact TI.i6 (by assumption) | exact TI.i7 (by assumption)) (by first | omega | exact TI.i5 (by assumption) | exact TI.i3 (by assumption) | exact TI.i2 (by assumption) | exact TI.i1 (by assumption) | exact TI.i0 (by assumption) | exact TI.i4 (by assumption) | exact TI.i6 (by assumption) | exact TI.i7 (by assumption)) (fun c42 => ?_) (fun c42 => ?_)
    ·
      have e : i = N := by omega
      subst e -- go
      refine wp_iload_n (pc := 136) dX12_heir_136 rfl ?_
      refine wp_bipush (pc := 137) (y := (-2)) dX12_heir_137 (by decide) ?_
      refine wp_icmp_ne (pc := 139) 145 dX12_heir_139 (by decide) (by first | omega | exact TI.i5 (by assumption) | exact TI.i3 (by assumption) | exact TI.i2 (by assumption) | exact TI.i1 (by assumption) | exact TI.i0 (by assumption) | exact TI.i4 (by assumption) | exact TI.i6 (by assumption) | exact TI.i7 (by assumption)) (by first | omega | exact TI.i5 (by assumption) | exact TI.i3 (by assumption) | exact TI.i2 (by assumption) | exact TI.i1 (by assumption) | exact TI.i0 (by assumption) | exact TI.i4 (by assumption) | exact TI.i6 (by assumption) | exact TI.i7 (by assumption)) (fun c139 => ?_) (fun c139 => ?_)
      ·
        rw [if_neg c139, ey]
        have q3 := q1.2.2.2.2.2 c139 -- go
        refine wp_aload_n (pc := 145) dX12_heir_145 rfl ?_
        refine wm_get dX12_heir_146 gf_X12_9 K (by rfl) ?_
        refine wp_aload_n (pc := 149) dX12_heir_149 rfl ?_
        refine wm_get dX12_heir_150 gf_X12_39 K (by rfl) ?_
        refine wp_iconst (pc := 153) dX12_heir_153 ?_
        refine wp_Sn (pc := 154) dX12_heir_154 cl_X12_223 (sp_Ref_lay K rfl (by decide) rfl (by decide) (by decide) (by repeat (first | assumption | exact upA_eq | (apply upA_ne; first | decide | omega) | (apply SA_at; assumption; first | decide | (simp; omega)) | exact rfl))) rfl rfl (by decide) (Nat.le_of_ble_eq_true rfl) (fun hp154 e154 => ?_)
        obtain ⟨K, O1⟩ := e154
        replace O := SO.tr O O1
        refine wp_aload_n (pc := 157) dX12_heir_157 rfl ?_
        refine wp_aload_n (pc := 158) dX12_heir_158 rfl ?_
        refine wm_get dX12_heir_159 gf_X12_39 K (by rfl) ?_
        refine wp_iload_n (pc := 162) dX12_heir_162 rfl ?_
        refine wp_topE hn ?_
        refine wp_Vs (pc := 163) dX12_heir_163 cl_X12_250 (sp_Ref_goHours (n := n) K (by repeat (first | assumption | exact pv10 | exact pv11 | (apply pv_o; decide; decide) | exact upN_eq | (apply upN_ne; decide) | (apply SV_at; assumption; decide) | exact rfl)) hI hH (.inr rfl) (by repeat (first | assumption | exact upA_eq | (apply upA_ne; first | decide | omega) | (apply SA_at; assumption; first | decide | (simp; omega)) | exact rfl)) (RuA.cc hu (by repeat (first | assumption | exact pv10 | exact pv11 | (apply pv_o; decide; decide) | exact upN_eq | (apply upN_ne; decide) | (apply SV_at; assumption; decide) | exact rfl)) (by repeat (first | assumption | exact upA_eq | (apply upA_ne; first | decide | omega) | (apply SA_at; assumption; first | decide | (simp; omega)) | exact rfl)) (by repeat (first | assumption | exact upA_eq | (apply upA_ne; first | decide | omega) | (apply SA_at; assumption; first | decide | (simp; omega)) | exact rfl))) (by omega) (by omega)) rfl rfl K.1 (by rfl) (by decide) (Nat.le_of_ble_eq_true rfl) (fun hp163 e163 => ?_)
        obtain ⟨⟨V163, A163, rd163, K, sV163, sA163, hA163⟩, O1⟩ := e163; replace O := SO.tr O O1
        refine wp_pop (pc := 166) dX12_heir_166 rfl ?_
        refine wp_aload_n (pc := 167) dX12_heir_167 rfl ?_
        refine wp_iconst (pc := 168) dX12_heir_168 ?_
        refine wm_put dX12_heir_169 pf_X12_89 K O (by decide) mset_5 rfl rfl (fun hp K O => ?_)
        refine wp_aload_n (pc := 172) dX12_heir_172 rfl ?_
        refine wp_sipush (pc := 173) (y := 1000) dX12_heir_173 (by decide) ?_
        refine wp_iload (pc := 176) dX12_heir_176 rfl ?_
        refine wp_iadd (pc := 178) dX12_heir_178 ?_
        refine wp_i2l (pc := 179) dX12_heir_179 (by first | omega | exact TI.i5 (by assumption) | exact TI.i3 (by assumption) | exact TI.i2 (by assumption) | exact TI.i1 (by assumption) | exact TI.i0 (by assumption) | exact TI.i4 (by assumption) | exact TI.i6 (by assumption) | exact TI.i7 (by assumption)) ?_
        refine wp_Vn (pc := 180) dX12_heir_180 cl_X12_253 (sp_Ref_tellR K (by first | assumption | exact Mrw.z (by repeat (first | assumption | exact pv10 | exact pv11 | (apply pv_o; decide; decide) | exact upN_eq | (apply upN_ne; decide) | (apply SV_at; assumption; decide) | exact rfl))) (by first | decide | (simp; omega) | simp | omega)) rfl rfl K.1 (by rfl) (by decide) (Nat.le_of_ble_eq_true rfl) (fun hp180 e180 => ?_)
        obtain ⟨⟨V180, A180, K, sV180, sA180, hR180⟩, O1⟩ := e180; replace O := SO.tr O O1
        refine wp_aload_n (pc := 183) dX12_heir_183 rfl ?_
        refine wp_sipush (pc := 184) (y := 1000) dX12_heir_184 (by decide) ?_
        refine wp_aload_n (pc := 187) dX12_heir_187 rfl ?_
        refine wp_aload_n (pc := 188) dX12_heir_188 rfl ?_
        refine wm_get dX12_heir_189 gf_X12_39 K (by rfl) ?_
        refine wp_iload_n (pc := 192) dX12_heir_192 rfl ?_
        refine wp_Vp (pc := 193) dX12_heir_193 cl_X12_297 (sp_Ref_fortune (T := runT (stl rt) T i n) K (by repeat (first | assumption | exact pv10 | exact pv11 | (apply pv_o; decide; decide) | exact upN_eq | (apply upN_ne; decide) | (apply SV_at; assumption; decide) | exact rfl)) hI3 (.inr rfl) (by repeat (first | assumption | exact upA_eq | (apply upA_ne; first | decide | omega) | (apply SA_at; assumption; first | decide | (simp; omega)) | exact rfl)) (by omega)) rfl rfl K.1 (by rfl) (by decide) (Nat.le_of_ble_eq_true rfl) ?_
        refine wp_iadd (pc := 196) dX12_heir_196 ?_
        refine wp_i2l (pc := 197) dX12_heir_197 (by first | omega | exact TI.i5 (by assumption) | exact TI.i3 (by assumption) | exact TI.i2 (by assumption) | exact TI.i1 (by assumption) | exact TI.i0 (by assumption) | exact TI.i4 (by assumption) | exact TI.i6 (by assumption) | exact TI.i7 (by assumption)) ?_
        refine wp_Vn (pc := 198) dX12_heir_198 cl_X12_253 (sp_Ref_tellR K (by first | assumption | exact Mrw.z (by repeat (first | assumption | exact pv10 | exact pv11 | (apply pv_o; decide; decide) | exact upN_eq | (apply upN_ne; decide) | (apply SV_at; assumption; decide) | exact rfl))) (by first | decide | (simp; omega) | simp | omega)) rfl rfl K.1 (by rfl) (by decide) (Nat.le_of_ble_eq_true rfl) (fun hp198 e198 => ?_)
        obtain ⟨⟨V198, A198, K, sV198, sA198, hR198⟩, O1⟩ := e198; replace O := SO.tr O O1
        refine wp_iload_n (pc := 201) dX12_heir_201 rfl ?_
        exact wp_ir (pc := 202) dX12_heir_202 rfl (by decide) (by decide) (by first | rfl | omega) ⟨⟨_, _, _, K, (by repeat (first | assumption | exact pv10 | exact pv11 | (apply pv_o; decide; decide) | exact upN_eq | (apply upN_ne; decide) | (apply SV_at; assumption; decide) | exact rfl)), M.qu (by repeat (first | exact SV.rf | assumption | (apply SV.up1; decide) | (apply SV.tr2; assumption; decide))) (by repeat (first | exact SA.rf | assumption | (apply SA.up1; decide) | (apply SA.tr2; assumption; decide))) (by first | assumption | exact Mrw.z (by repeat (first | assumption | exact pv10 | exact pv11 | (apply pv_o; decide; decide) | exact upN_eq | (apply upN_ne; decide) | (apply SV_at; assumption; decide) | exact rfl)) | exact Mrw.tr (by assumption) (by repeat (first | assumption | exact pv10 | exact pv11 | (apply pv_o; decide; decide) | exact upN_eq | (apply upN_ne; decide) | (apply SV_at; assumption; decide) | exact rfl)) (by repeat (first | assumption | exact upA_eq | (apply upA_ne; first | decide | omega) | (apply SA_at; assumption; first | decide | (simp; omega)) | exact rfl)))⟩, O⟩
      ·
        rw [if_pos c139] -- go
        refine wp_bipush (pc := 142) (y := (-2)) dX12_heir_142 (by decide) ?_
        exact wp_ir (pc := 144) dX12_heir_144 rfl (by decide) (by decide) c139.symm ⟨⟨_, _, _, K, (by repeat (first | assumption | exact pv10 | exact pv11 | (apply pv_o; decide; decide) | exact upN_eq | (apply upN_ne; decide) | (apply SV_at; assumption; decide) | exact rfl)), M.qu (by repeat (first | exact SV.rf | assumption | (apply SV.up1; decide) | (apply SV.tr2; assumption; decide))) (by repeat (first | exact SA.rf | assumption | (apply SA.up1; decide) | (apply SA.tr2; assumption; decide))) (by first | assumption | exact Mrw.z (by repeat (first | assumption | exact pv10 | exact pv11 | (apply pv_o; decide; decide) | exact upN_eq | (apply upN_ne; decide) | (apply SV_at; assumption; decide) | exact rfl)) | exact Mrw.tr (by assumption) (by repeat (first | assumption | exact pv10 | exact pv11 | (apply pv_o; decide; decide) | exact upN_eq | (apply upN_ne; decide) | (apply SV_at; assumption; decide) | exact rfl)) (by repeat (first | assumption | exact upA_eq | (apply upA_ne; first | decide | omega) | (apply SA_at; assumption; first | decide | (simp; omega)) | exact rfl)))⟩, O⟩
    ·
      refine wp_iload (pc := 45) dX12_heir_45 rfl ?_
      refine wp_iload_n (pc := 47) dX12_heir_47 rfl ?_
      refine wp_icmp_eq (pc := 48) 130 dX12_heir_48 (by decide) (by first | omega | exact TI.i5 (by assumption) | exact TI.i3 (by assumption) | exact TI.i2 (by assumption) | exact TI.i1 (by assumption) | exact TI.i0 (by assumption) | exact TI.i4 (by assumption) | exact TI.i6 (by assumption) | exact TI.i7 (by assumption)) (by first | omega | exact TI.i5 (by assumption) | exact TI.i3 (by assumption) | exact TI.i2 (by assumption) | exact TI.i1 (by assumption) | exact TI.i0 (by assumption) | exact TI.i4 (by assumption) | exact TI.i6 (by assumption) | exact TI.i7 (by assumption)) (fun c48 => ?_) (fun c48 => ?_)
      ·
        have e1 : hrb (hrf (stl rt) T N x y) (hrP T x) (i + 1) = hrb (hrf (stl rt) T N x y) (hrP T x) i := if_neg (by simp; omega)
        skip -- go
        refine wp_iinc (pc := 130) dX12_heir_130 rfl (by decide) ?_
        refine wp_goto (pc := 133) 36 dX12_heir_133 (by decide) ?_
        refine wp_ls ?_ (ih (i + 1) (by omega) (by omega) _ _ _ _ K O (by repeat (first | assumption | exact pv10 | exact pv11 | (apply pv_o; decide; decide) | exact upN_eq | (apply upN_ne; decide) | (apply SV_at; assumption; decide) | exact rfl)) (by repeat (first | exact SV.rf | assumption | (apply SV.up1; decide) | (apply SV.tr2; assumption; decide))) (by repeat (first | exact SA.rf | assumption | (apply SA.up1; decide) | (apply SA.tr2; assumption; decide))) (by first | assumption | exact Mrw.z (by repeat (first | assumption | exact pv10 | exact pv11 | (apply pv_o; decide; decide) | exact upN_eq | (apply upN_ne; decide) | (apply SV_at; assumption; decide) | exact rfl)) | exact Mrw.tr (by assumption) (by repeat (first | assumption | exact pv10 | exact pv11 | (apply pv_o; decide; decide) | exact upN_eq | (apply upN_ne; decide) | (apply SV_at; assumption; decide) | exact rfl)) (by repeat (first | assumption | exact upA_eq | (apply upA_ne; first | decide | omega) | (apply SA_at; assumption; first | decide | (simp; omega)) | exact rfl))))
        rw [e1]
        repeat' (first | exact LE_0 | refine LE_s rfl ?_ | refine LE_s (I_c (by first | omega | (simp only [sm]; omega))) ?_ | refine LE_s (J_c (by first | omega | exact Int.pow_succ _ _ | exact (Int.pow_succ _ _).symm | exact (Int.pow_zero _).symm | (simp only [sm]; omega))) ?_ | refine LE_n ?_)
      ·
        refine wp_aload_n (pc := 51) dX12_heir_51 rfl ?_
        refine wm_get dX12_heir_52 gf_X12_9 K (by rfl) ?_
        refine wp_bipush (pc := 55) (y := 54) dX12_heir_55 (by decide) ?_
        refine wp_iload (pc := 57) dX12_heir_57 rfl ?_
        refine wp_iadd (pc := 59) dX12_heir_59 ?_
        refine wm_iald dX12_heir_60 K (by first | rfl | assumption) (by first | decide | omega) (by first | decide | omega) (by decide) (by omega) (by omega) (by repeat (first | assumption | exact upA_eq | (apply upA_ne; first | decide | omega) | (apply SA_at; assumption; first | decide | (simp; omega)) | exact rfl)) (by first | exact flat5 (by omega) (by omega) | exact flat3 (by omega) (by omega) | exact flat2 (by omega) (by omega) | exact flat6 (by omega) (by omega) | exact flat4 (by omega) (by omega) | exact flat1 (by omega) (by omega) | exact flat0 (by omega) (by omega) | exact flat7 | exact rfl) ?_
        refine wp_if_le (pc := 61) 67 dX12_heir_61 (by decide) (by first | omega | exact TI.i5 (by assumption) | exact TI.i3 (by assumption) | exact TI.i2 (by assumption) | exact TI.i1 (by assumption) | exact TI.i0 (by assumption) | exact TI.i4 (by assumption) | exact TI.i6 (by assumption) | exact TI.i7 (by assumption)) (fun c61 => ?_) (fun c61 => ?_)
        ·
          have eT : dieT T N (i : Int) y = up (up (up T 5 (i : Int) y) 4 (i : Int) (mi 99 (T 4 (i : Int) + 1))) 6 (i : Int) 0 := if_pos (by omega)
          have hI2 := dieT_I (p := (i : Int)) (n := y) hI
          have hH2 := dieT_HS (N := N) (x := (i : Int)) (y := y) hH
          have hI4 := runT_I (cs := stl rt) hI2 n (by rw [dieT_7]; omega)
          have ef : wor (runT (stl rt) (dieT T N (i : Int) y) N n) N x = hrf (stl rt) T N x y i := by unfold hrf; rw [ey]
          skip -- go
          refine wp_aload_n (pc := 67) dX12_heir_67 rfl ?_
          refine wm_get dX12_heir_68 gf_X12_9 K (by rfl) ?_
          refine wp_aload_n (pc := 71) dX12_heir_71 rfl ?_
          refine wm_get dX12_heir_72 gf_X12_39 K (by rfl) ?_
          refine wp_iconst (pc := 75) dX12_heir_75 ?_
          refine wp_Sn (pc := 76) dX12_heir_76 cl_X12_223 (sp_Ref_lay K rfl (by decide) rfl (by decide) (by decide) (by repeat (first | assumption | exact upA_eq | (apply upA_ne; first | decide | omega) | (apply SA_at; assumption; first | decide | (simp; omega)) | exact rfl))) rfl rfl (by decide) (Nat.le_of_ble_eq_true rfl) (fun hp76 e76 => ?_)
          obtain ⟨K, O1⟩ := e76
          replace O := SO.tr O O1
          refine wp_aload_n (pc := 79) dX12_heir_79 rfl ?_
          refine wm_get dX12_heir_80 gf_X12_39 K (by rfl) ?_
          refine wp_iload (pc := 83) dX12_heir_83 rfl ?_
          refine wp_iload_n (pc := 85) dX12_heir_85 rfl ?_
          refine wp_Sn (pc := 86) dX12_heir_86 cl_X12_263 (sp_Ref_goDeath K hI (.inr rfl) (by repeat (first | assumption | exact upA_eq | (apply upA_ne; first | decide | omega) | (apply SA_at; assumption; first | decide | (simp; omega)) | exact rfl)) (by omega)) rfl rfl (by decide) (Nat.le_of_ble_eq_true rfl) (fun hp86 e86 => ?_)
          obtain ⟨K, O1⟩ := e86
          replace O := SO.tr O O1
          rw [← eT] at K
          refine wp_aload_n (pc := 89) dX12_heir_89 rfl ?_
          refine wp_aload_n (pc := 90) dX12_heir_90 rfl ?_
          refine wm_get dX12_heir_91 gf_X12_39 K (by rfl) ?_
          refine wp_iload_n (pc := 94) dX12_heir_94 rfl ?_
          refine wp_topE hn ?_
          refine wp_Vs (pc := 95) dX12_heir_95 cl_X12_250 (sp_Ref_goHours (n := n) (T := dieT T N (i : Int) y) K (by repeat (first | assumption | exact pv10 | exact pv11 | (apply pv_o; decide; decide) | exact upN_eq | (apply upN_ne; decide) | (apply SV_at; assumption; decide) | exact rfl)) hI2 hH2 (.inr rfl) (by repeat (first | assumption | exact upA_eq | (apply upA_ne; first | decide | omega) | (apply SA_at; assumption; first | decide | (simp; omega)) | exact rfl)) (RuA.cc hu (by repeat (first | assumption | exact pv10 | exact pv11 | (apply pv_o; decide; decide) | exact upN_eq | (apply upN_ne; decide) | (apply SV_at; assumption; decide) | exact rfl)) (by repeat (first | assumption | exact upA_eq | (apply upA_ne; first | decide | omega) | (apply SA_at; assumption; first | decide | (simp; omega)) | exact rfl)) (by repeat (first | assumption | exact upA_eq | (apply upA_ne; first | decide | omega) | (apply SA_at; assumption; first | decide | (simp; omega)) | exact rfl))) (by rw [dieT_7]; omega) (by omega)) rfl rfl K.1 (by rfl) (by decide) (Nat.le_of_ble_eq_true rfl) (fun hp95 e95 => ?_)
          obtain ⟨⟨V95, A95, rd95, K, sV95, sA95, hA95⟩, O1⟩ := e95; replace O := SO.tr O O1
          refine wp_pop (pc := 98) dX12_heir_98 rfl ?_
          refine wp_aload_n (pc := 99) dX12_heir_99 rfl ?_
          refine wp_aload_n (pc := 100) dX12_heir_100 rfl ?_
          refine wm_get dX12_heir_101 gf_X12_39 K (by rfl) ?_
          refine wp_iload_n (pc := 104) dX12_heir_104 rfl ?_
          refine wp_Vp (pc := 105) dX12_heir_105 cl_X12_297 (sp_Ref_fortune (T := runT (stl rt) (dieT T N (i : Int) y) N n) K (by repeat (first | assumption | exact pv10 | exact pv11 | (apply pv_o; decide; decide) | exact upN_eq | (apply upN_ne; decide) | (apply SV_at; assumption; decide) | exact rfl)) hI4 (.inr rfl) (by repeat (first | assumption | exact upA_eq | (apply upA_ne; first | decide | omega) | (apply SA_at; assumption; first | decide | (simp; omega)) | exact rfl)) (by omega)) rfl rfl K.1 (by rfl) (by decide) (Nat.le_of_ble_eq_true rfl) ?_
          rw [ef]
          refine wp_iload (pc := 108) dX12_heir_108 rfl ?_
          refine wp_icmp_gt (pc := 110) 116 dX12_heir_110 (by decide) (by first | omega | exact TI.i5 (by assumption) | exact TI.i3 (by assumption) | exact TI.i2 (by assumption) | exact TI.i1 (by assumption) | exact TI.i0 (by assumption) | exact TI.i4 (by assumption) | exact TI.i6 (by assumption) | exact TI.i7 (by assumption)) (by first | omega | exact TI.i5 (by assumption) | exact TI.i3 (by assumption) | exact TI.i2 (by assumption) | exact TI.i1 (by assumption) | exact TI.i0 (by assumption) | exact TI.i4 (by assumption) | exact TI.i6 (by assumption) | exact TI.i7 (by assumption)) (fun c110 => ?_) (fun c110 => ?_)
          ·
            have e1 : hrb (hrf (stl rt) T N x y) (hrP T x) (i + 1) = ((i : Int), hrf (stl rt) T N x y i) := if_pos ⟨by simp; omega, by omega⟩
            skip -- go
            refine wp_iload (pc := 116) dX12_heir_116 rfl ?_
            refine wp_istore_n (pc := 118) dX12_heir_118 (by decide) ?_
            refine wp_aload_n (pc := 119) dX12_heir_119 rfl ?_
            refine wp_aload_n (pc := 120) dX12_heir_120 rfl ?_
            refine wm_get dX12_heir_121 gf_X12_39 K (by rfl) ?_
            refine wp_iload_n (pc := 124) dX12_heir_124 rfl ?_
            refine wp_Vp (pc := 125) dX12_heir_125 cl_X12_297 (sp_Ref_fortune (T := runT (stl rt) (dieT T N (i : Int) y) N n) K (by repeat (first | assumption | exact pv10 | exact pv11 | (apply pv_o; decide; decide) | exact upN_eq | (apply upN_ne; decide) | (apply SV_at; assumption; decide) | exact rfl)) hI4 (.inr rfl) (by repeat (first | assumption | exact upA_eq | (apply upA_ne; first | decide | omega) | (apply SA_at; assumption; first | decide | (simp; omega)) | exact rfl)) (by omega)) rfl rfl K.1 (by rfl) (by decide) (Nat.le_of_ble_eq_true rfl) ?_
            rw [ef]
            refine wp_istore (pc := 128) dX12_heir_128 (by decide) ?_
            refine wp_iinc (pc := 130) dX12_heir_130 rfl (by decide) ?_
            refine wp_goto (pc := 133) 36 dX12_heir_133 (by decide) ?_
            refine wp_ls ?_ (ih (i + 1) (by omega) (by omega) _ _ _ _ K O (by repeat (first | assumption | exact pv10 | exact pv11 | (apply pv_o; decide; decide) | exact upN_eq | (apply upN_ne; decide) | (apply SV_at; assumption; decide) | exact rfl)) (by repeat (first | exact SV.rf | assumption | (apply SV.up1; decide) | (apply SV.tr2; assumption; decide))) (by repeat (first | exact SA.rf | assumption | (apply SA.up1; decide) | (apply SA.tr2; assumption; decide))) (by first | assumption | exact Mrw.z (by repeat (first | assumption | exact pv10 | exact pv11 | (apply pv_o; decide; decide) | exact upN_eq | (apply upN_ne; decide) | (apply SV_at; assumption; decide) | exact rfl)) | exact Mrw.tr (by assumption) (by repeat (first | assumption | exact pv10 | exact pv11 | (apply pv_o; decide; decide) | exact upN_eq | (apply upN_ne; decide) | (apply SV_at; assumption; decide) | exact rfl)) (by repeat (first | assumption | exact upA_eq | (apply upA_ne; first | decide | omega) | (apply SA_at; assumption; first | decide | (simp; omega)) | exact rfl))))
            rw [e1]
            repeat' (first | exact LE_0 | refine LE_s rfl ?_ | refine LE_s (I_c (by first | omega | (simp only [sm]; omega))) ?_ | refine LE_s (J_c (by first | omega | exact Int.pow_succ _ _ | exact (Int.pow_succ _ _).symm | exact (Int.pow_zero _).symm | (simp only [sm]; omega))) ?_ | refine LE_n ?_)
          ·
            have e1 : hrb (hrf (stl rt) T N x y) (hrP T x) (i + 1) = hrb (hrf (stl rt) T N x y) (hrP T x) i := if_neg (fun z => by omega)
            skip -- go
            refine wp_goto (pc := 113) 130 dX12_heir_113 (by decide) ?_
            refine wp_iinc (pc := 130) dX12_heir_130 rfl (by decide) ?_
            refine wp_goto (pc := 133) 36 dX12_heir_133 (by decide) ?_
            refine wp_ls ?_ (ih (i + 1) (by omega) (by omega) _ _ _ _ K O (by repeat (first | assumption | exact pv10 | exact pv11 | (apply pv_o; decide; decide) | exact upN_eq | (apply upN_ne; decide) | (apply SV_at; assumption; decide) | exact rfl)) (by repeat (first | exact SV.rf | assumption | (apply SV.up1; decide) | (apply SV.tr2; assumption; decide))) (by repeat (first | exact SA.rf | assumption | (apply SA.up1; decide) | (apply SA.tr2; assumption; decide))) (by first | assumption | exact Mrw.z (by repeat (first | assumption | exact pv10 | exact pv11 | (apply pv_o; decide; decide) | exact upN_eq | (apply upN_ne; decide) | (apply SV_at; assumption; decide) | exact rfl)) | exact Mrw.tr (by assumption) (by repeat (first | assumption | exact pv10 | exact pv11 | (apply pv_o; decide; decide) | exact upN_eq | (apply upN_ne; decide) | (apply SV_at; assumption; decide) | exact rfl)) (by repeat (first | assumption | exact upA_eq | (apply upA_ne; first | decide | omega) | (apply SA_at; assumption; first | decide | (simp; omega)) | exact rfl))))
            rw [e1]
            repeat' (first | exact LE_0 | refine LE_s rfl ?_ | refine LE_s (I_c (by first | omega | (simp only [sm]; omega))) ?_ | refine LE_s (J_c (by first | omega | exact Int.pow_succ _ _ | exact (Int.pow_succ _ _).symm | exact (Int.pow_zero _).symm | (simp only [sm]; omega))) ?_ | refine LE_n ?_)
        ·
          have e1 : hrb (hrf (stl rt) T N x y) (hrP T x) (i + 1) = hrb (hrf (stl rt) T N x y) (hrP T x) i := if_neg (by simp; omega)
          skip -- go
          refine wp_goto (pc := 64) 130 dX12_heir_64 (by decide) ?_
          refine wp_iinc (pc := 130) dX12_heir_130 rfl (by decide) ?_
          refine wp_goto (pc := 133) 36 dX12_heir_133 (by decide) ?_
          refine wp_ls ?_ (ih (i + 1) (by omega) (by omega) _ _ _ _ K O (by repeat (first | assumption | exact pv10 | exact pv11 | (apply pv_o; decide; decide) | exact upN_eq | (apply upN_ne; decide) | (apply SV_at; assumption; decide) | exact rfl)) (by repeat (first | exact SV.rf | assumption | (apply SV.up1; decide) | (apply SV.tr2; assumption; decide))) (by repeat (first | exact SA.rf | assumption | (apply SA.up1; decide) | (apply SA.tr2; assumption; decide))) (by first | assumption | exact Mrw.z (by repeat (first | assumption | exact pv10 | exact pv11 | (apply pv_o; decide; decide) | exact upN_eq | (apply upN_ne; decide) | (apply SV_at; assumption; decide) | exact rfl)) | exact Mrw.tr (by assumption) (by repeat (first | assumption | exact pv10 | exact pv11 | (apply pv_o; decide; decide) | exact upN_eq | (apply upN_ne; decide) | (apply SV_at; assumption; decide) | exact rfl)) (by repeat (first | assumption | exact upA_eq | (apply upA_ne; first | decide | omega) | (apply SA_at; assumption; first | decide | (simp; omega)) | exact rfl))))
          rw [e1]
          repeat' (first | exact LE_0 | refine LE_s rfl ?_ | refine LE_s (I_c (by first | omega | (simp only [sm]; omega))) ?_ | refine LE_s (J_c (by first | omega | exact Int.pow_succ _ _ | exact (Int.pow_succ _ _).symm | exact (Int.pow_zero _).symm | (simp only [sm]; omega))) ?_ | refine LE_n ?_)
abbrev heO (N : Nat) (x y : Int) : Prop := 0 ≤ x ∧ x < N ∧ 1 ≤ y ∧ y ≤ 9
theorem sp_Ref_heir (hM : MAt hp q th N T U tx rw rt hs ss KT) (hI : TI T N) (hH : HS T) (hb : T 7 0 < 1900000000) (rx : InR x) (ry : InR y) : Sp g MX12_heir (rm 232 0 0) [.ref q, .int (I x), .int (I y)] hp (Eff (.int (I (if heO N x y then (hrb (hrf (stl rt) T N x y) (hrP T x) N).1 else -1))) (fun hp2 => MAt hp2 q 0 N T U tx (if heO N x y then (if (hrb (hrf (stl rt) T N x y) (hrP T x) N).1 = -2 then rw else [1000 + (hrb (hrf (stl rt) T N x y) (hrP T x) N).2, 1000 + wor (runT (stl rt) T N y.toNat) N x]) else rw) rt hs ss KT ∧ SO hp hp2 q (q + 25))) := by
  have hN := hI.men.2
  refine Sp_mk rfl (Nat.le_of_ble_eq_true rfl) ?_
  show wp g _ _ _ 0 0 0 [some (.ref q), some (.int (I x)), some (.int (I y)), none, none, none] [] hp
  have O := SO.rf (hp := hp) (lo := q) (hi := q + 25)
  obtain ⟨V, A, rd, K, hth, M⟩ := hM
  have hu := M.ru (q := q)
  have M2 := M
  obtain ⟨m1, mA, mt, mr, mu, mU, mh, ms, mk⟩ := M2
  refine wp_aload_n (pc := 0) dX12_heir_0 rfl ?_
  refine wp_iconst (pc := 1) dX12_heir_1 ?_
  refine wm_put dX12_heir_2 pf_X12_85 K O (by decide) mset_6 rfl rfl (fun hp K O => ?_)
  refine wp_aload_n (pc := 5) dX12_heir_5 rfl ?_
  refine wp_iload_n (pc := 6) dX12_heir_6 rfl ?_
  refine wp_Vp (pc := 7) dX12_heir_7 cl_X12_99 (sp_Ref_isMan (by first | assumption | omega | (repeat (first | assumption | exact pv10 | exact pv11 | (apply pv_o; decide; decide) | exact upN_eq | (apply upN_ne; decide) | (apply SV_at; assumption; decide) | exact upA_eq | (apply upA_ne; first | decide | omega) | (apply SA_at; assumption; first | decide | (simp; omega)) | exact rfl))) (by first | assumption | omega | (repeat (first | assumption | exact pv10 | exact pv11 | (apply pv_o; decide; decide) | exact upN_eq | (apply upN_ne; decide) | (apply SV_at; assumption; decide) | exact upA_eq | (apply upA_ne; first | decide | omega) | (apply SA_at; assumption; first | decide | (simp; omega)) | exact rfl))) (by first | assumption | omega | (repeat (first | assumption | exact pv10 | exact pv11 | (apply pv_o; decide; decide) | exact upN_eq | (apply upN_ne; decide) | (apply SV_at; assumption; decide) | exact upA_eq | (apply upA_ne; first | decide | omega) | (apply SA_at; assumption; first | decide | (simp; omega)) | exact rfl))) (by first | assumption | omega | (repeat (first | assumption | exact pv10 | exact pv11 | (apply pv_o; decide; decide) | exact upN_eq | (apply upN_ne; decide) | (apply SV_at; assumption; decide) | exact upA_eq | (apply upA_ne; first | decide | omega) | (apply SA_at; assumption; first | decide | (simp; omega)) | exact rfl)))) rfl rfl K.1 (by rfl) (by decide) (Nat.le_of_ble_eq_true rfl) ?_
  first | refine wp_ifb_eq (pc := 10) 23 dX12_heir_10 (by decide) (fun c10 => ?_) (fun c10 => ?_) | refine wp_if_eq (pc := 10) 23 dX12_heir_10 (by decide) (by first | omega | exact TI.i5 (by assumption) | exact TI.i3 (by assumption) | exact TI.i2 (by assumption) | exact TI.i1 (by assumption) | exact TI.i0 (by assumption) | exact TI.i4 (by assumption) | exact TI.i6 (by assumption) | exact TI.i7 (by assumption)) (fun c10 => ?_) (fun c10 => ?_)
  ·
    rw [if_neg (show ¬ heO N x y by omega), if_neg (show ¬ heO N x y by omega)] -- go
    refine wp_iconst (pc := 23) dX12_heir_23 ?_
    exact wp_ir (pc := 24) dX12_heir_24 rfl (by decide) (by decide) (by first | rfl | omega) ⟨⟨_, _, _, K, (by repeat (first | assumption | exact pv10 | exact pv11 | (apply pv_o; decide; decide) | exact upN_eq | (apply upN_ne; decide) | (apply SV_at; assumption; decide) | exact rfl)), M.qu (by repeat (first | exact SV.rf | assumption | (apply SV.up1; decide) | (apply SV.tr2; assumption; decide))) (by repeat (first | exact SA.rf | assumption | (apply SA.up1; decide) | (apply SA.tr2; assumption; decide))) (by first | assumption | exact Mrw.z (by repeat (first | assumption | exact pv10 | exact pv11 | (apply pv_o; decide; decide) | exact upN_eq | (apply upN_ne; decide) | (apply SV_at; assumption; decide) | exact rfl)) | exact Mrw.tr (by assumption) (by repeat (first | assumption | exact pv10 | exact pv11 | (apply pv_o; decide; decide) | exact upN_eq | (apply upN_ne; decide) | (apply SV_at; assumption; decide) | exact rfl)) (by repeat (first | assumption | exact upA_eq | (apply upA_ne; first | decide | omega) | (apply SA_at; assumption; first | decide | (simp; omega)) | exact rfl)))⟩, O⟩
  ·
    refine wp_iload_n (pc := 13) dX12_heir_13 rfl ?_
    refine wp_iconst (pc := 14) dX12_heir_14 ?_
    refine wp_bipush (pc := 15) (y := 9) dX12_heir_15 (by decide) ?_
    refine wp_Sp (pc := 17) dX12_heir_17 cl_X12_95 (sp_Ref_in (by first | assumption | omega | (repeat (first | assumption | exact pv10 | exact pv11 | (apply pv_o; decide; decide) | exact upN_eq | (apply upN_ne; decide) | (apply SV_at; assumption; decide) | exact upA_eq | (apply upA_ne; first | decide | omega) | (apply SA_at; assumption; first | decide | (simp; omega)) | exact rfl))) (by first | assumption | omega | (repeat (first | assumption | exact pv10 | exact pv11 | (apply pv_o; decide; decide) | exact upN_eq | (apply upN_ne; decide) | (apply SV_at; assumption; decide) | exact upA_eq | (apply upA_ne; first | decide | omega) | (apply SA_at; assumption; first | decide | (simp; omega)) | exact rfl))) (by first | assumption | omega | (repeat (first | assumption | exact pv10 | exact pv11 | (apply pv_o; decide; decide) | exact upN_eq | (apply upN_ne; decide) | (apply SV_at; assumption; decide) | exact upA_eq | (apply upA_ne; first | decide | omega) | (apply SA_at; assumption; first | decide | (simp; omega)) | exact rfl)))) rfl rfl (by decide) (Nat.le_of_ble_eq_true rfl) ?_
    first | refine wp_ifb_ne (pc := 20) 25 dX12_heir_20 (by decide) (fun c20 => ?_) (fun c20 => ?_) | refine wp_if_ne (pc := 20) 25 dX12_heir_20 (by decide) (by first | omega | exact TI.i5 (by assumption) | exact TI.i3 (by assumption) | exact TI.i2 (by assumption) | exact TI.i1 (by assumption) | exact TI.i0 (by assumption) | exact TI.i4 (by assumption) | exact TI.i6 (by assumption) | exact TI.i7 (by assumption)) (fun c20 => ?_) (fun c20 => ?_)
    ·
      rw [if_pos (show heO N x y by omega), if_pos (show heO N x y by omega)] -- go
      refine wp_bipush (pc := 25) (y := (-2)) dX12_heir_25 (by decide) ?_
      refine wp_istore_n (pc := 27) dX12_heir_27 (by decide) ?_
      refine wp_ldcw (pc := 28) dX12_heir_28 kc_X12_296 ?_
      refine wp_istore (pc := 31) dX12_heir_31 (by decide) ?_
      refine wp_iconst (pc := 33) dX12_heir_33 ?_
      refine wp_istore (pc := 34) dX12_heir_34 (by decide) ?_
      refine wp_ls ?_ (lp_Ref_heir hI hH hb M c10 c20 (N + 1) 0 (by omega) (by omega) _ _ _ _ K O (by repeat (first | assumption | exact pv10 | exact pv11 | (apply pv_o; decide; decide) | exact upN_eq | (apply upN_ne; decide) | (apply SV_at; assumption; decide) | exact rfl)) (by repeat (first | exact SV.rf | assumption | (apply SV.up1; decide) | (apply SV.tr2; assumption; decide))) (by repeat (first | exact SA.rf | assumption | (apply SA.up1; decide) | (apply SA.tr2; assumption; decide))) (by first | assumption | exact Mrw.z (by repeat (first | assumption | exact pv10 | exact pv11 | (apply pv_o; decide; decide) | exact upN_eq | (apply upN_ne; decide) | (apply SV_at; assumption; decide) | exact rfl)) | exact Mrw.tr (by assumption) (by repeat (first | assumption | exact pv10 | exact pv11 | (apply pv_o; decide; decide) | exact upN_eq | (apply upN_ne; decide) | (apply SV_at; assumption; decide) | exact rfl)) (by repeat (first | assumption | exact upA_eq | (apply upA_ne; first | decide | omega) | (apply SA_at; assumption; first | decide | (simp; omega)) | exact rfl))))
      repeat' (first | exact LE_0 | refine LE_s rfl ?_ | refine LE_s (I_c (by first | omega | (simp only [sm]; omega))) ?_ | refine LE_s (J_c (by first | omega | exact Int.pow_succ _ _ | exact (Int.pow_succ _ _).symm | exact (Int.pow_zero _).symm | (simp only [sm]; omega))) ?_ | refine LE_n ?_)
    ·
      rw [if_neg (show ¬ heO N x y by omega), if_neg (show ¬ heO N x y by omega)] -- go
      refine wp_iconst (pc := 23) dX12_heir_23 ?_
      exact wp_ir (pc := 24) dX12_heir_24 rfl (by decide) (by decide) (by first | rfl | omega) ⟨⟨_, _, _, K, (by repeat (first | assumption | exact pv10 | exact pv11 | (apply pv_o; decide; decide) | exact upN_eq | (apply upN_ne; decide) | (apply SV_at; assumption; decide) | exact rfl)), M.qu (by repeat (first | exact SV.rf | assumption | (apply SV.up1; decide) | (apply SV.tr2; assumption; decide))) (by repeat (first | exact SA.rf | assumption | (apply SA.up1; decide) | (apply SA.tr2; assumption; decide))) (by first | assumption | exact Mrw.z (by repeat (first | assumption | exact pv10 | exact pv11 | (apply pv_o; decide; decide) | exact upN_eq | (apply upN_ne; decide) | (apply SV_at; assumption; decide) | exact rfl)) | exact Mrw.tr (by assumption) (by repeat (first | assumption | exact pv10 | exact pv11 | (apply pv_o; decide; decide) | exact upN_eq | (apply upN_ne; decide) | (apply SV_at; assumption; decide) | exact rfl)) (by repeat (first | assumption | exact upA_eq | (apply upA_ne; first | decide | omega) | (apply SA_at; assumption; first | decide | (simp; omega)) | exact rfl)))⟩, O⟩
end MM_

