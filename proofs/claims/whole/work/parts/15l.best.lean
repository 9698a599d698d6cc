/-! the reference: best of many -/
section ML_
variable {g : GT} {hp hp0 : Hp} {q N n a b s k p D : Nat} {V V2 V3 : Nat → Int} {A A2 A3 : Nat → Int → Int} {rd rl : Value} {i j x v c y z w th : Int} {T T2 : Nat → Int → Int} {l t cs tx rw rw2 rt : List Int} {W G f : Int → Int} {U U2 : List (Nat → Int → Int)} {hs : List (Int × Int)} {ss : List (Int × Int × Int)} {KT : Nat → Option (Nat → Int → Int)} {L L2 : List Nat}
/-- the first greatest, the first least of 0 .. n -/
def mxi (f : Int → Int) : Nat → Nat
  | 0 => 0
  | n + 1 => if f (mxi f n) < f ((n + 1 : Nat) : Int) then n + 1 else mxi f n
def mni (f : Int → Int) : Nat → Nat
  | 0 => 0
  | n + 1 => if f ((n + 1 : Nat) : Int) < f (mni f n) then n + 1 else mni f n
theorem mxi_le (f : Int → Int) : ∀ n, mxi f n ≤ n
  | 0 => Nat.le_refl _
  | n + 1 => by have := mxi_le f n; unfold mxi; split <;> omega
theorem mni_le (f : Int → Int) : ∀ n, mni f n ≤ n
  | 0 => Nat.le_refl _
  | n + 1 => by have := mni_le f n; unfold mni; split <;> omega
theorem lp_Ref_most (hI : TI T2 N) (M : MX V A N T U tx rw rt hs ss KT) (h0 : 1 ≤ N) (K : ModAt hp q V2 A2 rd (.ref (q + 5))) (O : SO hp0 hp q (q + 25)) (h6 : V2 6 = 0) (sV : SV qV V V2) (sA : SA qA A A2) (hA2 : A2 10 = flat T2) : ∀ (m i : Nat), (N - 1) < i + m → i ≤ (N - 1) → wp g MX12_most (rm 232 0 0) (Eff (.int (I ((mxi (T2 3) (N - 1) : Nat) : Int))) (fun hp3 => MAt hp3 q 0 N T U tx [T2 3 (mxi (T2 3) (N - 1) : Nat), ((mni (T2 3) (N - 1) : Nat) : Int)] rt hs ss KT ∧ SO hp0 hp3 q (q + 25))) 0 0 56 [some (.ref q), none, some (.int (I ((mxi (T2 3) i : Nat) : Int))), some (.int (I ((mni (T2 3) i : Nat) : Int))), some (.int (I ((i + 1 : Nat) : Int)))] [] hp := by
  intro m
  induction m with
  | zero => intro i h1 h2; exact absurd h1 (by omega)
  | succ m ih =>
    intro i h1 h2
    have hN := hI.men.2
    have m1 := M.1
    have q1 := mxi_le (T2 3) i
    have q2 := mni_le (T2 3) i
    refine wp_iload (pc := 56) dX12_most_56 rfl ?_
    refine wp_aload_n (pc := 58) dX12_most_58 rfl ?_
    refine wm_gets dX12_most_59 gf_X12_92 K (by rfl) (by repeat (first | assumption | exact pv10 | exact pv11 | (apply pv_o; decide; decide) | exact upN_eq | (apply upN_ne; decide) | (apply SV_at; assumption; decide) | exact rfl)) ?_
    refine wp_icmp_ge (pc := 62) 129 dX12_most_62 (by decide) (by first | omega | exact TI.i5 (by assumption) | exact TI.i3 (by assumption) | exact TI.i2 (by assumption) | exact TI.i1 (by assumption) | exact TI.i0 (by assumption) | exact TI.i4 (by assumption) | exact TI.i6 (by assumption) | exact TI.i7 (by assumption)) (by first | omega | exact TI.i5 (by assumption) | exact TI.i3 (by assumption) | exact TI.i2 (by assumption) | exact TI.i1 (by assumption) | exact TI.i0 (by assumption) | exact TI.i4 (by assumption) | exact TI.i6 (by assumption) | exact TI.i7 (by assumption)) (fun c62 => ?_) (fun c62 => ?_)
    ·
      have e : i = N - 1 := by omega
      subst e -- go
      refine wp_aload_n (pc := 129) dX12_most_129 rfl ?_
      refine wp_iconst (pc := 130) dX12_most_130 ?_
      refine wm_put dX12_most_131 pf_X12_89 K O (by decide) mset_5 rfl rfl (fun hp K O => ?_)
      refine wp_aload_n (pc := 134) dX12_most_134 rfl ?_
      refine wp_aload_n (pc := 135) dX12_most_135 rfl ?_
      refine wm_get dX12_most_136 gf_X12_39 K (by rfl) ?_
      refine wp_bipush (pc := 139) (y := 42) dX12_most_139 (by decide) ?_
      refine wp_iload_n (pc := 141) dX12_most_141 rfl ?_
      refine wp_iadd (pc := 142) dX12_most_142 ?_
      refine wm_iald dX12_most_143 K (by first | rfl | assumption) (by first | decide | omega) (by first | decide | omega) (by decide) (by omega) (by omega) (by repeat (first | assumption | exact upA_eq | (apply upA_ne; first | decide | omega) | (apply SA_at; assumption; first | decide | (simp; omega)) | exact rfl)) (by first | exact flat5 (by omega) (by omega) | exact flat3 (by omega) (by omega) | exact flat2 (by omega) (by omega) | exact flat6 (by omega) (by omega) | exact flat4 (by omega) (by omega) | exact flat1 (by omega) (by omega) | exact flat0 (by omega) (by omega) | exact flat7 | exact rfl) ?_
      refine wp_i2l (pc := 144) dX12_most_144 (by first | omega | exact TI.i5 (by assumption) | exact TI.i3 (by assumption) | exact TI.i2 (by assumption) | exact TI.i1 (by assumption) | exact TI.i0 (by assumption) | exact TI.i4 (by assumption) | exact TI.i6 (by assumption) | exact TI.i7 (by assumption)) ?_
      refine wp_Vn (pc := 145) dX12_most_145 cl_X12_253 (sp_Ref_tellR K (by first | assumption | exact Mrw.z (by repeat (first | assumption | exact pv10 | exact pv11 | (apply pv_o; decide; decide) | exact upN_eq | (apply upN_ne; decide) | (apply SV_at; assumption; decide) | exact rfl))) (by first | decide | (simp; omega) | simp | omega)) rfl rfl K.1 (by rfl) (by decide) (Nat.le_of_ble_eq_true rfl) (fun hp145 e145 => ?_)
      obtain ⟨⟨V145, A145, K, sV145, sA145, hR145⟩, O1⟩ := e145; replace O := SO.tr O O1
      refine wp_aload_n (pc := 148) dX12_most_148 rfl ?_
      refine wp_iload_n (pc := 149) dX12_most_149 rfl ?_
      refine wp_i2l (pc := 150) dX12_most_150 (by first | omega | exact TI.i5 (by assumption) | exact TI.i3 (by assumption) | exact TI.i2 (by assumption) | exact TI.i1 (by assumption) | exact TI.i0 (by assumption) | exact TI.i4 (by assumption) | exact TI.i6 (by assumption) | exact TI.i7 (by assumption)) ?_
      refine wp_Vn (pc := 151) dX12_most_151 cl_X12_253 (sp_Ref_tellR K (by first | assumption | exact Mrw.z (by repeat (first | assumption | exact pv10 | exact pv11 | (apply pv_o; decide; decide) | exact upN_eq | (apply upN_ne; decide) | (apply SV_at; assumption; decide) | exact rfl))) (by first | decide | (simp; omega) | simp | omega)) rfl rfl K.1 (by rfl) (by decide) (Nat.le_of_ble_eq_true rfl) (fun hp151 e151 => ?_)
      obtain ⟨⟨V151, A151, K, sV151, sA151, hR151⟩, O1⟩ := e151; replace O := SO.tr O O1
      refine wp_iload_n (pc := 154) dX12_most_154 rfl ?_
      exact wp_ir (pc := 155) dX12_most_155 rfl (by decide) (by decide) (by first | rfl | omega) ⟨⟨_, _, _, K, (by repeat (first | assumption | exact pv10 | exact pv11 | (apply pv_o; decide; decide) | exact upN_eq | (apply upN_ne; decide) | (apply SV_at; assumption; decide) | exact rfl)), M.qu (by repeat (first | exact SV.rf | assumption | (apply SV.up1; decide) | (apply SV.tr2; assumption; decide))) (by repeat (first | exact SA.rf | assumption | (apply SA.up1; decide) | (apply SA.tr2; assumption; decide))) (by first | assumption | exact Mrw.z (by repeat (first | assumption | exact pv10 | exact pv11 | (apply pv_o; decide; decide) | exact upN_eq | (apply upN_ne; decide) | (apply SV_at; assumption; decide) | exact rfl)) | exact Mrw.tr (by assumption) (by repeat (first | assumption | exact pv10 | exact pv11 | (apply pv_o; decide; decide) | exact upN_eq | (apply upN_ne; decide) | (apply SV_at; assumption; decide) | exact rfl)) (by repeat (first | assumption | exact upA_eq | (apply upA_ne; first | decide | omega) | (apply SA_at; assumption; first | decide | (simp; omega)) | exact rfl)))⟩, O⟩
    ·
      refine wp_aload_n (pc := 65) dX12_most_65 rfl ?_
      refine wm_get dX12_most_66 gf_X12_39 K (by rfl) ?_
      refine wp_bipush (pc := 69) (y := 42) dX12_most_69 (by decide) ?_
      refine wp_iload (pc := 71) dX12_most_71 rfl ?_
      refine wp_iadd (pc := 73) dX12_most_73 ?_
      refine wm_iald dX12_most_74 K (by first | rfl | assumption) (by first | decide | omega) (by first | decide | omega) (by decide) (by omega) (by omega) (by repeat (first | assumption | exact upA_eq | (apply upA_ne; first | decide | omega) | (apply SA_at; assumption; first | decide | (simp; omega)) | exact rfl)) (by first | exact flat5 (by omega) (by omega) | exact flat3 (by omega) (by omega) | exact flat2 (by omega) (by omega) | exact flat6 (by omega) (by omega) | exact flat4 (by omega) (by omega) | exact flat1 (by omega) (by omega) | exact flat0 (by omega) (by omega) | exact flat7 | exact rfl) ?_
      refine wp_aload_n (pc := 75) dX12_most_75 rfl ?_
      refine wm_get dX12_most_76 gf_X12_39 K (by rfl) ?_
      refine wp_bipush (pc := 79) (y := 42) dX12_most_79 (by decide) ?_
      refine wp_iload_n (pc := 81) dX12_most_81 rfl ?_
      refine wp_iadd (pc := 82) dX12_most_82 ?_
      refine wm_iald dX12_most_83 K (by first | rfl | assumption) (by first | decide | omega) (by first | decide | omega) (by decide) (by omega) (by omega) (by repeat (first | assumption | exact upA_eq | (apply upA_ne; first | decide | omega) | (apply SA_at; assumption; first | decide | (simp; omega)) | exact rfl)) (by first | exact flat5 (by omega) (by omega) | exact flat3 (by omega) (by omega) | exact flat2 (by omega) (by omega) | exact flat6 (by omega) (by omega) | exact flat4 (by omega) (by omega) | exact flat1 (by omega) (by omega) | exact flat0 (by omega) (by omega) | exact flat7 | exact rfl) ?_
      refine wp_icmp_le (pc := 84) 92 dX12_most_84 (by decide) (by first | omega | exact TI.i5 (by assumption) | exact TI.i3 (by assumption) | exact TI.i2 (by assumption) | exact TI.i1 (by assumption) | exact TI.i0 (by assumption) | exact TI.i4 (by assumption) | exact TI.i6 (by assumption) | exact TI.i7 (by assumption)) (by first | omega | exact TI.i5 (by assumption) | exact TI.i3 (by assumption) | exact TI.i2 (by assumption) | exact TI.i1 (by assumption) | exact TI.i0 (by assumption) | exact TI.i4 (by assumption) | exact TI.i6 (by assumption) | exact TI.i7 (by assumption)) (fun c84 => ?_) (fun c84 => ?_)
      ·
        have e1 : mxi (T2 3) (i + 1) = mxi (T2 3) i := if_neg (by omega)
        skip -- go
        refine wp_iload_n (pc := 92) dX12_most_92 rfl ?_
        refine wp_istore_n (pc := 93) dX12_most_93 (by decide) ?_
        refine wp_aload_n (pc := 94) dX12_most_94 rfl ?_
        refine wm_get dX12_most_95 gf_X12_39 K (by rfl) ?_
        refine wp_bipush (pc := 98) (y := 42) dX12_most_98 (by decide) ?_
        refine wp_iload (pc := 100) dX12_most_100 rfl ?_
        refine wp_iadd (pc := 102) dX12_most_102 ?_
        refine wm_iald dX12_most_103 K (by first | rfl | assumption) (by first | decide | omega) (by first | decide | omega) (by decide) (by omega) (by omega) (by repeat (first | assumption | exact upA_eq | (apply upA_ne; first | decide | omega) | (apply SA_at; assumption; first | decide | (simp; omega)) | exact rfl)) (by first | exact flat5 (by omega) (by omega) | exact flat3 (by omega) (by omega) | exact flat2 (by omega) (by omega) | exact flat6 (by omega) (by omega) | exact flat4 (by omega) (by omega) | exact flat1 (by omega) (by omega) | exact flat0 (by omega) (by omega) | exact flat7 | exact rfl) ?_
        refine wp_aload_n (pc := 104) dX12_most_104 rfl ?_
        refine wm_get dX12_most_105 gf_X12_39 K (by rfl) ?_
        refine wp_bipush (pc := 108) (y := 42) dX12_most_108 (by decide) ?_
        refine wp_iload_n (pc := 110) dX12_most_110 rfl ?_
        refine wp_iadd (pc := 111) dX12_most_111 ?_
        refine wm_iald dX12_most_112 K (by first | rfl | assumption) (by first | decide | omega) (by first | decide | omega) (by decide) (by omega) (by omega) (by repeat (first | assumption | exact upA_eq | (apply upA_ne; first | decide | omega) | (apply SA_at; assumption; first | decide | (simp; omega)) | exact rfl)) (by first | exact flat5 (by omega) (by omega) | exact flat3 (by omega) (by omega) | exact flat2 (by omega) (by omega) | exact flat6 (by omega) (by omega) | exact flat4 (by omega) (by omega) | exact flat1 (by omega) (by omega) | exact flat0 (by omega) (by omega) | exact flat7 | exact rfl) ?_
        refine wp_icmp_ge (pc := 113) 121 dX12_most_113 (by decide) (by first | omega | exact TI.i5 (by assumption) | exact TI.i3 (by assumption) | exact TI.i2 (by assumption) | exact TI.i1 (by assumption) | exact TI.i0 (by assumption) | exact TI.i4 (by assumption) | exact TI.i6 (by assumption) | exact TI.i7 (by assumption)) (by first | omega | exact TI.i5 (by assumption) | exact TI.i3 (by assumption) | exact TI.i2 (by assumption) | exact TI.i1 (by assumption) | exact TI.i0 (by assumption) | exact TI.i4 (by assumption) | exact TI.i6 (by assumption) | exact TI.i7 (by assumption)) (fun c113 => ?_) (fun c113 => ?_)
        ·
          have e2 : mni (T2 3) (i + 1) = mni (T2 3) i := if_neg (by omega)
          skip -- go
          refine wp_iload_n (pc := 121) dX12_most_121 rfl ?_
          refine wp_istore_n (pc := 122) dX12_most_122 (by decide) ?_
          refine wp_iinc (pc := 123) dX12_most_123 rfl (by decide) ?_
          refine wp_goto (pc := 126) 56 dX12_most_126 (by decide) ?_
          refine wp_ls ?_ (ih (i + 1) (by omega) (by omega))
          rw [e1, e2]
          repeat' (first | exact LE_0 | refine LE_s rfl ?_ | refine LE_s (I_c (by first | omega | (simp only [sm]; omega))) ?_ | refine LE_s (J_c (by first | omega | exact Int.pow_succ _ _ | exact (Int.pow_succ _ _).symm | exact (Int.pow_zero _).symm | (simp only [sm]; omega))) ?_ | refine LE_n ?_)
        ·
          have e2 : mni (T2 3) (i + 1) = i + 1 := if_pos (by omega)
          skip -- go
          refine wp_iload (pc := 116) dX12_most_116 rfl ?_
          refine wp_goto (pc := 118) 122 dX12_most_118 (by decide) ?_
          refine wp_istore_n (pc := 122) dX12_most_122 (by decide) ?_
          refine wp_iinc (pc := 123) dX12_most_123 rfl (by decide) ?_
          refine wp_goto (pc := 126) 56 dX12_most_126 (by decide) ?_
          refine wp_ls ?_ (ih (i + 1) (by omega) (by omega))
          rw [e1, e2]
          repeat' (first | exact LE_0 | refine LE_s rfl ?_ | refine LE_s (I_c (by first | omega | (simp only [sm]; omega))) ?_ | refine LE_s (J_c (by first | omega | exact Int.pow_succ _ _ | exact (Int.pow_succ _ _).symm | exact (Int.pow_zero _).symm | (simp only [sm]; omega))) ?_ | refine LE_n ?_)
      ·
        have e1 : mxi (T2 3) (i + 1) = i + 1 := if_pos (by omega)
        skip -- go
        refine wp_iload (pc := 87) dX12_most_87 rfl ?_
        refine wp_goto (pc := 89) 93 dX12_most_89 (by decide) ?_
        refine wp_istore_n (pc := 93) dX12_most_93 (by decide) ?_
        refine wp_aload_n (pc := 94) dX12_most_94 rfl ?_
        refine wm_get dX12_most_95 gf_X12_39 K (by rfl) ?_
        refine wp_bipush (pc := 98) (y := 42) dX12_most_98 (by decide) ?_
        refine wp_iload (pc := 100) dX12_most_100 rfl ?_
        refine wp_iadd (pc := 102) dX12_most_102 ?_
        refine wm_iald dX12_most_103 K (by first | rfl | assumption) (by first | decide | omega) (by first | decide | omega) (by decide) (by omega) (by omega) (by repeat (first | assumption | exact upA_eq | (apply upA_ne; first | decide | omega) | (apply SA_at; assumption; first | decide | (simp; omega)) | exact rfl)) (by first | exact flat5 (by omega) (by omega) | exact flat3 (by omega) (by omega) | exact flat2 (by omega) (by omega) | exact flat6 (by omega) (by omega) | exact flat4 (by omega) (by omega) | exact flat1 (by omega) (by omega) | exact flat0 (by omega) (by omega) | exact flat7 | exact rfl) ?_
        refine wp_aload_n (pc := 104) dX12_most_104 rfl ?_
        refine wm_get dX12_most_105 gf_X12_39 K (by rfl) ?_
        refine wp_bipush (pc := 108) (y := 42) dX12_most_108 (by decide) ?_
        refine wp_iload_n (pc := 110) dX12_most_110 rfl ?_
        refine wp_iadd (pc := 111) dX12_most_111 ?_
        refine wm_iald dX12_most_112 K (by first | rfl | assumption) (by first | decide | omega) (by first | decide | omega) (by decide) (by omega) (by omega) (by repeat (first | assumption | exact upA_eq | (apply upA_ne; first | decide | omega) | (apply SA_at; assumption; first | decide | (simp; omega)) | exact rfl)) (by first | exact flat5 (by omega) (by omega) | exact flat3 (by omega) (by omega) | exact flat2 (by omega) (by omega) | exact flat6 (by omega) (by omega) | exact flat4 (by omega) (by omega) | exact flat1 (by omega) (by omega) | exact flat0 (by omega) (by omega) | exact flat7 | exact rfl) ?_
        refine wp_icmp_ge (pc := 113) 121 dX12_most_113 (by decide) (by first | omega | exact TI.i5 (by assumption) | exact TI.i3 (by assumption) | exact TI.i2 (by assumption) | exact TI.i1 (by assumption) | exact TI.i0 (by assumption) | exact TI.i4 (by assumption) | exact TI.i6 (by assumption) | exact TI.i7 (by assumption)) (by first | omega | exact TI.i5 (by assumption) | exact TI.i3 (by assumption) | exact TI.i2 (by assumption) | exact TI.i1 (by assumption) | exact TI.i0 (by assumption) | exact TI.i4 (by assumption) | exact TI.i6 (by assumption) | exact TI.i7 (by assumption)) (fun c113 => ?_) (fun c113 => ?_)
        ·
          have e2 : mni (T2 3) (i + 1) = mni (T2 3) i := if_neg (by omega)
          skip -- go
          refine wp_iload_n (pc := 121) dX12_most_121 rfl ?_
          refine wp_istore_n (pc := 122) dX12_most_122 (by decide) ?_
          refine wp_iinc (pc := 123) dX12_most_123 rfl (by decide) ?_
          refine wp_goto (pc := 126) 56 dX12_most_126 (by decide) ?_
          refine wp_ls ?_ (ih (i + 1) (by omega) (by omega))
          rw [e1, e2]
          repeat' (first | exact LE_0 | refine LE_s rfl ?_ | refine LE_s (I_c (by first | omega | (simp only [sm]; omega))) ?_ | refine LE_s (J_c (by first | omega | exact Int.pow_succ _ _ | exact (Int.pow_succ _ _).symm | exact (Int.pow_zero _).symm | (simp only [sm]; omega))) ?_ | refine LE_n ?_)
        ·
          have e2 : mni (T2 3) (i + 1) = i + 1 := if_pos (by omega)
          skip -- go
          refine wp_iload (pc := 116) dX12_most_116 rfl ?_
          refine wp_goto (pc := 118) 122 dX12_most_118 (by decide) ?_
          refine wp_istore_n (pc := 122) dX12_most_122 (by decide) ?_
          refine wp_iinc (pc := 123) dX12_most_123 rfl (by decide) ?_
          refine wp_goto (pc := 126) 56 dX12_most_126 (by decide) ?_
          refine wp_ls ?_ (ih (i + 1) (by omega) (by omega))
          rw [e1, e2]
          repeat' (first | exact LE_0 | refine LE_s rfl ?_ | refine LE_s (I_c (by first | omega | (simp only [sm]; omega))) ?_ | refine LE_s (J_c (by first | omega | exact Int.pow_succ _ _ | exact (Int.pow_succ _ _).symm | exact (Int.pow_zero _).symm | (simp only [sm]; omega))) ?_ | refine LE_n ?_)
theorem sp_Ref_most (hM : MAt hp q th N T U tx rw rt hs ss KT) (hI : TI T N) (hH : HS T) (hb : T 7 0 < 1900000000) (ry : InR y) : Sp g MX12_most (rm 232 0 0) [.ref q, .int (I y)] hp (Eff (.int (I (if 0 ≤ y ∧ y ≤ 99 then (if N = 0 then -2 else ((mxi (runT (stl rt) T N y.toNat 3) (N - 1) : Nat) : Int)) else -1))) (fun hp2 => MAt hp2 q 0 N T U tx (if (0 ≤ y ∧ y ≤ 99) ∧ ¬ N = 0 then [runT (stl rt) T N y.toNat 3 (mxi (runT (stl rt) T N y.toNat 3) (N - 1) : Nat), ((mni (runT (stl rt) T N y.toNat 3) (N - 1) : Nat) : Int)] else rw) rt hs ss KT ∧ SO hp hp2 q (q + 25))) := by
  have hN := hI.men.2
  refine Sp_mk rfl (Nat.le_of_ble_eq_true rfl) ?_
  show wp g _ _ _ 0 0 0 [some (.ref q), some (.int (I y)), none, none, none] [] hp
  have O := SO.rf (hp := hp) (lo := q) (hi := q + 25)
  obtain ⟨V, A, rd, K, hth, M⟩ := hM
  have hu := M.ru (q := q)
  have M2 := M
  obtain ⟨m1, mA, mt, mr, mu, mU, mh, ms, mk⟩ := M2
  refine wp_aload_n (pc := 0) dX12_most_0 rfl ?_
  refine wp_iconst (pc := 1) dX12_most_1 ?_
  refine wm_put dX12_most_2 pf_X12_85 K O (by decide) mset_6 rfl rfl (fun hp K O => ?_)
  refine wp_iload_n (pc := 5) dX12_most_5 rfl ?_
  refine wp_iconst (pc := 6) dX12_most_6 ?_
  refine wp_bipush (pc := 7) (y := 99) dX12_most_7 (by decide) ?_
  refine wp_Sp (pc := 9) dX12_most_9 cl_X12_95 (sp_Ref_in (by first | assumption | omega | (repeat (first | assumption | exact pv10 | exact pv11 | (apply pv_o; decide; decide) | exact upN_eq | (apply upN_ne; decide) | (apply SV_at; assumption; decide) | exact upA_eq | (apply upA_ne; first | decide | omega) | (apply SA_at; assumption; first | decide | (simp; omega)) | exact rfl))) (by first | assumption | omega | (repeat (first | assumption | exact pv10 | exact pv11 | (apply pv_o; decide; decide) | exact upN_eq | (apply upN_ne; decide) | (apply SV_at; assumption; decide) | exact upA_eq | (apply upA_ne; first | decide | omega) | (apply SA_at; assumption; first | decide | (simp; omega)) | exact rfl))) (by first | assumption | omega | (repeat (first | assumption | exact pv10 | exact pv11 | (apply pv_o; decide; decide) | exact upN_eq | (apply upN_ne; decide) | (apply SV_at; assumption; decide) | exact upA_eq | (apply upA_ne; first | decide | omega) | (apply SA_at; assumption; first | decide | (simp; omega)) | exact rfl)))) rfl rfl (by decide) (Nat.le_of_ble_eq_true rfl) ?_
  first | refine wp_ifb_ne (pc := 12) 17 dX12_most_12 (by decide) (fun c12 => ?_) (fun c12 => ?_) | refine wp_if_ne (pc := 12) 17 dX12_most_12 (by decide) (by first | omega | exact TI.i5 (by assumption) | exact TI.i3 (by assumption) | exact TI.i2 (by assumption) | exact TI.i1 (by assumption) | exact TI.i0 (by assumption) | exact TI.i4 (by assumption) | exact TI.i6 (by assumption) | exact TI.i7 (by assumption)) (fun c12 => ?_) (fun c12 => ?_)
  ·
    rw [if_pos c12]
    obtain ⟨n, rfl⟩ := Int.eq_ofNat_of_zero_le c12.1
    have hI2 := runT_I (cs := stl rt) hI n (by omega)
    rw [Int.toNat_natCast] -- go
    refine wp_aload_n (pc := 17) dX12_most_17 rfl ?_
    refine wm_gets dX12_most_18 gf_X12_92 K (by rfl) (by repeat (first | assumption | exact pv10 | exact pv11 | (apply pv_o; decide; decide) | exact upN_eq | (apply upN_ne; decide) | (apply SV_at; assumption; decide) | exact rfl)) ?_
    first | refine wp_ifb_ne (pc := 21) 27 dX12_most_21 (by decide) (fun c21 => ?_) (fun c21 => ?_) | refine wp_if_ne (pc := 21) 27 dX12_most_21 (by decide) (by first | omega | exact TI.i5 (by assumption) | exact TI.i3 (by assumption) | exact TI.i2 (by assumption) | exact TI.i1 (by assumption) | exact TI.i0 (by assumption) | exact TI.i4 (by assumption) | exact TI.i6 (by assumption) | exact TI.i7 (by assumption)) (fun c21 => ?_) (fun c21 => ?_)
    ·
      rw [if_neg (by omega), if_pos (by omega)] -- go
      refine wp_aload_n (pc := 27) dX12_most_27 rfl ?_
      refine wm_get dX12_most_28 gf_X12_9 K (by rfl) ?_
      refine wp_aload_n (pc := 31) dX12_most_31 rfl ?_
      refine wm_get dX12_most_32 gf_X12_39 K (by rfl) ?_
      refine wp_iconst (pc := 35) dX12_most_35 ?_
      refine wp_Sn (pc := 36) dX12_most_36 cl_X12_223 (sp_Ref_lay K rfl (by decide) rfl (by decide) (by decide) (by repeat (first | assumption | exact upA_eq | (apply upA_ne; first | decide | omega) | (apply SA_at; assumption; first | decide | (simp; omega)) | exact rfl))) rfl rfl (by decide) (Nat.le_of_ble_eq_true rfl) (fun hp36 e36 => ?_)
      obtain ⟨K, O1⟩ := e36
      replace O := SO.tr O O1
      refine wp_aload_n (pc := 39) dX12_most_39 rfl ?_
      refine wp_aload_n (pc := 40) dX12_most_40 rfl ?_
      refine wm_get dX12_most_41 gf_X12_39 K (by rfl) ?_
      refine wp_iload_n (pc := 44) dX12_most_44 rfl ?_
      refine wp_Vs (pc := 45) dX12_most_45 cl_X12_250 (sp_Ref_goHours (n := n) K (by repeat (first | assumption | exact pv10 | exact pv11 | (apply pv_o; decide; decide) | exact upN_eq | (apply upN_ne; decide) | (apply SV_at; assumption; decide) | exact rfl)) hI hH (.inr rfl) (by repeat (first | assumption | exact upA_eq | (apply upA_ne; first | decide | omega) | (apply SA_at; assumption; first | decide | (simp; omega)) | exact rfl)) (RuA.cc hu (by repeat (first | assumption | exact pv10 | exact pv11 | (apply pv_o; decide; decide) | exact upN_eq | (apply upN_ne; decide) | (apply SV_at; assumption; decide) | exact rfl)) (by repeat (first | assumption | exact upA_eq | (apply upA_ne; first | decide | omega) | (apply SA_at; assumption; first | decide | (simp; omega)) | exact rfl)) (by repeat (first | assumption | exact upA_eq | (apply upA_ne; first | decide | omega) | (apply SA_at; assumption; first | decide | (simp; omega)) | exact rfl))) (by omega) (by omega)) rfl rfl K.1 (by rfl) (by decide) (Nat.le_of_ble_eq_true rfl) (fun hp45 e45 => ?_)
      obtain ⟨⟨V45, A45, rd45, K, sV45, sA45, hA45⟩, O1⟩ := e45; replace O := SO.tr O O1
      refine wp_pop (pc := 48) dX12_most_48 rfl ?_
      refine wp_iconst (pc := 49) dX12_most_49 ?_
      refine wp_istore_n (pc := 50) dX12_most_50 (by decide) ?_
      refine wp_iconst (pc := 51) dX12_most_51 ?_
      refine wp_istore_n (pc := 52) dX12_most_52 (by decide) ?_
      refine wp_iconst (pc := 53) dX12_most_53 ?_
      refine wp_istore (pc := 54) dX12_most_54 (by decide) ?_
      refine wp_ls ?_ (lp_Ref_most (V := V) (A := A) hI2 M (by omega) K O (by repeat (first | assumption | exact pv10 | exact pv11 | (apply pv_o; decide; decide) | exact upN_eq | (apply upN_ne; decide) | (apply SV_at; assumption; decide) | exact rfl)) (by repeat (first | exact SV.rf | assumption | (apply SV.up1; decide) | (apply SV.tr2; assumption; decide))) (by repeat (first | exact SA.rf | assumption | (apply SA.up1; decide) | (apply SA.tr2; assumption; decide))) (by repeat (first | assumption | exact upA_eq | (apply upA_ne; first | decide | omega) | (apply SA_at; assumption; first | decide | (simp; omega)) | exact rfl)) (N - 1 + 1) 0 (by omega) (by omega))
      repeat' (first | exact LE_0 | refine LE_s rfl ?_ | refine LE_s (I_c (by first | omega | (simp only [sm]; omega))) ?_ | refine LE_s (J_c (by first | omega | exact Int.pow_succ _ _ | exact (Int.pow_succ _ _).symm | exact (Int.pow_zero _).symm | (simp only [sm]; omega))) ?_ | refine LE_n ?_)
    ·
      rw [if_pos (by omega), if_neg (by omega)] -- go
      refine wp_bipush (pc := 24) (y := (-2)) dX12_most_24 (by decide) ?_
      exact wp_ir (pc := 26) dX12_most_26 rfl (by decide) (by decide) (by first | rfl | omega) ⟨⟨_, _, _, K, (by repeat (first | assumption | exact pv10 | exact pv11 | (apply pv_o; decide; decide) | exact upN_eq | (apply upN_ne; decide) | (apply SV_at; assumption; decide) | exact rfl)), M.qu (by repeat (first | exact SV.rf | assumption | (apply SV.up1; decide) | (apply SV.tr2; assumption; decide))) (by repeat (first | exact SA.rf | assumption | (apply SA.up1; decide) | (apply SA.tr2; assumption; decide))) (by first | assumption | exact Mrw.z (by repeat (first | assumption | exact pv10 | exact pv11 | (apply pv_o; decide; decide) | exact upN_eq | (apply upN_ne; decide) | (apply SV_at; assumption; decide) | exact rfl)) | exact Mrw.tr (by assumption) (by repeat (first | assumption | exact pv10 | exact pv11 | (apply pv_o; decide; decide) | exact upN_eq | (apply upN_ne; decide) | (apply SV_at; assumption; decide) | exact rfl)) (by repeat (first | assumption | exact upA_eq | (apply upA_ne; first | decide | omega) | (apply SA_at; assumption; first | decide | (simp; omega)) | exact rfl)))⟩, O⟩
  ·
    rw [if_neg c12, if_neg (fun z => c12 z.1)] -- go
    refine wp_iconst (pc := 15) dX12_most_15 ?_
    exact wp_ir (pc := 16) dX12_most_16 rfl (by decide) (by decide) (by first | rfl | omega) ⟨⟨_, _, _, K, (by repeat (first | assumption | exact pv10 | exact pv11 | (apply pv_o; decide; decide) | exact upN_eq | (apply upN_ne; decide) | (apply SV_at; assumption; decide) | exact rfl)), M.qu (by repeat (first | exact SV.rf | assumption | (apply SV.up1; decide) | (apply SV.tr2; assumption; decide))) (by repeat (first | exact SA.rf | assumption | (apply SA.up1; decide) | (apply SA.tr2; assumption; decide))) (by first | assumption | exact Mrw.z (by repeat (first | assumption | exact pv10 | exact pv11 | (apply pv_o; decide; decide) | exact upN_eq | (apply upN_ne; decide) | (apply SV_at; assumption; decide) | exact rfl)) | exact Mrw.tr (by assumption) (by repeat (first | assumption | exact pv10 | exact pv11 | (apply pv_o; decide; decide) | exact upN_eq | (apply upN_ne; decide) | (apply SV_at; assumption; decide) | exact rfl)) (by repeat (first | assumption | exact upA_eq | (apply upA_ne; first | decide | omega) | (apply SA_at; assumption; first | decide | (simp; omega)) | exact rfl)))⟩, O⟩
/-! how long -/
def lgb (f : Nat → Int) : Nat → Nat × Int
  | 0 => (0, -1)
  | n + 1 => if (lgb f n).2 < f (n + 1) then (n + 1, f (n + 1)) else lgb f n
theorem lgb_in (f : Nat → Int) (h : ∀ n, 0 ≤ f n ∧ f n ≤ 100000) : ∀ n, (lgb f n).1 ≤ n ∧ -1 ≤ (lgb f n).2 ∧ (lgb f n).2 ≤ 100000
  | 0 => by unfold lgb; exact ⟨Nat.le_refl _, by decide, by decide⟩
  | n + 1 => by
    have := lgb_in f h n
    have h2 := h (n + 1)
    unfold lgb
    split
    · exact ⟨Nat.le_refl _, by show -1 ≤ f (n + 1); omega, h2.2⟩
    · omega
def lgf (cs : List Int) (T : Nat → Int → Int) (N : Nat) (x : Int) (d : Nat) : Int := runT cs (dieT T N x (d : Int)) N 12 3 x
theorem dieT_7 : dieT T N x y 7 = T 7 := by unfold dieT; split <;> rfl
theorem dieT_HS (hH : HS T) : HS (dieT T N x y) := by
  unfold dieT
  split
  · intro i hi
    show (updI (T 6) x 0 (i : Int)).toNat.testBit i = false
    unfold updI
    split
    · simp
    · exact hH i hi
  · exact hH
theorem lgf_in {cs : List Int} (hI : TI T N) (hb : T 7 0 < 1900000000) (d : Nat) : 0 ≤ lgf cs T N x d ∧ lgf cs T N x d ≤ 100000 := by
  have := (runT_I (cs := cs) (dieT_I (p := x) (n := (d : Int)) hI) 12 (by rw [dieT_7]; omega)).r3 x
  unfold lgf
  omega
theorem lp_Ref_longest (hI : TI T N) (hH : HS T) (hb : T 7 0 < 1900000000) (M : MX V A N T U tx rw rt hs ss KT) (hx : 0 ≤ x ∧ x < N ∧ T 5 x = 0) : ∀ (m i : Nat), 9 < i + m → i ≤ 9 → ∀ (hp2 : Hp) (V2 : Nat → Int) (A2 : Nat → Int → Int) (rd2 : Value) (K : ModAt hp2 q V2 A2 rd2 (.ref (q + 5))) (O : SO hp hp2 q (q + 25)) (h6 : V2 6 = 0) (sV : SV qV V V2) (sA : SA qA A A2), wp g MX12_longest (rm 232 0 0) (Eff (.int (I ((lgb (lgf (stl rt) T N x) 9).1 : Nat))) (fun hp3 => MAt hp3 q 0 N T U tx [(lgb (lgf (stl rt) T N x) 9).2, runT (stl rt) T N 12 3 x] rt hs ss KT ∧ SO hp hp3 q (q + 25))) 0 0 37 [some (.ref q), some (.int (I x)), some (.int (I ((lgb (lgf (stl rt) T N x) i).1 : Nat))), some (.int (I (lgb (lgf (stl rt) T N x) i).2)), some (.int (I ((i + 1 : Nat) : Int)))] [] hp2 := by
  intro m
  induction m with
  | zero => intro i h1 h2; exact absurd h1 (by omega)
  | succ m ih =>
    intro i h1 h2 hp2 V2 A2 rd2 K O h6 sV sA
    have hN := hI.men.2
    have m1 := M.1
    have mA := M.2.1
    have hu := M.ru (q := q)
    have q1 := lgb_in (lgf (stl rt) T N x) (lgf_in hI hb) i
    have q2 := lgf_in (cs := stl rt) (x := x) hI hb (i + 1)
    have hI3 := runT_I (cs := stl rt) hI 12 (by omega)
    refine wp_iload (pc := 37) dX12_longest_37 rfl ?_
    refine wp_bipush (pc := 39) (y := 9) dX12_longest_39 (by decide) ?_
    refine wp_icmp_gt (pc := 41) 112 dX12_longest_41 (by decide) (by first | omega | exact TI.i5 (by assumption) | exact TI.i3 (by assumption) | exact TI.i2 (by assumption) | exact TI.i1 (by assumption) | exact TI.i0 (by assumption) | exact TI.i4 (by assumption) | exact TI.i6 (by assumption) | exact TI.i7 (by assumption)) (by first | omega | exact TI.i5 (by assumption) | exact TI.i3 (by assumption) | exact TI.i2 (by assumption) | exact TI.i1 (by assumption) | exact TI.i0 (by assumption) | exact TI.i4 (by assumption) | exact TI.i6 (by assumption) | exact TI.i7 (by assumption)) (fun c41 => ?_) (fun c41 => ?_)
    ·
      have e : i = 9 := by omega
      subst e -- go
      refine wp_aload_n (pc := 112) dX12_longest_112 rfl ?_
      refine wm_get dX12_longest_113 gf_X12_9 K (by rfl) ?_
      refine wp_aload_n (pc := 116) dX12_longest_116 rfl ?_
      refine wm_get dX12_longest_117 gf_X12_39 K (by rfl) ?_
      refine wp_iconst (pc := 120) dX12_longest_120 ?_
      refine wp_Sn (pc := 121) dX12_longest_121 cl_X12_223 (sp_Ref_lay K rfl (by decide) rfl (by decide) (by decide) (by repeat (first | assumption | exact upA_eq | (apply upA_ne; first | decide | omega) | (apply SA_at; assumption; first | decide | (simp; omega)) | exact rfl))) rfl rfl (by decide) (Nat.le_of_ble_eq_true rfl) (fun hp121 e121 => ?_)
      obtain ⟨K, O1⟩ := e121
      replace O := SO.tr O O1
      refine wp_aload_n (pc := 124) dX12_longest_124 rfl ?_
      refine wp_aload_n (pc := 125) dX12_longest_125 rfl ?_
      refine wm_get dX12_longest_126 gf_X12_39 K (by rfl) ?_
      refine wp_bipush (pc := 129) (y := 12) dX12_longest_129 (by decide) ?_
      refine wp_Vs (pc := 131) dX12_longest_131 cl_X12_250 (sp_Ref_goHours (n := 12) K (by repeat (first | assumption | exact pv10 | exact pv11 | (apply pv_o; decide; decide) | exact upN_eq | (apply upN_ne; decide) | (apply SV_at; assumption; decide) | exact rfl)) hI hH (.inr rfl) (by repeat (first | assumption | exact upA_eq | (apply upA_ne; first | decide | omega) | (apply SA_at; assumption; first | decide | (simp; omega)) | exact rfl)) (RuA.cc hu (by repeat (first | assumption | exact pv10 | exact pv11 | (apply pv_o; decide; decide) | exact upN_eq | (apply upN_ne; decide) | (apply SV_at; assumption; decide) | exact rfl)) (by repeat (first | assumption | exact upA_eq | (apply upA_ne; first | decide | omega) | (apply SA_at; assumption; first | decide | (simp; omega)) | exact rfl)) (by repeat (first | assumption | exact upA_eq | (apply upA_ne; first | decide | omega) | (apply SA_at; assumption; first | decide | (simp; omega)) | exact rfl))) (by omega) (by decide)) rfl rfl K.1 (by rfl) (by decide) (Nat.le_of_ble_eq_true rfl) (fun hp131 e131 => ?_)
      obtain ⟨⟨V131, A131, rd131, K, sV131, sA131, hA131⟩, O1⟩ := e131; replace O := SO.tr O O1
      refine wp_pop (pc := 134) dX12_longest_134 rfl ?_
      refine wp_aload_n (pc := 135) dX12_longest_135 rfl ?_
      refine wp_iconst (pc := 136) dX12_longest_136 ?_
      refine wm_put dX12_longest_137 pf_X12_89 K O (by decide) mset_5 rfl rfl (fun hp K O => ?_)
      refine wp_aload_n (pc := 140) dX12_longest_140 rfl ?_
      refine wp_iload_n (pc := 141) dX12_longest_141 rfl ?_
      refine wp_i2l (pc := 142) dX12_longest_142 (by first | omega | exact TI.i5 (by assumption) | exact TI.i3 (by assumption) | exact TI.i2 (by assumption) | exact TI.i1 (by assumption) | exact TI.i0 (by assumption) | exact TI.i4 (by assumption) | exact TI.i6 (by assumption) | exact TI.i7 (by assumption)) ?_
      refine wp_Vn (pc := 143) dX12_longest_143 cl_X12_253 (sp_Ref_tellR K (by first | assumption | exact Mrw.z (by repeat (first | assumption | exact pv10 | exact pv11 | (apply pv_o; decide; decide) | exact upN_eq | (apply upN_ne; decide) | (apply SV_at; assumption; decide) | exact rfl))) (by first | decide | (simp; omega) | simp | omega)) rfl rfl K.1 (by rfl) (by decide) (Nat.le_of_ble_eq_true rfl) (fun hp143 e143 => ?_)
      obtain ⟨⟨V143, A143, K, sV143, sA143, hR143⟩, O1⟩ := e143; replace O := SO.tr O O1
      refine wp_aload_n (pc := 146) dX12_longest_146 rfl ?_
      refine wp_aload_n (pc := 147) dX12_longest_147 rfl ?_
      refine wm_get dX12_longest_148 gf_X12_39 K (by rfl) ?_
      refine wp_bipush (pc := 151) (y := 42) dX12_longest_151 (by decide) ?_
      refine wp_iload_n (pc := 153) dX12_longest_153 rfl ?_
      refine wp_iadd (pc := 154) dX12_longest_154 ?_
      refine wm_iald dX12_longest_155 K (by first | rfl | assumption) (by first | decide | omega) (by first | decide | omega) (by decide) (by omega) (by omega) (by repeat (first | assumption | exact upA_eq | (apply upA_ne; first | decide | omega) | (apply SA_at; assumption; first | decide | (simp; omega)) | exact rfl)) (by first | exact flat5 (by omega) (by omega) | exact flat3 (by omega) (by omega) | exact flat2 (by omega) (by omega) | exact flat6 (by omega) (by omega) | exact flat4 (by omega) (by omega) | exact flat1 (by omega) (by omega) | exact flat0 (by omega) (by omega) | exact flat7 | exact rfl) ?_
      refine wp_i2l (pc := 156) dX12_longest_156 (by first | omega | exact TI.i5 (by assumption) | exact TI.i3 (by assumption) | exact TI.i2 (by assumption) | exact TI.i1 (by assumption) | exact TI.i0 (by assumption) | exact TI.i4 (by assumption) | exact TI.i6 (by assumption) | exact TI.i7 (by assumption)) ?_
      refine wp_Vn (pc := 157) dX12_longest_157 cl_X12_253 (sp_Ref_tellR K (by first | assumption | exact Mrw.z (by repeat (first | assumption | exact pv10 | exact pv11 | (apply pv_o; decide; decide) | exact upN_eq | (apply upN_ne; decide) | (apply SV_at; assumption; decide) | exact rfl))) (by first | decide | (simp; omega) | simp | omega)) rfl rfl K.1 (by rfl) (by decide) (Nat.le_of_ble_eq_true rfl) (fun hp157 e157 => ?_)
      obtain ⟨⟨V157, A157, K, sV157, sA157, hR157⟩, O1⟩ := e157; replace O := SO.tr O O1
      refine wp_iload_n (pc := 160) dX12_longest_160 rfl ?_
      exact wp_ir (pc := 161) dX12_longest_161 rfl (by decide) (by decide) (by first | rfl | omega) ⟨⟨_, _, _, K, (by repeat (first | assumption | exact pv10 | exact pv11 | (apply pv_o; decide; decide) | exact upN_eq | (apply upN_ne; decide) | (apply SV_at; assumption; decide) | exact rfl)), M.qu (by repeat (first | exact SV.rf | assumption | (apply SV.up1; decide) | (apply SV.tr2; assumption; decide))) (by repeat (first | exact SA.rf | assumption | (apply SA.up1; decide) | (apply SA.tr2; assumption; decide))) (by first | assumption | exact Mrw.z (by repeat (first | assumption | exact pv10 | exact pv11 | (apply pv_o; decide; decide) | exact upN_eq | (apply upN_ne; decide) | (apply SV_at; assumption; decide) | exact rfl)) | exact Mrw.tr (by assumption) (by repeat (first | assumption | exact pv10 | exact pv11 | (apply pv_o; decide; decide) | exact upN_eq | (apply upN_ne; decide) | (apply SV_at; assumption; decide) | exact rfl)) (by repeat (first | assumption | exact upA_eq | (apply upA_ne; first | decide | omega) | (apply SA_at; assumption; first | decide | (simp; omega)) | exact rfl)))⟩, O⟩
    ·
      have eT : dieT T N x ((i + 1 : Nat) : Int) = up (up (up T 5 x ((i + 1 : Nat) : Int)) 4 x (mi 99 (T 4 x + 1))) 6 x 0 := if_pos (by omega)
      have hI2 := dieT_I (p := x) (n := ((i + 1 : Nat) : Int)) hI
      have hH2 := dieT_HS (N := N) (x := x) (y := ((i + 1 : Nat) : Int)) hH -- go
      refine wp_aload_n (pc := 44) dX12_longest_44 rfl ?_
      refine wm_get dX12_longest_45 gf_X12_9 K (by rfl) ?_
      refine wp_aload_n (pc := 48) dX12_longest_48 rfl ?_
      refine wm_get dX12_longest_49 gf_X12_39 K (by rfl) ?_
      refine wp_iconst (pc := 52) dX12_longest_52 ?_
      refine wp_Sn (pc := 53) dX12_longest_53 cl_X12_223 (sp_Ref_lay K rfl (by decide) rfl (by decide) (by decide) (by repeat (first | assumption | exact upA_eq | (apply upA_ne; first | decide | omega) | (apply SA_at; assumption; first | decide | (simp; omega)) | exact rfl))) rfl rfl (by decide) (Nat.le_of_ble_eq_true rfl) (fun hp53 e53 => ?_)
      obtain ⟨K, O1⟩ := e53
      replace O := SO.tr O O1
      refine wp_aload_n (pc := 56) dX12_longest_56 rfl ?_
      refine wm_get dX12_longest_57 gf_X12_39 K (by rfl) ?_
      refine wp_iload_n (pc := 60) dX12_longest_60 rfl ?_
      refine wp_iload (pc := 61) dX12_longest_61 rfl ?_
      refine wp_Sn (pc := 63) dX12_longest_63 cl_X12_263 (sp_Ref_goDeath K hI (.inr rfl) (by repeat (first | assumption | exact upA_eq | (apply upA_ne; first | decide | omega) | (apply SA_at; assumption; first | decide | (simp; omega)) | exact rfl)) (by omega)) rfl rfl (by decide) (Nat.le_of_ble_eq_true rfl) (fun hp63 e63 => ?_)
      obtain ⟨K, O1⟩ := e63
      replace O := SO.tr O O1
      rw [← eT] at K
      refine wp_aload_n (pc := 66) dX12_longest_66 rfl ?_
      refine wp_aload_n (pc := 67) dX12_longest_67 rfl ?_
      refine wm_get dX12_longest_68 gf_X12_39 K (by rfl) ?_
      refine wp_bipush (pc := 71) (y := 12) dX12_longest_71 (by decide) ?_
      refine wp_Vs (pc := 73) dX12_longest_73 cl_X12_250 (sp_Ref_goHours (n := 12) (T := dieT T N x ((i + 1 : Nat) : Int)) K (by repeat (first | assumption | exact pv10 | exact pv11 | (apply pv_o; decide; decide) | exact upN_eq | (apply upN_ne; decide) | (apply SV_at; assumption; decide) | exact rfl)) hI2 hH2 (.inr rfl) (by repeat (first | assumption | exact upA_eq | (apply upA_ne; first | decide | omega) | (apply SA_at; assumption; first | decide | (simp; omega)) | exact rfl)) (RuA.cc hu (by repeat (first | assumption | exact pv10 | exact pv11 | (apply pv_o; decide; decide) | exact upN_eq | (apply upN_ne; decide) | (apply SV_at; assumption; decide) | exact rfl)) (by repeat (first | assumption | exact upA_eq | (apply upA_ne; first | decide | omega) | (apply SA_at; assumption; first | decide | (simp; omega)) | exact rfl)) (by repeat (first | assumption | exact upA_eq | (apply upA_ne; first | decide | omega) | (apply SA_at; assumption; first | decide | (simp; omega)) | exact rfl))) (by rw [dieT_7]; omega) (by decide)) rfl rfl K.1 (by rfl) (by decide) (Nat.le_of_ble_eq_true rfl) (fun hp73 e73 => ?_)
      obtain ⟨⟨V73, A73, rd73, K, sV73, sA73, hA73⟩, O1⟩ := e73; replace O := SO.tr O O1
      refine wp_pop (pc := 76) dX12_longest_76 rfl ?_
      refine wp_aload_n (pc := 77) dX12_longest_77 rfl ?_
      refine wm_get dX12_longest_78 gf_X12_39 K (by rfl) ?_
      refine wp_bipush (pc := 81) (y := 42) dX12_longest_81 (by decide) ?_
      refine wp_iload_n (pc := 83) dX12_longest_83 rfl ?_
      refine wp_iadd (pc := 84) dX12_longest_84 ?_
      refine wm_iald dX12_longest_85 K (by first | rfl | assumption) (by first | decide | omega) (by first | decide | omega) (by decide) (by omega) (by omega) (by repeat (first | assumption | exact upA_eq | (apply upA_ne; first | decide | omega) | (apply SA_at; assumption; first | decide | (simp; omega)) | exact rfl)) (by first | exact flat5 (by omega) (by omega) | exact flat3 (by omega) (by omega) | exact flat2 (by omega) (by omega) | exact flat6 (by omega) (by omega) | exact flat4 (by omega) (by omega) | exact flat1 (by omega) (by omega) | exact flat0 (by omega) (by omega) | exact flat7 | exact rfl) ?_
      have ef : runT (stl rt) (dieT T N x ((i + 1 : Nat) : Int)) N 12 3 x = lgf (stl rt) T N x (i + 1) := rfl
      rw [ef]
      refine wp_iload_n (pc := 86) dX12_longest_86 rfl ?_
      refine wp_icmp_gt (pc := 87) 93 dX12_longest_87 (by decide) (by first | omega | exact TI.i5 (by assumption) | exact TI.i3 (by assumption) | exact TI.i2 (by assumption) | exact TI.i1 (by assumption) | exact TI.i0 (by assumption) | exact TI.i4 (by assumption) | exact TI.i6 (by assumption) | exact TI.i7 (by assumption)) (by first | omega | exact TI.i5 (by assumption) | exact TI.i3 (by assumption) | exact TI.i2 (by assumption) | exact TI.i1 (by assumption) | exact TI.i0 (by assumption) | exact TI.i4 (by assumption) | exact TI.i6 (by assumption) | exact TI.i7 (by assumption)) (fun c87 => ?_) (fun c87 => ?_)
      ·
        have e1 : lgb (lgf (stl rt) T N x) (i + 1) = (i + 1, lgf (stl rt) T N x (i + 1)) := if_pos (by omega)
        skip -- go
        refine wp_iload (pc := 93) dX12_longest_93 rfl ?_
        refine wp_istore_n (pc := 95) dX12_longest_95 (by decide) ?_
        refine wp_aload_n (pc := 96) dX12_longest_96 rfl ?_
        refine wm_get dX12_longest_97 gf_X12_39 K (by rfl) ?_
        refine wp_bipush (pc := 100) (y := 42) dX12_longest_100 (by decide) ?_
        refine wp_iload_n (pc := 102) dX12_longest_102 rfl ?_
        refine wp_iadd (pc := 103) dX12_longest_103 ?_
        refine wm_iald dX12_longest_104 K (by first | rfl | assumption) (by first | decide | omega) (by first | decide | omega) (by decide) (by omega) (by omega) (by repeat (first | assumption | exact upA_eq | (apply upA_ne; first | decide | omega) | (apply SA_at; assumption; first | decide | (simp; omega)) | exact rfl)) (by first | exact flat5 (by omega) (by omega) | exact flat3 (by omega) (by omega) | exact flat2 (by omega) (by omega) | exact flat6 (by omega) (by omega) | exact flat4 (by omega) (by omega) | exact flat1 (by omega) (by omega) | exact flat0 (by omega) (by omega) | exact flat7 | exact rfl) ?_
        rw [ef]
        refine wp_istore_n (pc := 105) dX12_longest_105 (by decide) ?_
        refine wp_iinc (pc := 106) dX12_longest_106 rfl (by decide) ?_
        refine wp_goto (pc := 109) 37 dX12_longest_109 (by decide) ?_
        refine wp_ls ?_ (ih (i + 1) (by omega) (by omega) _ _ _ _ K O (by repeat (first | assumption | exact pv10 | exact pv11 | (apply pv_o; decide; decide) | exact upN_eq | (apply upN_ne; decide) | (apply SV_at; assumption; decide) | exact rfl)) (by repeat (first | exact SV.rf | assumption | (apply SV.up1; decide) | (apply SV.tr2; assumption; decide))) (by repeat (first | exact SA.rf | assumption | (apply SA.up1; decide) | (apply SA.tr2; assumption; decide))))
        rw [e1]
        repeat' (first | exact LE_0 | refine LE_s rfl ?_ | refine LE_s (I_c (by first | omega | (simp only [sm]; omega))) ?_ | refine LE_s (J_c (by first | omega | exact Int.pow_succ _ _ | exact (Int.pow_succ _ _).symm | exact (Int.pow_zero _).symm | (simp only [sm]; omega))) ?_ | refine LE_n ?_)
      ·
        have e1 : lgb (lgf (stl rt) T N x) (i + 1) = lgb (lgf (stl rt) T N x) i := if_neg (by omega)
        skip -- go
        refine wp_goto (pc := 90) 106 dX12_longest_90 (by decide) ?_
        refine wp_iinc (pc := 106) dX12_longest_106 rfl (by decide) ?_
        refine wp_goto (pc := 109) 37 dX12_longest_109 (by decide) ?_
        refine wp_ls ?_ (ih (i + 1) (by omega) (by omega) _ _ _ _ K O (by repeat (first | assumption | exact pv10 | exact pv11 | (apply pv_o; decide; decide) | exact upN_eq | (apply upN_ne; decide) | (apply SV_at; assumption; decide) | exact rfl)) (by repeat (first | exact SV.rf | assumption | (apply SV.up1; decide) | (apply SV.tr2; assumption; decide))) (by repeat (first | exact SA.rf | assumption | (apply SA.up1; decide) | (apply SA.tr2; assumption; decide))))
        rw [e1]
        repeat' (first | exact LE_0 | refine LE_s rfl ?_ | refine LE_s (I_c (by first | omega | (simp only [sm]; omega))) ?_ | refine LE_s (J_c (by first | omega | exact Int.pow_succ _ _ | exact (Int.pow_succ _ _).symm | exact (Int.pow_zero _).symm | (simp only [sm]; omega))) ?_ | refine LE_n ?_)
theorem sp_Ref_longest (hM : MAt hp q th N T U tx rw rt hs ss KT) (hI : TI T N) (hH : HS T) (hb : T 7 0 < 1900000000) (rx : InR x) : Sp g MX12_longest (rm 232 0 0) [.ref q, .int (I x)] hp (Eff (.int (I (if 0 ≤ x ∧ x < N then (if T 5 x = 0 then ((lgb (lgf (stl rt) T N x) 9).1 : Int) else -2) else -1))) (fun hp2 => MAt hp2 q 0 N T U tx (if 0 ≤ x ∧ x < N ∧ T 5 x = 0 then [(lgb (lgf (stl rt) T N x) 9).2, runT (stl rt) T N 12 3 x] else rw) rt hs ss KT ∧ SO hp hp2 q (q + 25))) := by
  have hN := hI.men.2
  have h5 := hI.r5 x
  refine Sp_mk rfl (Nat.le_of_ble_eq_true rfl) ?_
  show wp g _ _ _ 0 0 0 [some (.ref q), some (.int (I x)), none, none, none] [] hp
  have O := SO.rf (hp := hp) (lo := q) (hi := q + 25)
  obtain ⟨V, A, rd, K, hth, M⟩ := hM
  have hu := M.ru (q := q)
  have M2 := M
  obtain ⟨m1, mA, mt, mr, mu, mU, mh, ms, mk⟩ := M2
  refine wp_aload_n (pc := 0) dX12_longest_0 rfl ?_
  refine wp_iconst (pc := 1) dX12_longest_1 ?_
  refine wm_put dX12_longest_2 pf_X12_85 K O (by decide) mset_6 rfl rfl (fun hp K O => ?_)
  refine wp_aload_n (pc := 5) dX12_longest_5 rfl ?_
  refine wp_iload_n (pc := 6) dX12_longest_6 rfl ?_
  refine wp_Vp (pc := 7) dX12_longest_7 cl_X12_99 (sp_Ref_isMan (by first | assumption | omega | (repeat (first | assumption | exact pv10 | exact pv11 | (apply pv_o; decide; decide) | exact upN_eq | (apply upN_ne; decide) | (apply SV_at; assumption; decide) | exact upA_eq | (apply upA_ne; first | decide | omega) | (apply SA_at; assumption; first | decide | (simp; omega)) | exact rfl))) (by first | assumption | omega | (repeat (first | assumption | exact pv10 | exact pv11 | (apply pv_o; decide; decide) | exact upN_eq | (apply upN_ne; decide) | (apply SV_at; assumption; decide) | exact upA_eq | (apply upA_ne; first | decide | omega) | (apply SA_at; assumption; first | decide | (simp; omega)) | exact rfl))) (by first | assumption | omega | (repeat (first | assumption | exact pv10 | exact pv11 | (apply pv_o; decide; decide) | exact upN_eq | (apply upN_ne; decide) | (apply SV_at; assumption; decide) | exact upA_eq | (apply upA_ne; first | decide | omega) | (apply SA_at; assumption; first | decide | (simp; omega)) | exact rfl))) (by first | assumption | omega | (repeat (first | assumption | exact pv10 | exact pv11 | (apply pv_o; decide; decide) | exact upN_eq | (apply upN_ne; decide) | (apply SV_at; assumption; decide) | exact upA_eq | (apply upA_ne; first | decide | omega) | (apply SA_at; assumption; first | decide | (simp; omega)) | exact rfl)))) rfl rfl K.1 (by rfl) (by decide) (Nat.le_of_ble_eq_true rfl) ?_
  first | refine wp_ifb_ne (pc := 10) 15 dX12_longest_10 (by decide) (fun c10 => ?_) (fun c10 => ?_) | refine wp_if_ne (pc := 10) 15 dX12_longest_10 (by decide) (by first | omega | exact TI.i5 (by assumption) | exact TI.i3 (by assumption) | exact TI.i2 (by assumption) | exact TI.i1 (by assumption) | exact TI.i0 (by assumption) | exact TI.i4 (by assumption) | exact TI.i6 (by assumption) | exact TI.i7 (by assumption)) (fun c10 => ?_) (fun c10 => ?_)
  ·
    rw [if_pos c10] -- go
    refine wp_aload_n (pc := 15) dX12_longest_15 rfl ?_
    refine wm_get dX12_longest_16 gf_X12_9 K (by rfl) ?_
    refine wp_bipush (pc := 19) (y := 54) dX12_longest_19 (by decide) ?_
    refine wp_iload_n (pc := 21) dX12_longest_21 rfl ?_
    refine wp_iadd (pc := 22) dX12_longest_22 ?_
    refine wm_iald dX12_longest_23 K (by first | rfl | assumption) (by first | decide | omega) (by first | decide | omega) (by decide) (by omega) (by omega) (by repeat (first | assumption | exact upA_eq | (apply upA_ne; first | decide | omega) | (apply SA_at; assumption; first | decide | (simp; omega)) | exact rfl)) (by first | exact flat5 (by omega) (by omega) | exact flat3 (by omega) (by omega) | exact flat2 (by omega) (by omega) | exact flat6 (by omega) (by omega) | exact flat4 (by omega) (by omega) | exact flat1 (by omega) (by omega) | exact flat0 (by omega) (by omega) | exact flat7 | exact rfl) ?_
    refine wp_if_le (pc := 24) 30 dX12_longest_24 (by decide) (by first | omega | exact TI.i5 (by assumption) | exact TI.i3 (by assumption) | exact TI.i2 (by assumption) | exact TI.i1 (by assumption) | exact TI.i0 (by assumption) | exact TI.i4 (by assumption) | exact TI.i6 (by assumption) | exact TI.i7 (by assumption)) (fun c24 => ?_) (fun c24 => ?_)
    ·
      rw [if_pos (by omega), if_pos (by omega)] -- go
      refine wp_iconst (pc := 30) dX12_longest_30 ?_
      refine wp_istore_n (pc := 31) dX12_longest_31 (by decide) ?_
      refine wp_iconst (pc := 32) dX12_longest_32 ?_
      refine wp_istore_n (pc := 33) dX12_longest_33 (by decide) ?_
      refine wp_iconst (pc := 34) dX12_longest_34 ?_
      refine wp_istore (pc := 35) dX12_longest_35 (by decide) ?_
      refine wp_ls ?_ (lp_Ref_longest hI hH hb M (by omega) 10 0 (by omega) (by omega) _ _ _ _ K O (by repeat (first | assumption | exact pv10 | exact pv11 | (apply pv_o; decide; decide) | exact upN_eq | (apply upN_ne; decide) | (apply SV_at; assumption; decide) | exact rfl)) (by repeat (first | exact SV.rf | assumption | (apply SV.up1; decide) | (apply SV.tr2; assumption; decide))) (by repeat (first | exact SA.rf | assumption | (apply SA.up1; decide) | (apply SA.tr2; assumption; decide))))
      repeat' (first | exact LE_0 | refine LE_s rfl ?_ | refine LE_s (I_c (by first | omega | (simp only [sm]; omega))) ?_ | refine LE_s (J_c (by first | omega | exact Int.pow_succ _ _ | exact (Int.pow_succ _ _).symm | exact (Int.pow_zero _).symm | (simp only [sm]; omega))) ?_ | refine LE_n ?_)
    ·
      rw [if_neg (by omega), if_neg (by omega)] -- go
      refine wp_bipush (pc := 27) (y := (-2)) dX12_longest_27 (by decide) ?_
      exact wp_ir (pc := 29) dX12_longest_29 rfl (by decide) (by decide) (by first | rfl | omega) ⟨⟨_, _, _, K, (by repeat (first | assumption | exact pv10 | exact pv11 | (apply pv_o; decide; decide) | exact upN_eq | (apply upN_ne; decide) | (apply SV_at; assumption; decide) | exact rfl)), M.qu (by repeat (first | exact SV.rf | assumption | (apply SV.up1; decide) | (apply SV.tr2; assumption; decide))) (by repeat (first | exact SA.rf | assumption | (apply SA.up1; decide) | (apply SA.tr2; assumption; decide))) (by first | assumption | exact Mrw.z (by repeat (first | assumption | exact pv10 | exact pv11 | (apply pv_o; decide; decide) | exact upN_eq | (apply upN_ne; decide) | (apply SV_at; assumption; decide) | exact rfl)) | exact Mrw.tr (by assumption) (by repeat (first | assumption | exact pv10 | exact pv11 | (apply pv_o; decide; decide) | exact upN_eq | (apply upN_ne; decide) | (apply SV_at; assumption; decide) | exact rfl)) (by repeat (first | assumption | exact upA_eq | (apply upA_ne; first | decide | omega) | (apply SA_at; assumption; first | decide | (simp; omega)) | exact rfl)))⟩, O⟩
  ·
    rw [if_neg c10, if_neg (by omega)] -- go
    refine wp_iconst (pc := 13) dX12_longest_13 ?_
    exact wp_ir (pc := 14) dX12_longest_14 rfl (by decide) (by decide) (by first | rfl | omega) ⟨⟨_, _, _, K, (by repeat (first | assumption | exact pv10 | exact pv11 | (apply pv_o; decide; decide) | exact upN_eq | (apply upN_ne; decide) | (apply SV_at; assumption; decide) | exact rfl)), M.qu (by repeat (first | exact SV.rf | assumption | (apply SV.up1; decide) | (apply SV.tr2; assumption; decide))) (by repeat (first | exact SA.rf | assumption | (apply SA.up1; decide) | (apply SA.tr2; assumption; decide))) (by first | assumption | exact Mrw.z (by repeat (first | assumption | exact pv10 | exact pv11 | (apply pv_o; decide; decide) | exact upN_eq | (apply upN_ne; decide) | (apply SV_at; assumption; decide) | exact rfl)) | exact Mrw.tr (by assumption) (by repeat (first | assumption | exact pv10 | exact pv11 | (apply pv_o; decide; decide) | exact upN_eq | (apply upN_ne; decide) | (apply SV_at; assumption; decide) | exact rfl)) (by repeat (first | assumption | exact upA_eq | (apply upA_ne; first | decide | omega) | (apply SA_at; assumption; first | decide | (simp; omega)) | exact rfl)))⟩, O⟩
/-! a cell's changes -/
def cln (cs : List Int) (T : Nat → Int → Int) (N k : Nat) (x : Int) : Nat → Int
  | 0 => 0
  | i + 1 => cln cs T N k x i + (if runT cs T N (i + 1) k x = runT cs T N i k x then 0 else 1)
theorem cln_in (cs : List Int) (T : Nat → Int → Int) (N k : Nat) (x : Int) : ∀ n : Nat, 0 ≤ cln cs T N k x n ∧ cln cs T N k x n ≤ n
  | 0 => ⟨Int.le_refl 0, Int.le_refl 0⟩
  | n + 1 => by have := cln_in cs T N k x n; unfold cln; split <;> omega
theorem lp_Ref_cellIn (hI : TI T N) (hH : HS T) (hb : T 7 0 < 1900000000) (M : MX V A N T U tx rw rt hs ss KT) (hc : 0 ≤ c ∧ c < 103) (hf : ∀ T', flat T' c = T' k x) (hr : ∀ T', TI T' N → InR (T' k x)) (hn : n ≤ 99) : ∀ (m i : Nat), n < i + m → i ≤ n → ∀ (hp2 : Hp) (V2 : Nat → Int) (A2 : Nat → Int → Int) (rd2 : Value) (K : ModAt hp2 q V2 A2 rd2 (.ref (q + 5))) (O : SO hp hp2 q (q + 25)) (h6 : V2 6 = 0) (sV : SV qV V V2) (sA : SA qA A A2) (hA2 : A2 10 = flat (runT (stl rt) T N i)), wp g MX12_cellIn (rm 231 0 0) (Eff (.int (I (runT (stl rt) T N n k x))) (fun hp3 => MAt hp3 q 0 N T U tx [cln (stl rt) T N k x n] rt hs ss KT ∧ SO hp hp3 q (q + 25))) 0 0 17 [some (.ref q), some (.int (I c)), some (.int (I (n : Int))), some (.int (I (cln (stl rt) T N k x i))), some (.int (I (i : Int))), none] [] hp2 := by
  intro m
  induction m with
  | zero => intro i h1 h2; exact absurd h1 (by omega)
  | succ m ih =>
    intro i h1 h2 hp2 V2 A2 rd2 K O h6 sV sA hA2
    have hN := hI.men.2
    have m1 := M.1
    have hu := M.ru (q := q)
    have q1 := cln_in (stl rt) T N k x i
    have hI2 := runT_I (cs := stl rt) hI i (by omega)
    have hH2 := runT_HS (cs := stl rt) hI hH i (by omega)
    have hr1 := hr _ hI2
    refine wp_iload (pc := 17) dX12_cellIn_17 rfl ?_
    refine wp_iload_n (pc := 19) dX12_cellIn_19 rfl ?_
    refine wp_icmp_ge (pc := 20) 65 dX12_cellIn_20 (by decide) (by first | omega | exact TI.i5 (by assumption) | exact TI.i3 (by assumption) | exact TI.i2 (by assumption) | exact TI.i1 (by assumption) | exact TI.i0 (by assumption) | exact TI.i4 (by assumption) | exact TI.i6 (by assumption) | exact TI.i7 (by assumption)) (by first | omega | exact TI.i5 (by assumption) | exact TI.i3 (by assumption) | exact TI.i2 (by assumption) | exact TI.i1 (by assumption) | exact TI.i0 (by assumption) | exact TI.i4 (by assumption) | exact TI.i6 (by assumption) | exact TI.i7 (by assumption)) (fun c20 => ?_) (fun c20 => ?_)
    ·
      have e : i = n := by omega
      subst e -- go
      refine wp_aload_n (pc := 65) dX12_cellIn_65 rfl ?_
      refine wp_iconst (pc := 66) dX12_cellIn_66 ?_
      refine wm_put dX12_cellIn_67 pf_X12_89 K O (by decide) mset_5 rfl rfl (fun hp K O => ?_)
      refine wp_aload_n (pc := 70) dX12_cellIn_70 rfl ?_
      refine wp_iload_n (pc := 71) dX12_cellIn_71 rfl ?_
      refine wp_i2l (pc := 72) dX12_cellIn_72 (by first | omega | exact TI.i5 (by assumption) | exact TI.i3 (by assumption) | exact TI.i2 (by assumption) | exact TI.i1 (by assumption) | exact TI.i0 (by assumption) | exact TI.i4 (by assumption) | exact TI.i6 (by assumption) | exact TI.i7 (by assumption)) ?_
      refine wp_Vn (pc := 73) dX12_cellIn_73 cl_X12_253 (sp_Ref_tellR K (by first | assumption | exact Mrw.z (by repeat (first | assumption | exact pv10 | exact pv11 | (apply pv_o; decide; decide) | exact upN_eq | (apply upN_ne; decide) | (apply SV_at; assumption; decide) | exact rfl))) (by first | decide | (simp; omega) | simp | omega)) rfl rfl K.1 (by rfl) (by decide) (Nat.le_of_ble_eq_true rfl) (fun hp73 e73 => ?_)
      obtain ⟨⟨V73, A73, K, sV73, sA73, hR73⟩, O1⟩ := e73; replace O := SO.tr O O1
      refine wp_aload_n (pc := 76) dX12_cellIn_76 rfl ?_
      refine wm_get dX12_cellIn_77 gf_X12_39 K (by rfl) ?_
      refine wp_iload_n (pc := 80) dX12_cellIn_80 rfl ?_
      refine wm_iald dX12_cellIn_81 K (by first | rfl | assumption) (by first | decide | omega) (by first | decide | omega) (by decide) (by omega) (by omega) (by repeat (first | assumption | exact upA_eq | (apply upA_ne; first | decide | omega) | (apply SA_at; assumption; first | decide | (simp; omega)) | exact rfl)) (hf _) ?_
      exact wp_ir (pc := 82) dX12_cellIn_82 rfl (by decide) (by decide) (by first | rfl | omega) ⟨⟨_, _, _, K, (by repeat (first | assumption | exact pv10 | exact pv11 | (apply pv_o; decide; decide) | exact upN_eq | (apply upN_ne; decide) | (apply SV_at; assumption; decide) | exact rfl)), M.qu (by repeat (first | exact SV.rf | assumption | (apply SV.up1; decide) | (apply SV.tr2; assumption; decide))) (by repeat (first | exact SA.rf | assumption | (apply SA.up1; decide) | (apply SA.tr2; assumption; decide))) (by first | assumption | exact Mrw.z (by repeat (first | assumption | exact pv10 | exact pv11 | (apply pv_o; decide; decide) | exact upN_eq | (apply upN_ne; decide) | (apply SV_at; assumption; decide) | exact rfl)) | exact Mrw.tr (by assumption) (by repeat (first | assumption | exact pv10 | exact pv11 | (apply pv_o; decide; decide) | exact upN_eq | (apply upN_ne; decide) | (apply SV_at; assumption; decide) | exact rfl)) (by repeat (first | assumption | exact upA_eq | (apply upA_ne; first | decide | omega) | (apply SA_at; assumption; first | decide | (simp; omega)) | exact rfl)))⟩, O⟩
    ·
      have hI3 := runT_I (cs := stl rt) hI (i + 1) (by omega)
      have hr2 := hr _ hI3 -- go
      refine wp_aload_n (pc := 23) dX12_cellIn_23 rfl ?_
      refine wm_get dX12_cellIn_24 gf_X12_39 K (by rfl) ?_
      refine wp_iload_n (pc := 27) dX12_cellIn_27 rfl ?_
      refine wm_iald dX12_cellIn_28 K (by first | rfl | assumption) (by first | decide | omega) (by first | decide | omega) (by decide) (by omega) (by omega) (by repeat (first | assumption | exact upA_eq | (apply upA_ne; first | decide | omega) | (apply SA_at; assumption; first | decide | (simp; omega)) | exact rfl)) (hf _) ?_
      refine wp_istore (pc := 29) dX12_cellIn_29 (by decide) ?_
      refine wp_aload_n (pc := 31) dX12_cellIn_31 rfl ?_
      refine wp_aload_n (pc := 32) dX12_cellIn_32 rfl ?_
      refine wm_get dX12_cellIn_33 gf_X12_39 K (by rfl) ?_
      refine wp_Vs (pc := 36) dX12_cellIn_36 cl_X12_243 (sp_Ref_goHour (T := runT (stl rt) T N i) K (by repeat (first | assumption | exact pv10 | exact pv11 | (apply pv_o; decide; decide) | exact upN_eq | (apply upN_ne; decide) | (apply SV_at; assumption; decide) | exact rfl)) hI2 hH2 (.inr rfl) (by repeat (first | assumption | exact upA_eq | (apply upA_ne; first | decide | omega) | (apply SA_at; assumption; first | decide | (simp; omega)) | exact rfl)) (RuA.cc hu (by repeat (first | assumption | exact pv10 | exact pv11 | (apply pv_o; decide; decide) | exact upN_eq | (apply upN_ne; decide) | (apply SV_at; assumption; decide) | exact rfl)) (by repeat (first | assumption | exact upA_eq | (apply upA_ne; first | decide | omega) | (apply SA_at; assumption; first | decide | (simp; omega)) | exact rfl)) (by repeat (first | assumption | exact upA_eq | (apply upA_ne; first | decide | omega) | (apply SA_at; assumption; first | decide | (simp; omega)) | exact rfl)))) rfl rfl K.1 (by rfl) (by decide) (Nat.le_of_ble_eq_true rfl) (fun hp36 e36 => ?_)
      obtain ⟨⟨V36, A36, rd36, K, sV36, sA36, hA36⟩, O1⟩ := e36; replace O := SO.tr O O1
      replace hA36 : A36 10 = flat (runT (stl rt) T N (i + 1)) := hA36
      refine wp_pop (pc := 39) dX12_cellIn_39 rfl ?_
      refine wp_iload_n (pc := 40) dX12_cellIn_40 rfl ?_
      refine wp_aload_n (pc := 41) dX12_cellIn_41 rfl ?_
      refine wm_get dX12_cellIn_42 gf_X12_39 K (by rfl) ?_
      refine wp_iload_n (pc := 45) dX12_cellIn_45 rfl ?_
      refine wm_iald dX12_cellIn_46 K (by first | rfl | assumption) (by first | decide | omega) (by first | decide | omega) (by decide) (by omega) (by omega) (by repeat (first | assumption | exact upA_eq | (apply upA_ne; first | decide | omega) | (apply SA_at; assumption; first | decide | (simp; omega)) | exact rfl)) (hf _) ?_
      refine wp_iload (pc := 47) dX12_cellIn_47 rfl ?_
      refine wp_icmp_ne (pc := 49) 56 dX12_cellIn_49 (by decide) (by first | omega | exact TI.i5 (by assumption) | exact TI.i3 (by assumption) | exact TI.i2 (by assumption) | exact TI.i1 (by assumption) | exact TI.i0 (by assumption) | exact TI.i4 (by assumption) | exact TI.i6 (by assumption) | exact TI.i7 (by assumption)) (by first | omega | exact TI.i5 (by assumption) | exact TI.i3 (by assumption) | exact TI.i2 (by assumption) | exact TI.i1 (by assumption) | exact TI.i0 (by assumption) | exact TI.i4 (by assumption) | exact TI.i6 (by assumption) | exact TI.i7 (by assumption)) (fun c49 => ?_) (fun c49 => ?_)
      ·
        have e1 : cln (stl rt) T N k x (i + 1) = cln (stl rt) T N k x i + 1 := by show _ + _ = _; rw [if_neg c49]
        skip -- go
        refine wp_iconst (pc := 56) dX12_cellIn_56 ?_
        refine wp_iadd (pc := 57) dX12_cellIn_57 ?_
        refine wp_istore_n (pc := 58) dX12_cellIn_58 (by decide) ?_
        refine wp_iinc (pc := 59) dX12_cellIn_59 rfl (by decide) ?_
        refine wp_goto (pc := 62) 17 dX12_cellIn_62 (by decide) ?_
        refine wp_ls ?_ (ih (i + 1) (by omega) (by omega) _ _ _ _ K O (by repeat (first | assumption | exact pv10 | exact pv11 | (apply pv_o; decide; decide) | exact upN_eq | (apply upN_ne; decide) | (apply SV_at; assumption; decide) | exact rfl)) (by repeat (first | exact SV.rf | assumption | (apply SV.up1; decide) | (apply SV.tr2; assumption; decide))) (by repeat (first | exact SA.rf | assumption | (apply SA.up1; decide) | (apply SA.tr2; assumption; decide))) (by repeat (first | assumption | exact upA_eq | (apply upA_ne; first | decide | omega) | (apply SA_at; assumption; first | decide | (simp; omega)) | exact rfl)))
        rw [e1]
        repeat' (first | exact LE_0 | refine LE_s rfl ?_ | refine LE_s (I_c (by first | omega | (simp only [sm]; omega))) ?_ | refine LE_s (J_c (by first | omega | exact Int.pow_succ _ _ | exact (Int.pow_succ _ _).symm | exact (Int.pow_zero _).symm | (simp only [sm]; omega))) ?_ | refine LE_n ?_)
      ·
        have e1 : cln (stl rt) T N k x (i + 1) = cln (stl rt) T N k x i + 0 := by show _ + _ = _; rw [if_pos c49]
        skip -- go
        refine wp_iconst (pc := 52) dX12_cellIn_52 ?_
        refine wp_goto (pc := 53) 57 dX12_cellIn_53 (by decide) ?_
        refine wp_iadd (pc := 57) dX12_cellIn_57 ?_
        refine wp_istore_n (pc := 58) dX12_cellIn_58 (by decide) ?_
        refine wp_iinc (pc := 59) dX12_cellIn_59 rfl (by decide) ?_
        refine wp_goto (pc := 62) 17 dX12_cellIn_62 (by decide) ?_
        refine wp_ls ?_ (ih (i + 1) (by omega) (by omega) _ _ _ _ K O (by repeat (first | assumption | exact pv10 | exact pv11 | (apply pv_o; decide; decide) | exact upN_eq | (apply upN_ne; decide) | (apply SV_at; assumption; decide) | exact rfl)) (by repeat (first | exact SV.rf | assumption | (apply SV.up1; decide) | (apply SV.tr2; assumption; decide))) (by repeat (first | exact SA.rf | assumption | (apply SA.up1; decide) | (apply SA.tr2; assumption; decide))) (by repeat (first | assumption | exact upA_eq | (apply upA_ne; first | decide | omega) | (apply SA_at; assumption; first | decide | (simp; omega)) | exact rfl)))
        rw [e1]
        repeat' (first | exact LE_0 | refine LE_s rfl ?_ | refine LE_s (I_c (by first | omega | (simp only [sm]; omega))) ?_ | refine LE_s (J_c (by first | omega | exact Int.pow_succ _ _ | exact (Int.pow_succ _ _).symm | exact (Int.pow_zero _).symm | (simp only [sm]; omega))) ?_ | refine LE_n ?_)
theorem sp_Ref_cellIn (hM : MAt hp q 0 N T U tx rw rt hs ss KT) (hI : TI T N) (hH : HS T) (hb : T 7 0 < 1900000000) (hc : 0 ≤ c ∧ c < 103) (hf : ∀ T', flat T' c = T' k x) (hr : ∀ T', TI T' N → InR (T' k x)) (hn : n ≤ 99) : Sp g MX12_cellIn (rm 231 0 0) [.ref q, .int (I c), .int (I (n : Int))] hp (Eff (.int (I (runT (stl rt) T N n k x))) (fun hp2 => MAt hp2 q 0 N T U tx [cln (stl rt) T N k x n] rt hs ss KT ∧ SO hp hp2 q (q + 25))) := by
  have hN := hI.men.2
  refine Sp_mk rfl (Nat.le_of_ble_eq_true rfl) ?_
  show wp g _ _ _ 0 0 0 [some (.ref q), some (.int (I c)), some (.int (I (n : Int))), none, none, none] [] hp
  have O := SO.rf (hp := hp) (lo := q) (hi := q + 25)
  obtain ⟨V, A, rd, K, hth, M⟩ := hM
  have hu := M.ru (q := q)
  have M2 := M
  obtain ⟨m1, mA, mt, mr, mu, mU, mh, ms, mk⟩ := M2
  refine wp_iconst (pc := 0) dX12_cellIn_0 ?_
  refine wp_istore_n (pc := 1) dX12_cellIn_1 (by decide) ?_
  refine wp_aload_n (pc := 2) dX12_cellIn_2 rfl ?_
  refine wm_get dX12_cellIn_3 gf_X12_9 K (by rfl) ?_
  refine wp_aload_n (pc := 6) dX12_cellIn_6 rfl ?_
  refine wm_get dX12_cellIn_7 gf_X12_39 K (by rfl) ?_
  refine wp_iconst (pc := 10) dX12_cellIn_10 ?_
  refine wp_Sn (pc := 11) dX12_cellIn_11 cl_X12_223 (sp_Ref_lay K rfl (by decide) rfl (by decide) (by decide) (by repeat (first | assumption | exact upA_eq | (apply upA_ne; first | decide | omega) | (apply SA_at; assumption; first | decide | (simp; omega)) | exact rfl))) rfl rfl (by decide) (Nat.le_of_ble_eq_true rfl) (fun hp11 e11 => ?_)
  obtain ⟨K, O1⟩ := e11
  replace O := SO.tr O O1
  refine wp_iconst (pc := 14) dX12_cellIn_14 ?_
  refine wp_istore (pc := 15) dX12_cellIn_15 (by decide) ?_
  refine wp_ls ?_ (lp_Ref_cellIn hI hH hb M hc hf hr hn (n + 1) 0 (by omega) (by omega) _ _ _ _ K O (by repeat (first | assumption | exact pv10 | exact pv11 | (apply pv_o; decide; decide) | exact upN_eq | (apply upN_ne; decide) | (apply SV_at; assumption; decide) | exact rfl)) (by repeat (first | exact SV.rf | assumption | (apply SV.up1; decide) | (apply SV.tr2; assumption; decide))) (by repeat (first | exact SA.rf | assumption | (apply SA.up1; decide) | (apply SA.tr2; assumption; decide))) (by repeat (first | assumption | exact upA_eq | (apply upA_ne; first | decide | omega) | (apply SA_at; assumption; first | decide | (simp; omega)) | exact rfl)))
  repeat' (first | exact LE_0 | refine LE_s rfl ?_ | refine LE_s (I_c (by first | omega | (simp only [sm]; omega))) ?_ | refine LE_s (J_c (by first | omega | exact Int.pow_succ _ _ | exact (Int.pow_succ _ _).symm | exact (Int.pow_zero _).symm | (simp only [sm]; omega))) ?_ | refine LE_n ?_)
abbrev thO (N : Nat) (x y z : Int) : Prop := 0 ≤ x ∧ x < N ∧ 0 ≤ y ∧ y < N ∧ x ≠ y ∧ 0 ≤ z ∧ z ≤ 99
theorem sp_Ref_thinks (hM : MAt hp q th N T U tx rw rt hs ss KT) (hI : TI T N) (hH : HS T) (hb : T 7 0 < 1900000000) (rx : InR x) (ry : InR y) (rz : InR z) : Sp g MX12_thinks (rm 232 0 0) [.ref q, .int (I x), .int (I y), .int (I z)] hp (Eff (.int (I (if thO N x y z then runT (stl rt) T N z.toNat 0 (x * 6 + y) else -1))) (fun hp2 => MAt hp2 q 0 N T U tx (if thO N x y z then [cln (stl rt) T N 0 (x * 6 + y) z.toNat] else rw) rt hs ss KT ∧ SO hp hp2 q (q + 25))) := by
  have hN := hI.men.2
  refine Sp_mk rfl (Nat.le_of_ble_eq_true rfl) ?_
  show wp g _ _ _ 0 0 0 [some (.ref q), some (.int (I x)), some (.int (I y)), some (.int (I z))] [] hp
  have O := SO.rf (hp := hp) (lo := q) (hi := q + 25)
  obtain ⟨V, A, rd, K, hth, M⟩ := hM
  have hu := M.ru (q := q)
  have M2 := M
  obtain ⟨m1, mA, mt, mr, mu, mU, mh, ms, mk⟩ := M2
  refine wp_aload_n (pc := 0) dX12_thinks_0 rfl ?_
  refine wp_iconst (pc := 1) dX12_thinks_1 ?_
  refine wm_put dX12_thinks_2 pf_X12_85 K O (by decide) mset_6 rfl rfl (fun hp K O => ?_)
  refine wp_aload_n (pc := 5) dX12_thinks_5 rfl ?_
  refine wp_iload_n (pc := 6) dX12_thinks_6 rfl ?_
  refine wp_iload_n (pc := 7) dX12_thinks_7 rfl ?_
  refine wp_Vp (pc := 8) dX12_thinks_8 cl_X12_212 (sp_Ref_areTwo (by first | assumption | omega | (repeat (first | assumption | exact pv10 | exact pv11 | (apply pv_o; decide; decide) | exact upN_eq | (apply upN_ne; decide) | (apply SV_at; assumption; decide) | exact upA_eq | (apply upA_ne; first | decide | omega) | (apply SA_at; assumption; first | decide | (simp; omega)) | exact rfl))) (by first | assumption | omega | (repeat (first | assumption | exact pv10 | exact pv11 | (apply pv_o; decide; decide) | exact upN_eq | (apply upN_ne; decide) | (apply SV_at; assumption; decide) | exact upA_eq | (apply upA_ne; first | decide | omega) | (apply SA_at; assumption; first | decide | (simp; omega)) | exact rfl))) (by first | assumption | omega | (repeat (first | assumption | exact pv10 | exact pv11 | (apply pv_o; decide; decide) | exact upN_eq | (apply upN_ne; decide) | (apply SV_at; assumption; decide) | exact upA_eq | (apply upA_ne; first | decide | omega) | (apply SA_at; assumption; first | decide | (simp; omega)) | exact rfl))) (by first | assumption | omega | (repeat (first | assumption | exact pv10 | exact pv11 | (apply pv_o; decide; decide) | exact upN_eq | (apply upN_ne; decide) | (apply SV_at; assumption; decide) | exact upA_eq | (apply upA_ne; first | decide | omega) | (apply SA_at; assumption; first | decide | (simp; omega)) | exact rfl))) (by first | assumption | omega | (repeat (first | assumption | exact pv10 | exact pv11 | (apply pv_o; decide; decide) | exact upN_eq | (apply upN_ne; decide) | (apply SV_at; assumption; decide) | exact upA_eq | (apply upA_ne; first | decide | omega) | (apply SA_at; assumption; first | decide | (simp; omega)) | exact rfl)))) rfl rfl K.1 (by rfl) (by decide) (Nat.le_of_ble_eq_true rfl) ?_
  first | refine wp_ifb_eq (pc := 11) 37 dX12_thinks_11 (by decide) (fun c11 => ?_) (fun c11 => ?_) | refine wp_if_eq (pc := 11) 37 dX12_thinks_11 (by decide) (by first | omega | exact TI.i5 (by assumption) | exact TI.i3 (by assumption) | exact TI.i2 (by assumption) | exact TI.i1 (by assumption) | exact TI.i0 (by assumption) | exact TI.i4 (by assumption) | exact TI.i6 (by assumption) | exact TI.i7 (by assumption)) (fun c11 => ?_) (fun c11 => ?_)
  ·
    rw [if_neg (by omega), if_neg (by omega)] -- go
    refine wp_iconst (pc := 37) dX12_thinks_37 ?_
    exact wp_ir (pc := 38) dX12_thinks_38 rfl (by decide) (by decide) (by first | rfl | omega) (by first | exact ⟨K31, O⟩ | exact ⟨⟨_, _, _, K, (by repeat (first | assumption | exact pv10 | exact pv11 | (apply pv_o; decide; decide) | exact upN_eq | (apply upN_ne; decide) | (apply SV_at; assumption; decide) | exact rfl)), M.qu (by repeat (first | exact SV.rf | assumption | (apply SV.up1; decide) | (apply SV.tr2; assumption; decide))) (by repeat (first | exact SA.rf | assumption | (apply SA.up1; decide) | (apply SA.tr2; assumption; decide))) (by first | assumption | exact Mrw.z (by repeat (first | assumption | exact pv10 | exact pv11 | (apply pv_o; decide; decide) | exact upN_eq | (apply upN_ne; decide) | (apply SV_at; assumption; decide) | exact rfl)) | exact Mrw.tr (by assumption) (by repeat (first | assumption | exact pv10 | exact pv11 | (apply pv_o; decide; decide) | exact upN_eq | (apply upN_ne; decide) | (apply SV_at; assumption; decide) | exact rfl)) (by repeat (first | assumption | exact upA_eq | (apply upA_ne; first | decide | omega) | (apply SA_at; assumption; first | decide | (simp; omega)) | exact rfl)))⟩, O⟩)
  ·
    refine wp_iload_n (pc := 14) dX12_thinks_14 rfl ?_
    refine wp_iconst (pc := 15) dX12_thinks_15 ?_
    refine wp_bipush (pc := 16) (y := 99) dX12_thinks_16 (by decide) ?_
    refine wp_Sp (pc := 18) dX12_thinks_18 cl_X12_95 (sp_Ref_in (by first | assumption | omega | (repeat (first | assumption | exact pv10 | exact pv11 | (apply pv_o; decide; decide) | exact upN_eq | (apply upN_ne; decide) | (apply SV_at; assumption; decide) | exact upA_eq | (apply upA_ne; first | decide | omega) | (apply SA_at; assumption; first | decide | (simp; omega)) | exact rfl))) (by first | assumption | omega | (repeat (first | assumption | exact pv10 | exact pv11 | (apply pv_o; decide; decide) | exact upN_eq | (apply upN_ne; decide) | (apply SV_at; assumption; decide) | exact upA_eq | (apply upA_ne; first | decide | omega) | (apply SA_at; assumption; first | decide | (simp; omega)) | exact rfl))) (by first | assumption | omega | (repeat (first | assumption | exact pv10 | exact pv11 | (apply pv_o; decide; decide) | exact upN_eq | (apply upN_ne; decide) | (apply SV_at; assumption; decide) | exact upA_eq | (apply upA_ne; first | decide | omega) | (apply SA_at; assumption; first | decide | (simp; omega)) | exact rfl)))) rfl rfl (by decide) (Nat.le_of_ble_eq_true rfl) ?_
    first | refine wp_ifb_eq (pc := 21) 37 dX12_thinks_21 (by decide) (fun c21 => ?_) (fun c21 => ?_) | refine wp_if_eq (pc := 21) 37 dX12_thinks_21 (by decide) (by first | omega | exact TI.i5 (by assumption) | exact TI.i3 (by assumption) | exact TI.i2 (by assumption) | exact TI.i1 (by assumption) | exact TI.i0 (by assumption) | exact TI.i4 (by assumption) | exact TI.i6 (by assumption) | exact TI.i7 (by assumption)) (fun c21 => ?_) (fun c21 => ?_)
    ·
      rw [if_neg (by omega), if_neg (by omega)] -- go
      refine wp_iconst (pc := 37) dX12_thinks_37 ?_
      exact wp_ir (pc := 38) dX12_thinks_38 rfl (by decide) (by decide) (by first | rfl | omega) (by first | exact ⟨K31, O⟩ | exact ⟨⟨_, _, _, K, (by repeat (first | assumption | exact pv10 | exact pv11 | (apply pv_o; decide; decide) | exact upN_eq | (apply upN_ne; decide) | (apply SV_at; assumption; decide) | exact rfl)), M.qu (by repeat (first | exact SV.rf | assumption | (apply SV.up1; decide) | (apply SV.tr2; assumption; decide))) (by repeat (first | exact SA.rf | assumption | (apply SA.up1; decide) | (apply SA.tr2; assumption; decide))) (by first | assumption | exact Mrw.z (by repeat (first | assumption | exact pv10 | exact pv11 | (apply pv_o; decide; decide) | exact upN_eq | (apply upN_ne; decide) | (apply SV_at; assumption; decide) | exact rfl)) | exact Mrw.tr (by assumption) (by repeat (first | assumption | exact pv10 | exact pv11 | (apply pv_o; decide; decide) | exact upN_eq | (apply upN_ne; decide) | (apply SV_at; assumption; decide) | exact rfl)) (by repeat (first | assumption | exact upA_eq | (apply upA_ne; first | decide | omega) | (apply SA_at; assumption; first | decide | (simp; omega)) | exact rfl)))⟩, O⟩)
    ·
      rw [if_pos (by omega), if_pos (by omega)]
      obtain ⟨n, rfl⟩ := Int.eq_ofNat_of_zero_le c21.1
      rw [Int.toNat_natCast] -- go
      refine wp_aload_n (pc := 24) dX12_thinks_24 rfl ?_
      refine wp_iload_n (pc := 25) dX12_thinks_25 rfl ?_
      refine wp_iload_n (pc := 26) dX12_thinks_26 rfl ?_
      refine wp_Sp (pc := 27) dX12_thinks_27 cl_X12_151 sp_Ref_pair rfl rfl (by decide) (Nat.le_of_ble_eq_true rfl) ?_
      refine wp_iload_n (pc := 30) dX12_thinks_30 rfl ?_
      refine wp_Vs (pc := 31) dX12_thinks_31 cl_X12_300 (sp_Ref_cellIn (n := n) (k := 0) (x := x * 6 + y) ⟨_, _, _, K, (by repeat (first | assumption | exact pv10 | exact pv11 | (apply pv_o; decide; decide) | exact upN_eq | (apply upN_ne; decide) | (apply SV_at; assumption; decide) | exact rfl)), M.qu (by repeat (first | exact SV.rf | assumption | (apply SV.up1; decide) | (apply SV.tr2; assumption; decide))) (by repeat (first | exact SA.rf | assumption | (apply SA.up1; decide) | (apply SA.tr2; assumption; decide))) (by first | assumption | exact Mrw.z (by repeat (first | assumption | exact pv10 | exact pv11 | (apply pv_o; decide; decide) | exact upN_eq | (apply upN_ne; decide) | (apply SV_at; assumption; decide) | exact rfl)) | exact Mrw.tr (by assumption) (by repeat (first | assumption | exact pv10 | exact pv11 | (apply pv_o; decide; decide) | exact upN_eq | (apply upN_ne; decide) | (apply SV_at; assumption; decide) | exact rfl)) (by repeat (first | assumption | exact upA_eq | (apply upA_ne; first | decide | omega) | (apply SA_at; assumption; first | decide | (simp; omega)) | exact rfl)))⟩ hI hH hb (by omega) (fun T' => flat0 (by omega) (by omega)) (fun T' h => h.i0) (by omega)) rfl rfl K.1 (by rfl) (by decide) (Nat.le_of_ble_eq_true rfl) (fun hp31 e31 => ?_)
      obtain ⟨K31, O1⟩ := e31
      replace O := SO.tr O O1
      refine wp_goto (pc := 34) 38 dX12_thinks_34 (by decide) ?_
      exact wp_ir (pc := 38) dX12_thinks_38 rfl (by decide) (by decide) (by first | rfl | omega) (by first | exact ⟨K31, O⟩ | exact ⟨⟨_, _, _, K, (by repeat (first | assumption | exact pv10 | exact pv11 | (apply pv_o; decide; decide) | exact upN_eq | (apply upN_ne; decide) | (apply SV_at; assumption; decide) | exact rfl)), M.qu (by repeat (first | exact SV.rf | assumption | (apply SV.up1; decide) | (apply SV.tr2; assumption; decide))) (by repeat (first | exact SA.rf | assumption | (apply SA.up1; decide) | (apply SA.tr2; assumption; decide))) (by first | assumption | exact Mrw.z (by repeat (first | assumption | exact pv10 | exact pv11 | (apply pv_o; decide; decide) | exact upN_eq | (apply upN_ne; decide) | (apply SV_at; assumption; decide) | exact rfl)) | exact Mrw.tr (by assumption) (by repeat (first | assumption | exact pv10 | exact pv11 | (apply pv_o; decide; decide) | exact upN_eq | (apply upN_ne; decide) | (apply SV_at; assumption; decide) | exact rfl)) (by repeat (first | assumption | exact upA_eq | (apply upA_ne; first | decide | omega) | (apply SA_at; assumption; first | decide | (simp; omega)) | exact rfl)))⟩, O⟩)
theorem sp_Ref_owes (hM : MAt hp q th N T U tx rw rt hs ss KT) (hI : TI T N) (hH : HS T) (hb : T 7 0 < 1900000000) (rx : InR x) (ry : InR y) (rz : InR z) : Sp g MX12_owes (rm 232 0 0) [.ref q, .int (I x), .int (I y), .int (I z)] hp (Eff (.int (I (if thO N x y z then runT (stl rt) T N z.toNat 1 (x * 6 + y) else -1))) (fun hp2 => MAt hp2 q 0 N T U tx (if thO N x y z then [cln (stl rt) T N 1 (x * 6 + y) z.toNat] else rw) rt hs ss KT ∧ SO hp hp2 q (q + 25))) := by
  have hN := hI.men.2
  refine Sp_mk rfl (Nat.le_of_ble_eq_true rfl) ?_
  show wp g _ _ _ 0 0 0 [some (.ref q), some (.int (I x)), some (.int (I y)), some (.int (I z))] [] hp
  have O := SO.rf (hp := hp) (lo := q) (hi := q + 25)
  obtain ⟨V, A, rd, K, hth, M⟩ := hM
  have hu := M.ru (q := q)
  have M2 := M
  obtain ⟨m1, mA, mt, mr, mu, mU, mh, ms, mk⟩ := M2
  refine wp_aload_n (pc := 0) dX12_owes_0 rfl ?_
  refine wp_iconst (pc := 1) dX12_owes_1 ?_
  refine wm_put dX12_owes_2 pf_X12_85 K O (by decide) mset_6 rfl rfl (fun hp K O => ?_)
  refine wp_aload_n (pc := 5) dX12_owes_5 rfl ?_
  refine wp_iload_n (pc := 6) dX12_owes_6 rfl ?_
  refine wp_iload_n (pc := 7) dX12_owes_7 rfl ?_
  refine wp_Vp (pc := 8) dX12_owes_8 cl_X12_212 (sp_Ref_areTwo (by first | assumption | omega | (repeat (first | assumption | exact pv10 | exact pv11 | (apply pv_o; decide; decide) | exact upN_eq | (apply upN_ne; decide) | (apply SV_at; assumption; decide) | exact upA_eq | (apply upA_ne; first | decide | omega) | (apply SA_at; assumption; first | decide | (simp; omega)) | exact rfl))) (by first | assumption | omega | (repeat (first | assumption | exact pv10 | exact pv11 | (apply pv_o; decide; decide) | exact upN_eq | (apply upN_ne; decide) | (apply SV_at; assumption; decide) | exact upA_eq | (apply upA_ne; first | decide | omega) | (apply SA_at; assumption; first | decide | (simp; omega)) | exact rfl))) (by first | assumption | omega | (repeat (first | assumption | exact pv10 | exact pv11 | (apply pv_o; decide; decide) | exact upN_eq | (apply upN_ne; decide) | (apply SV_at; assumption; decide) | exact upA_eq | (apply upA_ne; first | decide | omega) | (apply SA_at; assumption; first | decide | (simp; omega)) | exact rfl))) (by first | assumption | omega | (repeat (first | assumption | exact pv10 | exact pv11 | (apply pv_o; decide; decide) | exact upN_eq | (apply upN_ne; decide) | (apply SV_at; assumption; decide) | exact upA_eq | (apply upA_ne; first | decide | omega) | (apply SA_at; assumption; first | decide | (simp; omega)) | exact rfl))) (by first | assumption | omega | (repeat (first | assumption | exact pv10 | exact pv11 | (apply pv_o; decide; decide) | exact upN_eq | (apply upN_ne; decide) | (apply SV_at; assumption; decide) | exact upA_eq | (apply upA_ne; first | decide | omega) | (apply SA_at; assumption; first | decide | (simp; omega)) | exact rfl)))) rfl rfl K.1 (by rfl) (by decide) (Nat.le_of_ble_eq_true rfl) ?_
  first | refine wp_ifb_eq (pc := 11) 40 dX12_owes_11 (by decide) (fun c11 => ?_) (fun c11 => ?_) | refine wp_if_eq (pc := 11) 40 dX12_owes_11 (by decide) (by first | omega | exact TI.i5 (by assumption) | exact TI.i3 (by assumption) | exact TI.i2 (by assumption) | exact TI.i1 (by assumption) | exact TI.i0 (by assumption) | exact TI.i4 (by assumption) | exact TI.i6 (by assumption) | exact TI.i7 (by assumption)) (fun c11 => ?_) (fun c11 => ?_)
  ·
    rw [if_neg (by omega), if_neg (by omega)] -- go
    refine wp_iconst (pc := 40) dX12_owes_40 ?_
    exact wp_ir (pc := 41) dX12_owes_41 rfl (by decide) (by decide) (by first | rfl | omega) (by first | exact ⟨K34, O⟩ | exact ⟨⟨_, _, _, K, (by repeat (first | assumption | exact pv10 | exact pv11 | (apply pv_o; decide; decide) | exact upN_eq | (apply upN_ne; decide) | (apply SV_at; assumption; decide) | exact rfl)), M.qu (by repeat (first | exact SV.rf | assumption | (apply SV.up1; decide) | (apply SV.tr2; assumption; decide))) (by repeat (first | exact SA.rf | assumption | (apply SA.up1; decide) | (apply SA.tr2; assumption; decide))) (by first | assumption | exact Mrw.z (by repeat (first | assumption | exact pv10 | exact pv11 | (apply pv_o; decide; decide) | exact upN_eq | (apply upN_ne; decide) | (apply SV_at; assumption; decide) | exact rfl)) | exact Mrw.tr (by assumption) (by repeat (first | assumption | exact pv10 | exact pv11 | (apply pv_o; decide; decide) | exact upN_eq | (apply upN_ne; decide) | (apply SV_at; assumption; decide) | exact rfl)) (by repeat (first | assumption | exact upA_eq | (apply upA_ne; first | decide | omega) | (apply SA_at; assumption; first | decide | (simp; omega)) | exact rfl)))⟩, O⟩)
  ·
    refine wp_iload_n (pc := 14) dX12_owes_14 rfl ?_
    refine wp_iconst (pc := 15) dX12_owes_15 ?_
    refine wp_bipush (pc := 16) (y := 99) dX12_owes_16 (by decide) ?_
    refine wp_Sp (pc := 18) dX12_owes_18 cl_X12_95 (sp_Ref_in (by first | assumption | omega | (repeat (first | assumption | exact pv10 | exact pv11 | (apply pv_o; decide; decide) | exact upN_eq | (apply upN_ne; decide) | (apply SV_at; assumption; decide) | exact upA_eq | (apply upA_ne; first | decide | omega) | (apply SA_at; assumption; first | decide | (simp; omega)) | exact rfl))) (by first | assumption | omega | (repeat (first | assumption | exact pv10 | exact pv11 | (apply pv_o; decide; decide) | exact upN_eq | (apply upN_ne; decide) | (apply SV_at; assumption; decide) | exact upA_eq | (apply upA_ne; first | decide | omega) | (apply SA_at; assumption; first | decide | (simp; omega)) | exact rfl))) (by first | assumption | omega | (repeat (first | assumption | exact pv10 | exact pv11 | (apply pv_o; decide; decide) | exact upN_eq | (apply upN_ne; decide) | (apply SV_at; assumption; decide) | exact upA_eq | (apply upA_ne; first | decide | omega) | (apply SA_at; assumption; first | decide | (simp; omega)) | exact rfl)))) rfl rfl (by decide) (Nat.le_of_ble_eq_true rfl) ?_
    first | refine wp_ifb_eq (pc := 21) 40 dX12_owes_21 (by decide) (fun c21 => ?_) (fun c21 => ?_) | refine wp_if_eq (pc := 21) 40 dX12_owes_21 (by decide) (by first | omega | exact TI.i5 (by assumption) | exact TI.i3 (by assumption) | exact TI.i2 (by assumption) | exact TI.i1 (by assumption) | exact TI.i0 (by assumption) | exact TI.i4 (by assumption) | exact TI.i6 (by assumption) | exact TI.i7 (by assumption)) (fun c21 => ?_) (fun c21 => ?_)
    ·
      rw [if_neg (by omega), if_neg (by omega)] -- go
      refine wp_iconst (pc := 40) dX12_owes_40 ?_
      exact wp_ir (pc := 41) dX12_owes_41 rfl (by decide) (by decide) (by first | rfl | omega) (by first | exact ⟨K34, O⟩ | exact ⟨⟨_, _, _, K, (by repeat (first | assumption | exact pv10 | exact pv11 | (apply pv_o; decide; decide) | exact upN_eq | (apply upN_ne; decide) | (apply SV_at; assumption; decide) | exact rfl)), M.qu (by repeat (first | exact SV.rf | assumption | (apply SV.up1; decide) | (apply SV.tr2; assumption; decide))) (by repeat (first | exact SA.rf | assumption | (apply SA.up1; decide) | (apply SA.tr2; assumption; decide))) (by first | assumption | exact Mrw.z (by repeat (first | assumption | exact pv10 | exact pv11 | (apply pv_o; decide; decide) | exact upN_eq | (apply upN_ne; decide) | (apply SV_at; assumption; decide) | exact rfl)) | exact Mrw.tr (by assumption) (by repeat (first | assumption | exact pv10 | exact pv11 | (apply pv_o; decide; decide) | exact upN_eq | (apply upN_ne; decide) | (apply SV_at; assumption; decide) | exact rfl)) (by repeat (first | assumption | exact upA_eq | (apply upA_ne; first | decide | omega) | (apply SA_at; assumption; first | decide | (simp; omega)) | exact rfl)))⟩, O⟩)
    ·
      rw [if_pos (by omega), if_pos (by omega)]
      obtain ⟨n, rfl⟩ := Int.eq_ofNat_of_zero_le c21.1
      rw [Int.toNat_natCast] -- go
      refine wp_aload_n (pc := 24) dX12_owes_24 rfl ?_
      refine wp_bipush (pc := 25) (y := 66) dX12_owes_25 (by decide) ?_
      refine wp_iload_n (pc := 27) dX12_owes_27 rfl ?_
      refine wp_iload_n (pc := 28) dX12_owes_28 rfl ?_
      refine wp_Sp (pc := 29) dX12_owes_29 cl_X12_151 sp_Ref_pair rfl rfl (by decide) (Nat.le_of_ble_eq_true rfl) ?_
      refine wp_iadd (pc := 32) dX12_owes_32 ?_
      refine wp_iload_n (pc := 33) dX12_owes_33 rfl ?_
      refine wp_Vs (pc := 34) dX12_owes_34 cl_X12_300 (sp_Ref_cellIn (n := n) (k := 1) (x := x * 6 + y) ⟨_, _, _, K, (by repeat (first | assumption | exact pv10 | exact pv11 | (apply pv_o; decide; decide) | exact upN_eq | (apply upN_ne; decide) | (apply SV_at; assumption; decide) | exact rfl)), M.qu (by repeat (first | exact SV.rf | assumption | (apply SV.up1; decide) | (apply SV.tr2; assumption; decide))) (by repeat (first | exact SA.rf | assumption | (apply SA.up1; decide) | (apply SA.tr2; assumption; decide))) (by first | assumption | exact Mrw.z (by repeat (first | assumption | exact pv10 | exact pv11 | (apply pv_o; decide; decide) | exact upN_eq | (apply upN_ne; decide) | (apply SV_at; assumption; decide) | exact rfl)) | exact Mrw.tr (by assumption) (by repeat (first | assumption | exact pv10 | exact pv11 | (apply pv_o; decide; decide) | exact upN_eq | (apply upN_ne; decide) | (apply SV_at; assumption; decide) | exact rfl)) (by repeat (first | assumption | exact upA_eq | (apply upA_ne; first | decide | omega) | (apply SA_at; assumption; first | decide | (simp; omega)) | exact rfl)))⟩ hI hH hb (by omega) (fun T' => flat1 (by omega) (by omega)) (fun T' h => h.i1) (by omega)) rfl rfl K.1 (by rfl) (by decide) (Nat.le_of_ble_eq_true rfl) (fun hp34 e34 => ?_)
      obtain ⟨K34, O1⟩ := e34
      replace O := SO.tr O O1
      refine wp_goto (pc := 37) 41 dX12_owes_37 (by decide) ?_
      exact wp_ir (pc := 41) dX12_owes_41 rfl (by decide) (by decide) (by first | rfl | omega) (by first | exact ⟨K34, O⟩ | exact ⟨⟨_, _, _, K, (by repeat (first | assumption | exact pv10 | exact pv11 | (apply pv_o; decide; decide) | exact upN_eq | (apply upN_ne; decide) | (apply SV_at; assumption; decide) | exact rfl)), M.qu (by repeat (first | exact SV.rf | assumption | (apply SV.up1; decide) | (apply SV.tr2; assumption; decide))) (by repeat (first | exact SA.rf | assumption | (apply SA.up1; decide) | (apply SA.tr2; assumption; decide))) (by first | assumption | exact Mrw.z (by repeat (first | assumption | exact pv10 | exact pv11 | (apply pv_o; decide; decide) | exact upN_eq | (apply upN_ne; decide) | (apply SV_at; assumption; decide) | exact rfl)) | exact Mrw.tr (by assumption) (by repeat (first | assumption | exact pv10 | exact pv11 | (apply pv_o; decide; decide) | exact upN_eq | (apply upN_ne; decide) | (apply SV_at; assumption; decide) | exact rfl)) (by repeat (first | assumption | exact upA_eq | (apply upA_ne; first | decide | omega) | (apply SA_at; assumption; first | decide | (simp; omega)) | exact rfl)))⟩, O⟩)
end ML_

