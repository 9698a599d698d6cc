/-! the reference: questions -/
section MK_
variable {g : GT} {hp hp0 : Hp} {q N n a b s k p D : Nat} {V V2 V3 : Nat → Int} {A A2 A3 : Nat → Int → Int} {rd rl : Value} {i j x v c y z w th : Int} {T T2 : Nat → Int → Int} {l t cs tx rw rw2 rt : List Int} {W G f : Int → Int} {U U2 : List (Nat → Int → Int)} {hs : List (Int × Int)} {ss : List (Int × Int × Int)} {KT : Nat → Option (Nat → Int → Int)} {L L2 : List Nat}
def btA (cs : List Int) (T : Nat → Int → Int) (x y z : Int) : Int := if z = 0 then T 0 (x * 6 + y) else if z = 1 then wv cs T x y else T 1 (x * 6 + y)
abbrev btO (N : Nat) (x y z : Int) : Prop := 0 ≤ x ∧ x < N ∧ 0 ≤ y ∧ y < N ∧ x ≠ y ∧ 0 ≤ z ∧ z ≤ 2
theorem sp_Ref_between (hM : MAt hp q th N T U tx rw rt hs ss KT) (hI : TI T N) (rx : InR x) (ry : InR y) (rz : InR z) : Sp g MX12_between (rm 230 0 0) [.ref q, .int (I x), .int (I y), .int (I z)] hp (Eff (.int (I (if btO N x y z then btA (stl rt) T x y z else 0))) (fun hp2 => MAt hp2 q (if btO N x y z then 0 else 1) N T U tx rw rt hs ss KT ∧ SO hp hp2 q (q + 25))) := by
  have hN := hI.men.2
  refine Sp_mk rfl (Nat.le_of_ble_eq_true rfl) ?_
  show wp g _ _ _ 0 0 0 [some (.ref q), some (.int (I x)), some (.int (I y)), some (.int (I z))] [] hp
  have O := SO.rf (hp := hp) (lo := q) (hi := q + 25)
  obtain ⟨V, A, rd, K, hth, M⟩ := hM
  have hu := M.ru (q := q)
  have M2 := M
  obtain ⟨m1, mA, mt, mr, mu, mU, mh, ms, mk⟩ := M2
  refine wp_aload_n (pc := 0) dX12_between_0 rfl ?_
  refine wp_iconst (pc := 1) dX12_between_1 ?_
  refine wm_put dX12_between_2 pf_X12_85 K O (by decide) mset_6 rfl rfl (fun hp K O => ?_)
  refine wp_aload_n (pc := 5) dX12_between_5 rfl ?_
  refine wp_iload_n (pc := 6) dX12_between_6 rfl ?_
  refine wp_iload_n (pc := 7) dX12_between_7 rfl ?_
  refine wp_Vp (pc := 8) dX12_between_8 cl_X12_212 (sp_Ref_areTwo (by first | assumption | omega | (repeat (first | assumption | exact pv10 | exact pv11 | (apply pv_o; decide; decide) | exact upN_eq | (apply upN_ne; decide) | (apply SV_at; assumption; decide) | exact upA_eq | (apply upA_ne; first | decide | omega) | (apply SA_at; assumption; first | decide | (simp; omega)) | exact rfl))) (by first | assumption | omega | (repeat (first | assumption | exact pv10 | exact pv11 | (apply pv_o; decide; decide) | exact upN_eq | (apply upN_ne; decide) | (apply SV_at; assumption; decide) | exact upA_eq | (apply upA_ne; first | decide | omega) | (apply SA_at; assumption; first | decide | (simp; omega)) | exact rfl))) (by first | assumption | omega | (repeat (first | assumption | exact pv10 | exact pv11 | (apply pv_o; decide; decide) | exact upN_eq | (apply upN_ne; decide) | (apply SV_at; assumption; decide) | exact upA_eq | (apply upA_ne; first | decide | omega) | (apply SA_at; assumption; first | decide | (simp; omega)) | exact rfl))) (by first | assumption | omega | (repeat (first | assumption | exact pv10 | exact pv11 | (apply pv_o; decide; decide) | exact upN_eq | (apply upN_ne; decide) | (apply SV_at; assumption; decide) | exact upA_eq | (apply upA_ne; first | decide | omega) | (apply SA_at; assumption; first | decide | (simp; omega)) | exact rfl))) (by first | assumption | omega | (repeat (first | assumption | exact pv10 | exact pv11 | (apply pv_o; decide; decide) | exact upN_eq | (apply upN_ne; decide) | (apply SV_at; assumption; decide) | exact upA_eq | (apply upA_ne; first | decide | omega) | (apply SA_at; assumption; first | decide | (simp; omega)) | exact rfl)))) rfl rfl K.1 (by rfl) (by decide) (Nat.le_of_ble_eq_true rfl) ?_
  first | refine wp_ifb_eq (pc := 11) 23 dX12_between_11 (by decide) (fun c11 => ?_) (fun c11 => ?_) | refine wp_if_eq (pc := 11) 23 dX12_between_11 (by decide) (by first | omega | exact TI.i5 (by assumption) | exact TI.i3 (by assumption) | exact TI.i2 (by assumption) | exact TI.i1 (by assumption) | exact TI.i0 (by assumption) | exact TI.i4 (by assumption) | exact TI.i6 (by assumption) | exact TI.i7 (by assumption)) (fun c11 => ?_) (fun c11 => ?_)
  ·
    rw [if_neg (by omega), if_neg (by omega)] -- go
    refine wp_aload_n (pc := 23) dX12_between_23 rfl ?_
    refine wp_Vs (pc := 24) dX12_between_24 cl_X12_202 (sp_Ref_lost (by first | assumption | omega | (repeat (first | assumption | exact pv10 | exact pv11 | (apply pv_o; decide; decide) | exact upN_eq | (apply upN_ne; decide) | (apply SV_at; assumption; decide) | exact upA_eq | (apply upA_ne; first | decide | omega) | (apply SA_at; assumption; first | decide | (simp; omega)) | exact rfl)))) rfl rfl K.1 (by rfl) (by decide) (Nat.le_of_ble_eq_true rfl) (fun hp24 e24 => ?_)
    obtain ⟨K, O1⟩ := e24
    replace O := SO.tr O O1
    exact wp_ir (pc := 27) dX12_between_27 rfl (by decide) (by decide) (by first | rfl | omega) ⟨⟨_, _, _, K, (by repeat (first | assumption | exact pv10 | exact pv11 | (apply pv_o; decide; decide) | exact upN_eq | (apply upN_ne; decide) | (apply SV_at; assumption; decide) | exact rfl)), M.qu (by repeat (first | exact SV.rf | assumption | (apply SV.up1; decide) | (apply SV.tr2; assumption; decide))) (by repeat (first | exact SA.rf | assumption | (apply SA.up1; decide) | (apply SA.tr2; assumption; decide))) (by first | assumption | exact Mrw.z (by repeat (first | assumption | exact pv10 | exact pv11 | (apply pv_o; decide; decide) | exact upN_eq | (apply upN_ne; decide) | (apply SV_at; assumption; decide) | exact rfl)) | exact Mrw.tr (by assumption) (by repeat (first | assumption | exact pv10 | exact pv11 | (apply pv_o; decide; decide) | exact upN_eq | (apply upN_ne; decide) | (apply SV_at; assumption; decide) | exact rfl)) (by repeat (first | assumption | exact upA_eq | (apply upA_ne; first | decide | omega) | (apply SA_at; assumption; first | decide | (simp; omega)) | exact rfl)))⟩, O⟩
  ·
    first
    | (exfalso; omega)
    | skip
      refine wp_iload_n (pc := 14) dX12_between_14 rfl ?_
      refine wp_iconst (pc := 15) dX12_between_15 ?_
      refine wp_iconst (pc := 16) dX12_between_16 ?_
      refine wp_Sp (pc := 17) dX12_between_17 cl_X12_95 (sp_Ref_in (by first | assumption | omega | (repeat (first | assumption | exact pv10 | exact pv11 | (apply pv_o; decide; decide) | exact upN_eq | (apply upN_ne; decide) | (apply SV_at; assumption; decide) | exact upA_eq | (apply upA_ne; first | decide | omega) | (apply SA_at; assumption; first | decide | (simp; omega)) | exact rfl))) (by first | assumption | omega | (repeat (first | assumption | exact pv10 | exact pv11 | (apply pv_o; decide; decide) | exact upN_eq | (apply upN_ne; decide) | (apply SV_at; assumption; decide) | exact upA_eq | (apply upA_ne; first | decide | omega) | (apply SA_at; assumption; first | decide | (simp; omega)) | exact rfl))) (by first | assumption | omega | (repeat (first | assumption | exact pv10 | exact pv11 | (apply pv_o; decide; decide) | exact upN_eq | (apply upN_ne; decide) | (apply SV_at; assumption; decide) | exact upA_eq | (apply upA_ne; first | decide | omega) | (apply SA_at; assumption; first | decide | (simp; omega)) | exact rfl)))) rfl rfl (by decide) (Nat.le_of_ble_eq_true rfl) ?_
      first | refine wp_ifb_ne (pc := 20) 28 dX12_between_20 (by decide) (fun c20 => ?_) (fun c20 => ?_) | refine wp_if_ne (pc := 20) 28 dX12_between_20 (by decide) (by first | omega | exact TI.i5 (by assumption) | exact TI.i3 (by assumption) | exact TI.i2 (by assumption) | exact TI.i1 (by assumption) | exact TI.i0 (by assumption) | exact TI.i4 (by assumption) | exact TI.i6 (by assumption) | exact TI.i7 (by assumption)) (fun c20 => ?_) (fun c20 => ?_)
      ·
        rw [if_pos (by omega), if_pos (by omega)] -- go
        refine wp_iload_n (pc := 28) dX12_between_28 rfl ?_
        first | refine wp_ifb_ne (pc := 29) 45 dX12_between_29 (by decide) (fun c29 => ?_) (fun c29 => ?_) | refine wp_if_ne (pc := 29) 45 dX12_between_29 (by decide) (by first | omega | exact TI.i5 (by assumption) | exact TI.i3 (by assumption) | exact TI.i2 (by assumption) | exact TI.i1 (by assumption) | exact TI.i0 (by assumption) | exact TI.i4 (by assumption) | exact TI.i6 (by assumption) | exact TI.i7 (by assumption)) (fun c29 => ?_) (fun c29 => ?_)
        ·
          first
          | (exfalso; omega)
          | skip
            refine wp_iload_n (pc := 45) dX12_between_45 rfl ?_
            refine wp_iconst (pc := 46) dX12_between_46 ?_
            refine wp_icmp_ne (pc := 47) 63 dX12_between_47 (by decide) (by first | omega | exact TI.i5 (by assumption) | exact TI.i3 (by assumption) | exact TI.i2 (by assumption) | exact TI.i1 (by assumption) | exact TI.i0 (by assumption) | exact TI.i4 (by assumption) | exact TI.i6 (by assumption) | exact TI.i7 (by assumption)) (by first | omega | exact TI.i5 (by assumption) | exact TI.i3 (by assumption) | exact TI.i2 (by assumption) | exact TI.i1 (by assumption) | exact TI.i0 (by assumption) | exact TI.i4 (by assumption) | exact TI.i6 (by assumption) | exact TI.i7 (by assumption)) (fun c47 => ?_) (fun c47 => ?_)
            ·
              have e : z = 2 := by omega
              subst e -- go
              refine wp_aload_n (pc := 63) dX12_between_63 rfl ?_
              refine wm_get dX12_between_64 gf_X12_9 K (by rfl) ?_
              refine wp_bipush (pc := 67) (y := 66) dX12_between_67 (by decide) ?_
              refine wp_iload_n (pc := 69) dX12_between_69 rfl ?_
              refine wp_iload_n (pc := 70) dX12_between_70 rfl ?_
              refine wp_Sp (pc := 71) dX12_between_71 cl_X12_151 sp_Ref_pair rfl rfl (by decide) (Nat.le_of_ble_eq_true rfl) ?_
              refine wp_iadd (pc := 74) dX12_between_74 ?_
              refine wm_iald dX12_between_75 K (by first | rfl | assumption) (by first | decide | omega) (by first | decide | omega) (by decide) (by omega) (by omega) (by repeat (first | assumption | exact upA_eq | (apply upA_ne; first | decide | omega) | (apply SA_at; assumption; first | decide | (simp; omega)) | exact rfl)) (by first | exact flat5 (by omega) (by omega) | exact flat3 (by omega) (by omega) | exact flat2 (by omega) (by omega) | exact flat6 (by omega) (by omega) | exact flat4 (by omega) (by omega) | exact flat1 (by omega) (by omega) | exact flat0 (by omega) (by omega) | exact flat7 | exact rfl) ?_
              exact wp_ir (pc := 76) dX12_between_76 rfl (by decide) (by decide) (by first | rfl | omega) ⟨⟨_, _, _, K, (by repeat (first | assumption | exact pv10 | exact pv11 | (apply pv_o; decide; decide) | exact upN_eq | (apply upN_ne; decide) | (apply SV_at; assumption; decide) | exact rfl)), M.qu (by repeat (first | exact SV.rf | assumption | (apply SV.up1; decide) | (apply SV.tr2; assumption; decide))) (by repeat (first | exact SA.rf | assumption | (apply SA.up1; decide) | (apply SA.tr2; assumption; decide))) (by first | assumption | exact Mrw.z (by repeat (first | assumption | exact pv10 | exact pv11 | (apply pv_o; decide; decide) | exact upN_eq | (apply upN_ne; decide) | (apply SV_at; assumption; decide) | exact rfl)) | exact Mrw.tr (by assumption) (by repeat (first | assumption | exact pv10 | exact pv11 | (apply pv_o; decide; decide) | exact upN_eq | (apply upN_ne; decide) | (apply SV_at; assumption; decide) | exact rfl)) (by repeat (first | assumption | exact upA_eq | (apply upA_ne; first | decide | omega) | (apply SA_at; assumption; first | decide | (simp; omega)) | exact rfl)))⟩, O⟩
            ·
              subst c47 -- go
              refine wp_aload_n (pc := 50) dX12_between_50 rfl ?_
              refine wp_aload_n (pc := 51) dX12_between_51 rfl ?_
              refine wm_get dX12_between_52 gf_X12_9 K (by rfl) ?_
              refine wp_iload_n (pc := 55) dX12_between_55 rfl ?_
              refine wp_iload_n (pc := 56) dX12_between_56 rfl ?_
              refine wp_Vs (pc := 57) dX12_between_57 cl_X12_216 (sp_Ref_wordsOf K hI (.inl rfl) (by repeat (first | assumption | exact upA_eq | (apply upA_ne; first | decide | omega) | (apply SA_at; assumption; first | decide | (simp; omega)) | exact rfl)) (RuA.cc hu (by repeat (first | assumption | exact pv10 | exact pv11 | (apply pv_o; decide; decide) | exact upN_eq | (apply upN_ne; decide) | (apply SV_at; assumption; decide) | exact rfl)) (by repeat (first | assumption | exact upA_eq | (apply upA_ne; first | decide | omega) | (apply SA_at; assumption; first | decide | (simp; omega)) | exact rfl)) (by repeat (first | assumption | exact upA_eq | (apply upA_ne; first | decide | omega) | (apply SA_at; assumption; first | decide | (simp; omega)) | exact rfl))) (by omega) (by omega)) rfl rfl K.1 (by rfl) (by decide) (Nat.le_of_ble_eq_true rfl) (fun hp57 e57 => ?_)
              obtain ⟨⟨V57, A57, rd57, K, sV57, sA57⟩, O1⟩ := e57; replace O := SO.tr O O1
              refine wp_goto (pc := 60) 76 dX12_between_60 (by decide) ?_
              exact wp_ir (pc := 76) dX12_between_76 rfl (by decide) (by decide) (by first | rfl | omega) ⟨⟨_, _, _, K, (by repeat (first | assumption | exact pv10 | exact pv11 | (apply pv_o; decide; decide) | exact upN_eq | (apply upN_ne; decide) | (apply SV_at; assumption; decide) | exact rfl)), M.qu (by repeat (first | exact SV.rf | assumption | (apply SV.up1; decide) | (apply SV.tr2; assumption; decide))) (by repeat (first | exact SA.rf | assumption | (apply SA.up1; decide) | (apply SA.tr2; assumption; decide))) (by first | assumption | exact Mrw.z (by repeat (first | assumption | exact pv10 | exact pv11 | (apply pv_o; decide; decide) | exact upN_eq | (apply upN_ne; decide) | (apply SV_at; assumption; decide) | exact rfl)) | exact Mrw.tr (by assumption) (by repeat (first | assumption | exact pv10 | exact pv11 | (apply pv_o; decide; decide) | exact upN_eq | (apply upN_ne; decide) | (apply SV_at; assumption; decide) | exact rfl)) (by repeat (first | assumption | exact upA_eq | (apply upA_ne; first | decide | omega) | (apply SA_at; assumption; first | decide | (simp; omega)) | exact rfl)))⟩, O⟩
        ·
          subst c29 -- go
          refine wp_aload_n (pc := 32) dX12_between_32 rfl ?_
          refine wm_get dX12_between_33 gf_X12_9 K (by rfl) ?_
          refine wp_iload_n (pc := 36) dX12_between_36 rfl ?_
          refine wp_iload_n (pc := 37) dX12_between_37 rfl ?_
          refine wp_Sp (pc := 38) dX12_between_38 cl_X12_151 sp_Ref_pair rfl rfl (by decide) (Nat.le_of_ble_eq_true rfl) ?_
          refine wm_iald dX12_between_41 K (by first | rfl | assumption) (by first | decide | omega) (by first | decide | omega) (by decide) (by omega) (by omega) (by repeat (first | assumption | exact upA_eq | (apply upA_ne; first | decide | omega) | (apply SA_at; assumption; first | decide | (simp; omega)) | exact rfl)) (by first | exact flat5 (by omega) (by omega) | exact flat3 (by omega) (by omega) | exact flat2 (by omega) (by omega) | exact flat6 (by omega) (by omega) | exact flat4 (by omega) (by omega) | exact flat1 (by omega) (by omega) | exact flat0 (by omega) (by omega) | exact flat7 | exact rfl) ?_
          refine wp_goto (pc := 42) 76 dX12_between_42 (by decide) ?_
          exact wp_ir (pc := 76) dX12_between_76 rfl (by decide) (by decide) (by first | rfl | omega) ⟨⟨_, _, _, K, (by repeat (first | assumption | exact pv10 | exact pv11 | (apply pv_o; decide; decide) | exact upN_eq | (apply upN_ne; decide) | (apply SV_at; assumption; decide) | exact rfl)), M.qu (by repeat (first | exact SV.rf | assumption | (apply SV.up1; decide) | (apply SV.tr2; assumption; decide))) (by repeat (first | exact SA.rf | assumption | (apply SA.up1; decide) | (apply SA.tr2; assumption; decide))) (by first | assumption | exact Mrw.z (by repeat (first | assumption | exact pv10 | exact pv11 | (apply pv_o; decide; decide) | exact upN_eq | (apply upN_ne; decide) | (apply SV_at; assumption; decide) | exact rfl)) | exact Mrw.tr (by assumption) (by repeat (first | assumption | exact pv10 | exact pv11 | (apply pv_o; decide; decide) | exact upN_eq | (apply upN_ne; decide) | (apply SV_at; assumption; decide) | exact rfl)) (by repeat (first | assumption | exact upA_eq | (apply upA_ne; first | decide | omega) | (apply SA_at; assumption; first | decide | (simp; omega)) | exact rfl)))⟩, O⟩
      ·
        rw [if_neg (by omega), if_neg (by omega)] -- go
        refine wp_aload_n (pc := 23) dX12_between_23 rfl ?_
        refine wp_Vs (pc := 24) dX12_between_24 cl_X12_202 (sp_Ref_lost (by first | assumption | omega | (repeat (first | assumption | exact pv10 | exact pv11 | (apply pv_o; decide; decide) | exact upN_eq | (apply upN_ne; decide) | (apply SV_at; assumption; decide) | exact upA_eq | (apply upA_ne; first | decide | omega) | (apply SA_at; assumption; first | decide | (simp; omega)) | exact rfl)))) rfl rfl K.1 (by rfl) (by decide) (Nat.le_of_ble_eq_true rfl) (fun hp24 e24 => ?_)
        obtain ⟨K, O1⟩ := e24
        replace O := SO.tr O O1
        exact wp_ir (pc := 27) dX12_between_27 rfl (by decide) (by decide) (by first | rfl | omega) ⟨⟨_, _, _, K, (by repeat (first | assumption | exact pv10 | exact pv11 | (apply pv_o; decide; decide) | exact upN_eq | (apply upN_ne; decide) | (apply SV_at; assumption; decide) | exact rfl)), M.qu (by repeat (first | exact SV.rf | assumption | (apply SV.up1; decide) | (apply SV.tr2; assumption; decide))) (by repeat (first | exact SA.rf | assumption | (apply SA.up1; decide) | (apply SA.tr2; assumption; decide))) (by first | assumption | exact Mrw.z (by repeat (first | assumption | exact pv10 | exact pv11 | (apply pv_o; decide; decide) | exact upN_eq | (apply upN_ne; decide) | (apply SV_at; assumption; decide) | exact rfl)) | exact Mrw.tr (by assumption) (by repeat (first | assumption | exact pv10 | exact pv11 | (apply pv_o; decide; decide) | exact upN_eq | (apply upN_ne; decide) | (apply SV_at; assumption; decide) | exact rfl)) (by repeat (first | assumption | exact upA_eq | (apply upA_ne; first | decide | omega) | (apply SA_at; assumption; first | decide | (simp; omega)) | exact rfl)))⟩, O⟩
/-- what the living say of y, one behind another -/
def sdl (cs : List Int) (T : Nat → Int → Int) (y : Int) : Nat → List Int
  | 0 => []
  | i + 1 => if (i : Int) ≠ y ∧ T 5 (i : Int) = 0 then sdl cs T y i ++ [wv cs T i y] else sdl cs T y i
def sds (cs : List Int) (T : Nat → Int → Int) (y : Int) : Nat → Int
  | 0 => 0
  | i + 1 => if (i : Int) ≠ y ∧ T 5 (i : Int) = 0 then sds cs T y i + wv cs T i y else sds cs T y i
theorem sdl_len (cs : List Int) (T : Nat → Int → Int) (y : Int) : ∀ i, (sdl cs T y i).length ≤ i
  | 0 => Nat.le_refl _
  | i + 1 => by
    have := sdl_len cs T y i
    unfold sdl
    split
    · rw [List.length_append]
      show _ + 1 ≤ _
      omega
    · omega
theorem lp_Ref_said (hI : TI T N) (M : MX V A N T U tx rw rt hs ss KT) (hy : 0 ≤ y ∧ y < N) : ∀ (m i : Nat), N < i + m → i ≤ N → ∀ (hp2 : Hp) (V2 : Nat → Int) (A2 : Nat → Int → Int) (rd2 : Value) (K : ModAt hp2 q V2 A2 rd2 (.ref (q + 5))) (O : SO hp hp2 q (q + 25)) (h6 : V2 6 = 0) (sV : SV qV V V2) (sA : SA qA A A2) (hR : Mrw V2 A2 (sdl (stl rt) T y i)), wp g MX12_said (rm 230 0 0) (Eff (.int (I (sds (stl rt) T y N))) (fun hp3 => MAt hp3 q 0 N T U tx (sdl (stl rt) T y N) rt hs ss KT ∧ SO hp hp3 q (q + 25))) 0 0 24 [some (.ref q), some (.int (I y)), some (.int (I (sds (stl rt) T y i))), some (.int (I (i : Int)))] [] hp2 := by
  intro m
  induction m with
  | zero => intro i h1 h2; exact absurd h1 (by omega)
  | succ m ih =>
    intro i h1 h2 hp2 V2 A2 rd2 K O h6 sV sA hR
    have hN := hI.men.2
    have h5 := hI.r5 (i : Int)
    have hu := M.ru (q := q)
    have m1 := M.1
    have mA := M.2.1
    have hw := wv_in (stl rt) T (i : Int) y
    have hll := sdl_len (stl rt) T y i
    refine wp_iload_n (pc := 24) dX12_said_24 rfl ?_
    refine wp_aload_n (pc := 25) dX12_said_25 rfl ?_
    refine wm_gets dX12_said_26 gf_X12_92 K (by rfl) (by repeat (first | assumption | exact pv10 | exact pv11 | (apply pv_o; decide; decide) | exact upN_eq | (apply upN_ne; decide) | (apply SV_at; assumption; decide) | exact rfl)) ?_
    refine wp_icmp_ge (pc := 29) 86 dX12_said_29 (by decide) (by first | omega | exact TI.i5 (by assumption) | exact TI.i3 (by assumption) | exact TI.i2 (by assumption) | exact TI.i1 (by assumption) | exact TI.i0 (by assumption) | exact TI.i4 (by assumption) | exact TI.i6 (by assumption) | exact TI.i7 (by assumption)) (by first | omega | exact TI.i5 (by assumption) | exact TI.i3 (by assumption) | exact TI.i2 (by assumption) | exact TI.i1 (by assumption) | exact TI.i0 (by assumption) | exact TI.i4 (by assumption) | exact TI.i6 (by assumption) | exact TI.i7 (by assumption)) (fun c29 => ?_) (fun c29 => ?_)
    ·
      have e : i = N := by omega
      subst e -- go
      refine wp_iload_n (pc := 86) dX12_said_86 rfl ?_
      exact wp_ir (pc := 87) dX12_said_87 rfl (by decide) (by decide) (by first | rfl | omega) ⟨⟨V2, A2, rd2, K, h6, M.qu sV sA hR⟩, O⟩
    ·
      refine wp_iload_n (pc := 32) dX12_said_32 rfl ?_
      refine wp_iload_n (pc := 33) dX12_said_33 rfl ?_
      refine wp_icmp_eq (pc := 34) 80 dX12_said_34 (by decide) (by first | omega | exact TI.i5 (by assumption) | exact TI.i3 (by assumption) | exact TI.i2 (by assumption) | exact TI.i1 (by assumption) | exact TI.i0 (by assumption) | exact TI.i4 (by assumption) | exact TI.i6 (by assumption) | exact TI.i7 (by assumption)) (by first | omega | exact TI.i5 (by assumption) | exact TI.i3 (by assumption) | exact TI.i2 (by assumption) | exact TI.i1 (by assumption) | exact TI.i0 (by assumption) | exact TI.i4 (by assumption) | exact TI.i6 (by assumption) | exact TI.i7 (by assumption)) (fun c34 => ?_) (fun c34 => ?_)
      ·
        have e1 : sdl (stl rt) T y (i + 1) = sdl (stl rt) T y i := if_neg (by omega)
        have e2 : sds (stl rt) T y (i + 1) = sds (stl rt) T y i := if_neg (by omega)
        rw [← e1] at hR -- go
        refine wp_iinc (pc := 80) dX12_said_80 rfl (by decide) ?_
        refine wp_goto (pc := 83) 24 dX12_said_83 (by decide) ?_
        first
        | refine wp_ls ?_ (ih (i + 1) (by omega) (by omega) _ _ _ _ K O (by repeat (first | assumption | exact pv10 | exact pv11 | (apply pv_o; decide; decide) | exact upN_eq | (apply upN_ne; decide) | (apply SV_at; assumption; decide) | exact rfl)) (by repeat (first | exact SV.rf | assumption | (apply SV.up1; decide) | (apply SV.tr2; assumption; decide))) (by repeat (first | exact SA.rf | assumption | (apply SA.up1; decide) | (apply SA.tr2; assumption; decide))) hR77)
          rw [e2]
          repeat' (first | exact LE_0 | refine LE_s rfl ?_ | refine LE_s (I_c (by first | omega | (simp only [sm]; omega))) ?_ | refine LE_s (J_c (by first | omega | exact Int.pow_succ _ _ | exact (Int.pow_succ _ _).symm | exact (Int.pow_zero _).symm | (simp only [sm]; omega))) ?_ | refine LE_n ?_)
        | refine wp_ls ?_ (ih (i + 1) (by omega) (by omega) _ _ _ _ K O h6 sV sA hR)
          rw [e2]
          repeat' (first | exact LE_0 | refine LE_s rfl ?_ | refine LE_s (I_c (by first | omega | (simp only [sm]; omega))) ?_ | refine LE_s (J_c (by first | omega | exact Int.pow_succ _ _ | exact (Int.pow_succ _ _).symm | exact (Int.pow_zero _).symm | (simp only [sm]; omega))) ?_ | refine LE_n ?_)
      ·
        refine wp_aload_n (pc := 37) dX12_said_37 rfl ?_
        refine wm_get dX12_said_38 gf_X12_9 K (by rfl) ?_
        refine wp_bipush (pc := 41) (y := 54) dX12_said_41 (by decide) ?_
        refine wp_iload_n (pc := 43) dX12_said_43 rfl ?_
        refine wp_iadd (pc := 44) dX12_said_44 ?_
        refine wm_iald dX12_said_45 K (by first | rfl | assumption) (by first | decide | omega) (by first | decide | omega) (by decide) (by omega) (by omega) (by repeat (first | assumption | exact upA_eq | (apply upA_ne; first | decide | omega) | (apply SA_at; assumption; first | decide | (simp; omega)) | exact rfl)) (by first | exact flat5 (by omega) (by omega) | exact flat3 (by omega) (by omega) | exact flat2 (by omega) (by omega) | exact flat6 (by omega) (by omega) | exact flat4 (by omega) (by omega) | exact flat1 (by omega) (by omega) | exact flat0 (by omega) (by omega) | exact flat7 | exact rfl) ?_
        refine wp_if_le (pc := 46) 52 dX12_said_46 (by decide) (by first | omega | exact TI.i5 (by assumption) | exact TI.i3 (by assumption) | exact TI.i2 (by assumption) | exact TI.i1 (by assumption) | exact TI.i0 (by assumption) | exact TI.i4 (by assumption) | exact TI.i6 (by assumption) | exact TI.i7 (by assumption)) (fun c46 => ?_) (fun c46 => ?_)
        ·
          have e1 : sdl (stl rt) T y (i + 1) = sdl (stl rt) T y i ++ [wv (stl rt) T i y] := if_pos (by omega)
          have e2 : sds (stl rt) T y (i + 1) = sds (stl rt) T y i + wv (stl rt) T i y := if_pos (by omega)
          skip -- go
          refine wp_iload_n (pc := 52) dX12_said_52 rfl ?_
          refine wp_aload_n (pc := 53) dX12_said_53 rfl ?_
          refine wp_aload_n (pc := 54) dX12_said_54 rfl ?_
          refine wm_get dX12_said_55 gf_X12_9 K (by rfl) ?_
          refine wp_iload_n (pc := 58) dX12_said_58 rfl ?_
          refine wp_iload_n (pc := 59) dX12_said_59 rfl ?_
          refine wp_Vs (pc := 60) dX12_said_60 cl_X12_216 (sp_Ref_wordsOf K hI (.inl rfl) (by repeat (first | assumption | exact upA_eq | (apply upA_ne; first | decide | omega) | (apply SA_at; assumption; first | decide | (simp; omega)) | exact rfl)) (RuA.cc hu (by repeat (first | assumption | exact pv10 | exact pv11 | (apply pv_o; decide; decide) | exact upN_eq | (apply upN_ne; decide) | (apply SV_at; assumption; decide) | exact rfl)) (by repeat (first | assumption | exact upA_eq | (apply upA_ne; first | decide | omega) | (apply SA_at; assumption; first | decide | (simp; omega)) | exact rfl)) (by repeat (first | assumption | exact upA_eq | (apply upA_ne; first | decide | omega) | (apply SA_at; assumption; first | decide | (simp; omega)) | exact rfl))) (by omega) (by omega)) rfl rfl K.1 (by rfl) (by decide) (Nat.le_of_ble_eq_true rfl) (fun hp60 e60 => ?_)
          obtain ⟨⟨V60, A60, rd60, K, sV60, sA60⟩, O1⟩ := e60; replace O := SO.tr O O1
          refine wp_iadd (pc := 63) dX12_said_63 ?_
          refine wp_istore_n (pc := 64) dX12_said_64 (by decide) ?_
          refine wp_aload_n (pc := 65) dX12_said_65 rfl ?_
          refine wp_aload_n (pc := 66) dX12_said_66 rfl ?_
          refine wp_aload_n (pc := 67) dX12_said_67 rfl ?_
          refine wm_get dX12_said_68 gf_X12_9 K (by rfl) ?_
          refine wp_iload_n (pc := 71) dX12_said_71 rfl ?_
          refine wp_iload_n (pc := 72) dX12_said_72 rfl ?_
          refine wp_Vs (pc := 73) dX12_said_73 cl_X12_216 (sp_Ref_wordsOf K hI (.inl rfl) (by repeat (first | assumption | exact upA_eq | (apply upA_ne; first | decide | omega) | (apply SA_at; assumption; first | decide | (simp; omega)) | exact rfl)) (RuA.cc hu (by repeat (first | assumption | exact pv10 | exact pv11 | (apply pv_o; decide; decide) | exact upN_eq | (apply upN_ne; decide) | (apply SV_at; assumption; decide) | exact rfl)) (by repeat (first | assumption | exact upA_eq | (apply upA_ne; first | decide | omega) | (apply SA_at; assumption; first | decide | (simp; omega)) | exact rfl)) (by repeat (first | assumption | exact upA_eq | (apply upA_ne; first | decide | omega) | (apply SA_at; assumption; first | decide | (simp; omega)) | exact rfl))) (by omega) (by omega)) rfl rfl K.1 (by rfl) (by decide) (Nat.le_of_ble_eq_true rfl) (fun hp73 e73 => ?_)
          obtain ⟨⟨V73, A73, rd73, K, sV73, sA73⟩, O1⟩ := e73; replace O := SO.tr O O1
          refine wp_i2l (pc := 76) dX12_said_76 (by first | omega | exact TI.i5 (by assumption) | exact TI.i3 (by assumption) | exact TI.i2 (by assumption) | exact TI.i1 (by assumption) | exact TI.i0 (by assumption) | exact TI.i4 (by assumption) | exact TI.i6 (by assumption) | exact TI.i7 (by assumption)) ?_
          refine wp_Vn (pc := 77) dX12_said_77 cl_X12_253 (sp_Ref_tellR K (Mrw.tr hR (by repeat (first | assumption | exact pv10 | exact pv11 | (apply pv_o; decide; decide) | exact upN_eq | (apply upN_ne; decide) | (apply SV_at; assumption; decide) | exact rfl)) (by repeat (first | assumption | exact upA_eq | (apply upA_ne; first | decide | omega) | (apply SA_at; assumption; first | decide | (simp; omega)) | exact rfl))) (by omega)) rfl rfl K.1 (by rfl) (by decide) (Nat.le_of_ble_eq_true rfl) (fun hp77 e77 => ?_)
          obtain ⟨⟨V77, A77, K, sV77, sA77, hR77⟩, O1⟩ := e77; replace O := SO.tr O O1
          rw [← e1] at hR77
          refine wp_iinc (pc := 80) dX12_said_80 rfl (by decide) ?_
          refine wp_goto (pc := 83) 24 dX12_said_83 (by decide) ?_
          first
          | refine wp_ls ?_ (ih (i + 1) (by omega) (by omega) _ _ _ _ K O (by repeat (first | assumption | exact pv10 | exact pv11 | (apply pv_o; decide; decide) | exact upN_eq | (apply upN_ne; decide) | (apply SV_at; assumption; decide) | exact rfl)) (by repeat (first | exact SV.rf | assumption | (apply SV.up1; decide) | (apply SV.tr2; assumption; decide))) (by repeat (first | exact SA.rf | assumption | (apply SA.up1; decide) | (apply SA.tr2; assumption; decide))) hR77)
            rw [e2]
            repeat' (first | exact LE_0 | refine LE_s rfl ?_ | refine LE_s (I_c (by first | omega | (simp only [sm]; omega))) ?_ | refine LE_s (J_c (by first | omega | exact Int.pow_succ _ _ | exact (Int.pow_succ _ _).symm | exact (Int.pow_zero _).symm | (simp only [sm]; omega))) ?_ | refine LE_n ?_)
          | refine wp_ls ?_ (ih (i + 1) (by omega) (by omega) _ _ _ _ K O h6 sV sA hR)
            rw [e2]
            repeat' (first | exact LE_0 | refine LE_s rfl ?_ | refine LE_s (I_c (by first | omega | (simp only [sm]; omega))) ?_ | refine LE_s (J_c (by first | omega | exact Int.pow_succ _ _ | exact (Int.pow_succ _ _).symm | exact (Int.pow_zero _).symm | (simp only [sm]; omega))) ?_ | refine LE_n ?_)
        ·
          have e1 : sdl (stl rt) T y (i + 1) = sdl (stl rt) T y i := if_neg (by omega)
          have e2 : sds (stl rt) T y (i + 1) = sds (stl rt) T y i := if_neg (by omega)
          rw [← e1] at hR -- go
          refine wp_goto (pc := 49) 80 dX12_said_49 (by decide) ?_
          refine wp_iinc (pc := 80) dX12_said_80 rfl (by decide) ?_
          refine wp_goto (pc := 83) 24 dX12_said_83 (by decide) ?_
          first
          | refine wp_ls ?_ (ih (i + 1) (by omega) (by omega) _ _ _ _ K O (by repeat (first | assumption | exact pv10 | exact pv11 | (apply pv_o; decide; decide) | exact upN_eq | (apply upN_ne; decide) | (apply SV_at; assumption; decide) | exact rfl)) (by repeat (first | exact SV.rf | assumption | (apply SV.up1; decide) | (apply SV.tr2; assumption; decide))) (by repeat (first | exact SA.rf | assumption | (apply SA.up1; decide) | (apply SA.tr2; assumption; decide))) hR77)
            rw [e2]
            repeat' (first | exact LE_0 | refine LE_s rfl ?_ | refine LE_s (I_c (by first | omega | (simp only [sm]; omega))) ?_ | refine LE_s (J_c (by first | omega | exact Int.pow_succ _ _ | exact (Int.pow_succ _ _).symm | exact (Int.pow_zero _).symm | (simp only [sm]; omega))) ?_ | refine LE_n ?_)
          | refine wp_ls ?_ (ih (i + 1) (by omega) (by omega) _ _ _ _ K O h6 sV sA hR)
            rw [e2]
            repeat' (first | exact LE_0 | refine LE_s rfl ?_ | refine LE_s (I_c (by first | omega | (simp only [sm]; omega))) ?_ | refine LE_s (J_c (by first | omega | exact Int.pow_succ _ _ | exact (Int.pow_succ _ _).symm | exact (Int.pow_zero _).symm | (simp only [sm]; omega))) ?_ | refine LE_n ?_)
theorem sp_Ref_said (hM : MAt hp q th N T U tx rw rt hs ss KT) (hI : TI T N) (ry : InR y) : Sp g MX12_said (rm 230 0 0) [.ref q, .int (I y)] hp (Eff (.int (I (if 0 ≤ y ∧ y < N then sds (stl rt) T y N else -1))) (fun hp2 => MAt hp2 q 0 N T U tx (if 0 ≤ y ∧ y < N then sdl (stl rt) T y N else rw) rt hs ss KT ∧ SO hp hp2 q (q + 25))) := by
  have hN := hI.men.2
  refine Sp_mk rfl (Nat.le_of_ble_eq_true rfl) ?_
  show wp g _ _ _ 0 0 0 [some (.ref q), some (.int (I y)), none, none] [] hp
  have O := SO.rf (hp := hp) (lo := q) (hi := q + 25)
  obtain ⟨V, A, rd, K, hth, M⟩ := hM
  have hu := M.ru (q := q)
  have M2 := M
  obtain ⟨m1, mA, mt, mr, mu, mU, mh, ms, mk⟩ := M2
  refine wp_aload_n (pc := 0) dX12_said_0 rfl ?_
  refine wp_iconst (pc := 1) dX12_said_1 ?_
  refine wm_put dX12_said_2 pf_X12_85 K O (by decide) mset_6 rfl rfl (fun hp K O => ?_)
  refine wp_aload_n (pc := 5) dX12_said_5 rfl ?_
  refine wp_iload_n (pc := 6) dX12_said_6 rfl ?_
  refine wp_Vp (pc := 7) dX12_said_7 cl_X12_99 (sp_Ref_isMan (by first | assumption | omega | (repeat (first | assumption | exact pv10 | exact pv11 | (apply pv_o; decide; decide) | exact upN_eq | (apply upN_ne; decide) | (apply SV_at; assumption; decide) | exact upA_eq | (apply upA_ne; first | decide | omega) | (apply SA_at; assumption; first | decide | (simp; omega)) | exact rfl))) (by first | assumption | omega | (repeat (first | assumption | exact pv10 | exact pv11 | (apply pv_o; decide; decide) | exact upN_eq | (apply upN_ne; decide) | (apply SV_at; assumption; decide) | exact upA_eq | (apply upA_ne; first | decide | omega) | (apply SA_at; assumption; first | decide | (simp; omega)) | exact rfl))) (by first | assumption | omega | (repeat (first | assumption | exact pv10 | exact pv11 | (apply pv_o; decide; decide) | exact upN_eq | (apply upN_ne; decide) | (apply SV_at; assumption; decide) | exact upA_eq | (apply upA_ne; first | decide | omega) | (apply SA_at; assumption; first | decide | (simp; omega)) | exact rfl))) (by first | assumption | omega | (repeat (first | assumption | exact pv10 | exact pv11 | (apply pv_o; decide; decide) | exact upN_eq | (apply upN_ne; decide) | (apply SV_at; assumption; decide) | exact upA_eq | (apply upA_ne; first | decide | omega) | (apply SA_at; assumption; first | decide | (simp; omega)) | exact rfl)))) rfl rfl K.1 (by rfl) (by decide) (Nat.le_of_ble_eq_true rfl) ?_
  first | refine wp_ifb_ne (pc := 10) 15 dX12_said_10 (by decide) (fun c10 => ?_) (fun c10 => ?_) | refine wp_if_ne (pc := 10) 15 dX12_said_10 (by decide) (by first | omega | exact TI.i5 (by assumption) | exact TI.i3 (by assumption) | exact TI.i2 (by assumption) | exact TI.i1 (by assumption) | exact TI.i0 (by assumption) | exact TI.i4 (by assumption) | exact TI.i6 (by assumption) | exact TI.i7 (by assumption)) (fun c10 => ?_) (fun c10 => ?_)
  ·
    rw [if_pos c10, if_pos c10] -- go
    refine wp_iconst (pc := 15) dX12_said_15 ?_
    refine wp_istore_n (pc := 16) dX12_said_16 (by decide) ?_
    refine wp_aload_n (pc := 17) dX12_said_17 rfl ?_
    refine wp_iconst (pc := 18) dX12_said_18 ?_
    refine wm_put dX12_said_19 pf_X12_89 K O (by decide) mset_5 rfl rfl (fun hp K O => ?_)
    refine wp_iconst (pc := 22) dX12_said_22 ?_
    refine wp_istore_n (pc := 23) dX12_said_23 (by decide) ?_
    refine wp_ls ?_ (lp_Ref_said hI M c10 (N + 1) 0 (by omega) (by omega) _ _ _ _ K O (by repeat (first | assumption | exact pv10 | exact pv11 | (apply pv_o; decide; decide) | exact upN_eq | (apply upN_ne; decide) | (apply SV_at; assumption; decide) | exact rfl)) (by repeat (first | exact SV.rf | assumption | (apply SV.up1; decide) | (apply SV.tr2; assumption; decide))) (by repeat (first | exact SA.rf | assumption | (apply SA.up1; decide) | (apply SA.tr2; assumption; decide))) (by first | assumption | exact Mrw.z (by repeat (first | assumption | exact pv10 | exact pv11 | (apply pv_o; decide; decide) | exact upN_eq | (apply upN_ne; decide) | (apply SV_at; assumption; decide) | exact rfl)) | exact Mrw.tr (by assumption) (by repeat (first | assumption | exact pv10 | exact pv11 | (apply pv_o; decide; decide) | exact upN_eq | (apply upN_ne; decide) | (apply SV_at; assumption; decide) | exact rfl)) (by repeat (first | assumption | exact upA_eq | (apply upA_ne; first | decide | omega) | (apply SA_at; assumption; first | decide | (simp; omega)) | exact rfl))))
    repeat' (first | exact LE_0 | refine LE_s rfl ?_ | refine LE_s (I_c (by first | omega | (simp only [sm]; omega))) ?_ | refine LE_s (J_c (by first | omega | exact Int.pow_succ _ _ | exact (Int.pow_succ _ _).symm | exact (Int.pow_zero _).symm | (simp only [sm]; omega))) ?_ | refine LE_n ?_)
  ·
    rw [if_neg c10, if_neg c10] -- go
    refine wp_iconst (pc := 13) dX12_said_13 ?_
    exact wp_ir (pc := 14) dX12_said_14 rfl (by decide) (by decide) (by first | rfl | omega) ⟨⟨_, _, _, K, (by repeat (first | assumption | exact pv10 | exact pv11 | (apply pv_o; decide; decide) | exact upN_eq | (apply upN_ne; decide) | (apply SV_at; assumption; decide) | exact rfl)), M.qu (by repeat (first | exact SV.rf | assumption | (apply SV.up1; decide) | (apply SV.tr2; assumption; decide))) (by repeat (first | exact SA.rf | assumption | (apply SA.up1; decide) | (apply SA.tr2; assumption; decide))) (by first | assumption | exact Mrw.z (by repeat (first | assumption | exact pv10 | exact pv11 | (apply pv_o; decide; decide) | exact upN_eq | (apply upN_ne; decide) | (apply SV_at; assumption; decide) | exact rfl)) | exact Mrw.tr (by assumption) (by repeat (first | assumption | exact pv10 | exact pv11 | (apply pv_o; decide; decide) | exact upN_eq | (apply upN_ne; decide) | (apply SV_at; assumption; decide) | exact rfl)) (by repeat (first | assumption | exact upA_eq | (apply upA_ne; first | decide | omega) | (apply SA_at; assumption; first | decide | (simp; omega)) | exact rfl)))⟩, O⟩
/-! later -/
def tab (f : Int → Int) : Nat → List Int
  | 0 => []
  | n + 1 => tab f n ++ [f n]
theorem tab_len (f : Int → Int) : ∀ n, (tab f n).length = n
  | 0 => rfl
  | n + 1 => by show (tab f n ++ [f n]).length = _; rw [List.length_append, tab_len f n]; rfl
theorem lp_Ref_later (hI : TI T2 N) (M : MX V A N T U tx rw rt hs ss KT) (hx : 0 ≤ x ∧ x < N) : ∀ (m i : Nat), N < i + m → i ≤ N → ∀ (hp2 : Hp) (V2 : Nat → Int) (A2 : Nat → Int → Int) (rd2 : Value) (K : ModAt hp2 q V2 A2 rd2 (.ref (q + 5))) (O : SO hp hp2 q (q + 25)) (h6 : V2 6 = 0) (sV : SV qV V V2) (sA : SA qA A A2) (hR : Mrw V2 A2 (tab (T2 3) i)) (hA2 : A2 10 = flat T2), wp g MX12_later (rm 232 0 0) (Eff (.int (I (T2 3 x))) (fun hp3 => MAt hp3 q 0 N T U tx (tab (T2 3) N) rt hs ss KT ∧ SO hp hp3 q (q + 25))) 0 0 54 [some (.ref q), some (.int (I x)), none, some (.int (I (i : Int)))] [] hp2 := by
  intro m
  induction m with
  | zero => intro i h1 h2; exact absurd h1 (by omega)
  | succ m ih =>
    intro i h1 h2 hp2 V2 A2 rd2 K O h6 sV sA hR hA2
    have hN := hI.men.2
    have hll := tab_len (T2 3) i
    have m1 := M.1
    refine wp_iload_n (pc := 54) dX12_later_54 rfl ?_
    refine wp_aload_n (pc := 55) dX12_later_55 rfl ?_
    refine wm_gets dX12_later_56 gf_X12_92 K (by rfl) (by repeat (first | assumption | exact pv10 | exact pv11 | (apply pv_o; decide; decide) | exact upN_eq | (apply upN_ne; decide) | (apply SV_at; assumption; decide) | exact rfl)) ?_
    refine wp_icmp_ge (pc := 59) 82 dX12_later_59 (by decide) (by first | omega | exact TI.i5 (by assumption) | exact TI.i3 (by assumption) | exact TI.i2 (by assumption) | exact TI.i1 (by assumption) | exact TI.i0 (by assumption) | exact TI.i4 (by assumption) | exact TI.i6 (by assumption) | exact TI.i7 (by assumption)) (by first | omega | exact TI.i5 (by assumption) | exact TI.i3 (by assumption) | exact TI.i2 (by assumption) | exact TI.i1 (by assumption) | exact TI.i0 (by assumption) | exact TI.i4 (by assumption) | exact TI.i6 (by assumption) | exact TI.i7 (by assumption)) (fun c59 => ?_) (fun c59 => ?_)
    ·
      have e : i = N := by omega
      subst e -- go
      refine wp_aload_n (pc := 82) dX12_later_82 rfl ?_
      refine wm_get dX12_later_83 gf_X12_39 K (by rfl) ?_
      refine wp_bipush (pc := 86) (y := 42) dX12_later_86 (by decide) ?_
      refine wp_iload_n (pc := 88) dX12_later_88 rfl ?_
      refine wp_iadd (pc := 89) dX12_later_89 ?_
      refine wm_iald dX12_later_90 K (by first | rfl | assumption) (by first | decide | omega) (by first | decide | omega) (by decide) (by omega) (by omega) (by repeat (first | assumption | exact upA_eq | (apply upA_ne; first | decide | omega) | (apply SA_at; assumption; first | decide | (simp; omega)) | exact rfl)) (by first | exact flat5 (by omega) (by omega) | exact flat3 (by omega) (by omega) | exact flat2 (by omega) (by omega) | exact flat6 (by omega) (by omega) | exact flat4 (by omega) (by omega) | exact flat1 (by omega) (by omega) | exact flat0 (by omega) (by omega) | exact flat7 | exact rfl) ?_
      exact wp_ir (pc := 91) dX12_later_91 rfl (by decide) (by decide) (by first | rfl | omega) ⟨⟨V2, A2, rd2, K, h6, M.qu sV sA hR⟩, O⟩
    ·
      refine wp_aload_n (pc := 62) dX12_later_62 rfl ?_
      refine wp_aload_n (pc := 63) dX12_later_63 rfl ?_
      refine wm_get dX12_later_64 gf_X12_39 K (by rfl) ?_
      refine wp_bipush (pc := 67) (y := 42) dX12_later_67 (by decide) ?_
      refine wp_iload_n (pc := 69) dX12_later_69 rfl ?_
      refine wp_iadd (pc := 70) dX12_later_70 ?_
      refine wm_iald dX12_later_71 K (by first | rfl | assumption) (by first | decide | omega) (by first | decide | omega) (by decide) (by omega) (by omega) (by repeat (first | assumption | exact upA_eq | (apply upA_ne; first | decide | omega) | (apply SA_at; assumption; first | decide | (simp; omega)) | exact rfl)) (by first | exact flat5 (by omega) (by omega) | exact flat3 (by omega) (by omega) | exact flat2 (by omega) (by omega) | exact flat6 (by omega) (by omega) | exact flat4 (by omega) (by omega) | exact flat1 (by omega) (by omega) | exact flat0 (by omega) (by omega) | exact flat7 | exact rfl) ?_
      refine wp_i2l (pc := 72) dX12_later_72 (by first | omega | exact TI.i5 (by assumption) | exact TI.i3 (by assumption) | exact TI.i2 (by assumption) | exact TI.i1 (by assumption) | exact TI.i0 (by assumption) | exact TI.i4 (by assumption) | exact TI.i6 (by assumption) | exact TI.i7 (by assumption)) ?_
      refine wp_Vn (pc := 73) dX12_later_73 cl_X12_253 (sp_Ref_tellR K hR (by omega)) rfl rfl K.1 (by rfl) (by decide) (Nat.le_of_ble_eq_true rfl) (fun hp73 e73 => ?_)
      obtain ⟨⟨V73, A73, K, sV73, sA73, hR73⟩, O1⟩ := e73; replace O := SO.tr O O1
      refine wp_iinc (pc := 76) dX12_later_76 rfl (by decide) ?_
      refine wp_goto (pc := 79) 54 dX12_later_79 (by decide) ?_
      refine wp_ls ?_ (ih (i + 1) (by omega) (by omega) _ _ _ _ K O (by repeat (first | assumption | exact pv10 | exact pv11 | (apply pv_o; decide; decide) | exact upN_eq | (apply upN_ne; decide) | (apply SV_at; assumption; decide) | exact rfl)) (by repeat (first | exact SV.rf | assumption | (apply SV.up1; decide) | (apply SV.tr2; assumption; decide))) (by repeat (first | exact SA.rf | assumption | (apply SA.up1; decide) | (apply SA.tr2; assumption; decide))) hR73 (by repeat (first | assumption | exact upA_eq | (apply upA_ne; first | decide | omega) | (apply SA_at; assumption; first | decide | (simp; omega)) | exact rfl)))
      repeat' (first | exact LE_0 | refine LE_s rfl ?_ | refine LE_s (I_c (by first | omega | (simp only [sm]; omega))) ?_ | refine LE_s (J_c (by first | omega | exact Int.pow_succ _ _ | exact (Int.pow_succ _ _).symm | exact (Int.pow_zero _).symm | (simp only [sm]; omega))) ?_ | refine LE_n ?_)
abbrev laO (N : Nat) (x y : Int) : Prop := 0 ≤ x ∧ x < N ∧ 0 ≤ y ∧ y ≤ 99
theorem sp_Ref_later (hM : MAt hp q th N T U tx rw rt hs ss KT) (hI : TI T N) (hH : HS T) (hb : T 7 0 < 1900000000) (rx : InR x) (ry : InR y) : Sp g MX12_later (rm 232 0 0) [.ref q, .int (I x), .int (I y)] hp (Eff (.int (I (if laO N x y then runT (stl rt) T N y.toNat 3 x else -1))) (fun hp2 => MAt hp2 q 0 N T U tx (if laO N x y then tab (runT (stl rt) T N y.toNat 3) N else rw) rt hs ss KT ∧ SO hp hp2 q (q + 25))) := by
  have hN := hI.men.2
  refine Sp_mk rfl (Nat.le_of_ble_eq_true rfl) ?_
  show wp g _ _ _ 0 0 0 [some (.ref q), some (.int (I x)), some (.int (I y)), none] [] hp
  have O := SO.rf (hp := hp) (lo := q) (hi := q + 25)
  obtain ⟨V, A, rd, K, hth, M⟩ := hM
  have hu := M.ru (q := q)
  have M2 := M
  obtain ⟨m1, mA, mt, mr, mu, mU, mh, ms, mk⟩ := M2
  refine wp_aload_n (pc := 0) dX12_later_0 rfl ?_
  refine wp_iconst (pc := 1) dX12_later_1 ?_
  refine wm_put dX12_later_2 pf_X12_85 K O (by decide) mset_6 rfl rfl (fun hp K O => ?_)
  refine wp_aload_n (pc := 5) dX12_later_5 rfl ?_
  refine wp_iload_n (pc := 6) dX12_later_6 rfl ?_
  refine wp_Vp (pc := 7) dX12_later_7 cl_X12_99 (sp_Ref_isMan (by first | assumption | omega | (repeat (first | assumption | exact pv10 | exact pv11 | (apply pv_o; decide; decide) | exact upN_eq | (apply upN_ne; decide) | (apply SV_at; assumption; decide) | exact upA_eq | (apply upA_ne; first | decide | omega) | (apply SA_at; assumption; first | decide | (simp; omega)) | exact rfl))) (by first | assumption | omega | (repeat (first | assumption | exact pv10 | exact pv11 | (apply pv_o; decide; decide) | exact upN_eq | (apply upN_ne; decide) | (apply SV_at; assumption; decide) | exact upA_eq | (apply upA_ne; first | decide | omega) | (apply SA_at; assumption; first | decide | (simp; omega)) | exact rfl))) (by first | assumption | omega | (repeat (first | assumption | exact pv10 | exact pv11 | (apply pv_o; decide; decide) | exact upN_eq | (apply upN_ne; decide) | (apply SV_at; assumption; decide) | exact upA_eq | (apply upA_ne; first | decide | omega) | (apply SA_at; assumption; first | decide | (simp; omega)) | exact rfl))) (by first | assumption | omega | (repeat (first | assumption | exact pv10 | exact pv11 | (apply pv_o; decide; decide) | exact upN_eq | (apply upN_ne; decide) | (apply SV_at; assumption; decide) | exact upA_eq | (apply upA_ne; first | decide | omega) | (apply SA_at; assumption; first | decide | (simp; omega)) | exact rfl)))) rfl rfl K.1 (by rfl) (by decide) (Nat.le_of_ble_eq_true rfl) ?_
  first | refine wp_ifb_eq (pc := 10) 23 dX12_later_10 (by decide) (fun c10 => ?_) (fun c10 => ?_) | refine wp_if_eq (pc := 10) 23 dX12_later_10 (by decide) (by first | omega | exact TI.i5 (by assumption) | exact TI.i3 (by assumption) | exact TI.i2 (by assumption) | exact TI.i1 (by assumption) | exact TI.i0 (by assumption) | exact TI.i4 (by assumption) | exact TI.i6 (by assumption) | exact TI.i7 (by assumption)) (fun c10 => ?_) (fun c10 => ?_)
  ·
    rw [if_neg (by omega), if_neg (by omega)] -- go
    refine wp_iconst (pc := 23) dX12_later_23 ?_
    exact wp_ir (pc := 24) dX12_later_24 rfl (by decide) (by decide) (by first | rfl | omega) ⟨⟨_, _, _, K, (by repeat (first | assumption | exact pv10 | exact pv11 | (apply pv_o; decide; decide) | exact upN_eq | (apply upN_ne; decide) | (apply SV_at; assumption; decide) | exact rfl)), M.qu (by repeat (first | exact SV.rf | assumption | (apply SV.up1; decide) | (apply SV.tr2; assumption; decide))) (by repeat (first | exact SA.rf | assumption | (apply SA.up1; decide) | (apply SA.tr2; assumption; decide))) (by first | assumption | exact Mrw.z (by repeat (first | assumption | exact pv10 | exact pv11 | (apply pv_o; decide; decide) | exact upN_eq | (apply upN_ne; decide) | (apply SV_at; assumption; decide) | exact rfl)) | exact Mrw.tr (by assumption) (by repeat (first | assumption | exact pv10 | exact pv11 | (apply pv_o; decide; decide) | exact upN_eq | (apply upN_ne; decide) | (apply SV_at; assumption; decide) | exact rfl)) (by repeat (first | assumption | exact upA_eq | (apply upA_ne; first | decide | omega) | (apply SA_at; assumption; first | decide | (simp; omega)) | exact rfl)))⟩, O⟩
  ·
    refine wp_iload_n (pc := 13) dX12_later_13 rfl ?_
    refine wp_iconst (pc := 14) dX12_later_14 ?_
    refine wp_bipush (pc := 15) (y := 99) dX12_later_15 (by decide) ?_
    refine wp_Sp (pc := 17) dX12_later_17 cl_X12_95 (sp_Ref_in (by first | assumption | omega | (repeat (first | assumption | exact pv10 | exact pv11 | (apply pv_o; decide; decide) | exact upN_eq | (apply upN_ne; decide) | (apply SV_at; assumption; decide) | exact upA_eq | (apply upA_ne; first | decide | omega) | (apply SA_at; assumption; first | decide | (simp; omega)) | exact rfl))) (by first | assumption | omega | (repeat (first | assumption | exact pv10 | exact pv11 | (apply pv_o; decide; decide) | exact upN_eq | (apply upN_ne; decide) | (apply SV_at; assumption; decide) | exact upA_eq | (apply upA_ne; first | decide | omega) | (apply SA_at; assumption; first | decide | (simp; omega)) | exact rfl))) (by first | assumption | omega | (repeat (first | assumption | exact pv10 | exact pv11 | (apply pv_o; decide; decide) | exact upN_eq | (apply upN_ne; decide) | (apply SV_at; assumption; decide) | exact upA_eq | (apply upA_ne; first | decide | omega) | (apply SA_at; assumption; first | decide | (simp; omega)) | exact rfl)))) rfl rfl (by decide) (Nat.le_of_ble_eq_true rfl) ?_
    first | refine wp_ifb_ne (pc := 20) 25 dX12_later_20 (by decide) (fun c20 => ?_) (fun c20 => ?_) | refine wp_if_ne (pc := 20) 25 dX12_later_20 (by decide) (by first | omega | exact TI.i5 (by assumption) | exact TI.i3 (by assumption) | exact TI.i2 (by assumption) | exact TI.i1 (by assumption) | exact TI.i0 (by assumption) | exact TI.i4 (by assumption) | exact TI.i6 (by assumption) | exact TI.i7 (by assumption)) (fun c20 => ?_) (fun c20 => ?_)
    ·
      rw [if_pos (by omega), if_pos (by omega)]
      obtain ⟨n, rfl⟩ := Int.eq_ofNat_of_zero_le c20.1
      have hI2 := runT_I (cs := stl rt) hI n (by omega)
      rw [Int.toNat_natCast] -- go
      refine wp_aload_n (pc := 25) dX12_later_25 rfl ?_
      refine wm_get dX12_later_26 gf_X12_9 K (by rfl) ?_
      refine wp_aload_n (pc := 29) dX12_later_29 rfl ?_
      refine wm_get dX12_later_30 gf_X12_39 K (by rfl) ?_
      refine wp_iconst (pc := 33) dX12_later_33 ?_
      refine wp_Sn (pc := 34) dX12_later_34 cl_X12_223 (sp_Ref_lay K rfl (by decide) rfl (by decide) (by decide) (by repeat (first | assumption | exact upA_eq | (apply upA_ne; first | decide | omega) | (apply SA_at; assumption; first | decide | (simp; omega)) | exact rfl))) rfl rfl (by decide) (Nat.le_of_ble_eq_true rfl) (fun hp34 e34 => ?_)
      obtain ⟨K, O1⟩ := e34
      replace O := SO.tr O O1
      refine wp_aload_n (pc := 37) dX12_later_37 rfl ?_
      refine wp_aload_n (pc := 38) dX12_later_38 rfl ?_
      refine wm_get dX12_later_39 gf_X12_39 K (by rfl) ?_
      refine wp_iload_n (pc := 42) dX12_later_42 rfl ?_
      refine wp_Vs (pc := 43) dX12_later_43 cl_X12_250 (sp_Ref_goHours (n := n) K (by repeat (first | assumption | exact pv10 | exact pv11 | (apply pv_o; decide; decide) | exact upN_eq | (apply upN_ne; decide) | (apply SV_at; assumption; decide) | exact rfl)) hI hH (.inr rfl) (by repeat (first | assumption | exact upA_eq | (apply upA_ne; first | decide | omega) | (apply SA_at; assumption; first | decide | (simp; omega)) | exact rfl)) (RuA.cc hu (by repeat (first | assumption | exact pv10 | exact pv11 | (apply pv_o; decide; decide) | exact upN_eq | (apply upN_ne; decide) | (apply SV_at; assumption; decide) | exact rfl)) (by repeat (first | assumption | exact upA_eq | (apply upA_ne; first | decide | omega) | (apply SA_at; assumption; first | decide | (simp; omega)) | exact rfl)) (by repeat (first | assumption | exact upA_eq | (apply upA_ne; first | decide | omega) | (apply SA_at; assumption; first | decide | (simp; omega)) | exact rfl))) (by omega) (by omega)) rfl rfl K.1 (by rfl) (by decide) (Nat.le_of_ble_eq_true rfl) (fun hp43 e43 => ?_)
      obtain ⟨⟨V43, A43, rd43, K, sV43, sA43, hA43⟩, O1⟩ := e43; replace O := SO.tr O O1
      refine wp_pop (pc := 46) dX12_later_46 rfl ?_
      refine wp_aload_n (pc := 47) dX12_later_47 rfl ?_
      refine wp_iconst (pc := 48) dX12_later_48 ?_
      refine wm_put dX12_later_49 pf_X12_89 K O (by decide) mset_5 rfl rfl (fun hp K O => ?_)
      refine wp_iconst (pc := 52) dX12_later_52 ?_
      refine wp_istore_n (pc := 53) dX12_later_53 (by decide) ?_
      refine wp_ls ?_ (lp_Ref_later hI2 M c10 (N + 1) 0 (by omega) (by omega) _ _ _ _ K O (by repeat (first | assumption | exact pv10 | exact pv11 | (apply pv_o; decide; decide) | exact upN_eq | (apply upN_ne; decide) | (apply SV_at; assumption; decide) | exact rfl)) (by repeat (first | exact SV.rf | assumption | (apply SV.up1; decide) | (apply SV.tr2; assumption; decide))) (by repeat (first | exact SA.rf | assumption | (apply SA.up1; decide) | (apply SA.tr2; assumption; decide))) (by first | assumption | exact Mrw.z (by repeat (first | assumption | exact pv10 | exact pv11 | (apply pv_o; decide; decide) | exact upN_eq | (apply upN_ne; decide) | (apply SV_at; assumption; decide) | exact rfl)) | exact Mrw.tr (by assumption) (by repeat (first | assumption | exact pv10 | exact pv11 | (apply pv_o; decide; decide) | exact upN_eq | (apply upN_ne; decide) | (apply SV_at; assumption; decide) | exact rfl)) (by repeat (first | assumption | exact upA_eq | (apply upA_ne; first | decide | omega) | (apply SA_at; assumption; first | decide | (simp; omega)) | exact rfl))) (by repeat (first | assumption | exact upA_eq | (apply upA_ne; first | decide | omega) | (apply SA_at; assumption; first | decide | (simp; omega)) | exact rfl)))
      repeat' (first | exact LE_0 | refine LE_s rfl ?_ | refine LE_s (I_c (by first | omega | (simp only [sm]; omega))) ?_ | refine LE_s (J_c (by first | omega | exact Int.pow_succ _ _ | exact (Int.pow_succ _ _).symm | exact (Int.pow_zero _).symm | (simp only [sm]; omega))) ?_ | refine LE_n ?_)
    ·
      rw [if_neg (by omega), if_neg (by omega)] -- go
      refine wp_iconst (pc := 23) dX12_later_23 ?_
      exact wp_ir (pc := 24) dX12_later_24 rfl (by decide) (by decide) (by first | rfl | omega) ⟨⟨_, _, _, K, (by repeat (first | assumption | exact pv10 | exact pv11 | (apply pv_o; decide; decide) | exact upN_eq | (apply upN_ne; decide) | (apply SV_at; assumption; decide) | exact rfl)), M.qu (by repeat (first | exact SV.rf | assumption | (apply SV.up1; decide) | (apply SV.tr2; assumption; decide))) (by repeat (first | exact SA.rf | assumption | (apply SA.up1; decide) | (apply SA.tr2; assumption; decide))) (by first | assumption | exact Mrw.z (by repeat (first | assumption | exact pv10 | exact pv11 | (apply pv_o; decide; decide) | exact upN_eq | (apply upN_ne; decide) | (apply SV_at; assumption; decide) | exact rfl)) | exact Mrw.tr (by assumption) (by repeat (first | assumption | exact pv10 | exact pv11 | (apply pv_o; decide; decide) | exact upN_eq | (apply upN_ne; decide) | (apply SV_at; assumption; decide) | exact rfl)) (by repeat (first | assumption | exact upA_eq | (apply upA_ne; first | decide | omega) | (apply SA_at; assumption; first | decide | (simp; omega)) | exact rfl)))⟩, O⟩
end MK_

