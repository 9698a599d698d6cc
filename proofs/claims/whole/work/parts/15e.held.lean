/-! the reference: its readers, walked -/
section ME
variable {g : GT} {hp hp0 : Hp} {q N n a s k p tp f L ln : Nat} {V V2 : Nat → Int} {A A2 : Nat → Int → Int} {rd rl : Value} {i j x v b c y dep : Int} {T : Nat → Int → Int} {l : List Int} {e : Int → Int}
theorem NX_h (h : byl l) : NX (hr l 40) (min l.length 40) := NX_L h
theorem sp_Ref_thing (K : ModAt hp q (pv V p (-1)) A rd rl) (R : RdL A V q rd l 40) (hA : AK V A e) (hL : dep = 4 - (L : Int)) (h0 : 0 ≤ dep) (hf : min l.length 40 ≤ p + f) (hE : ∀ L', L = L' + 1 → EvS g q V A rd rl (min l.length 40) MX12_held (45*L'+48) (eE (hr l 40) e L') (dep + 1)) (hM : ∀ f', f = f' + 1 → ∀ hp, ModAt hp q (pv V (p + 1) (-1)) A rd rl → p + 1 ≤ min l.length 40 → Sp g MX12_thing (rm (45*L+f'+4) 0 0) [.ref q, .int (I dep)] hp (Eff (.int (I (eT (hr l 40) (thL (hr l 40) e L) f' (p + 1)).2.2)) (fun hp2 => ModAt hp2 q (pv V (eT (hr l 40) (thL (hr l 40) e L) f' (p + 1)).2.1 (pw (eT (hr l 40) (thL (hr l 40) e L) f' (p + 1)))) A rd rl ∧ SO hp hp2 q (q + 25)))) (hGE : ∀ L', L = L' + 1 → GE (min l.length 40) (eE (hr l 40) e L')) (hpl : p ≤ min l.length 40) : Sp g MX12_thing (rm (45*L+f+4) 0 0) [.ref q, .int (I dep)] hp (Eff (.int (I (eT (hr l 40) (thL (hr l 40) e L) f p).2.2)) (fun hp2 => ModAt hp2 q (pv V (eT (hr l 40) (thL (hr l 40) e L) f p).2.1 (pw (eT (hr l 40) (thL (hr l 40) e L) f p))) A rd rl ∧ SO hp hp2 q (q + 25))) := by
  have hn := NX_h R.bb
  have hh := (hn.2 p).2
  have hlt := hn.lt (p := p)
  refine Sp_mk rfl (Nat.le_of_ble_eq_true rfl) ?_
  show wp g _ _ _ 0 0 0 [some (.ref q), some (.int (I dep)), none, none] [] hp
  have O := SO.rf (hp := hp) (lo := q) (hi := q + 25)
  refine wp_aload_n (pc := 0) dX12_thing_0 rfl ?_
  refine wp_bipush (pc := 1) (y := 45) dX12_thing_1 (by decide) ?_
  refine wp_Vs (pc := 3) dX12_thing_3 cl_X12_133 (sp_Ref_passes (by first | assumption | omega | (repeat (first | assumption | exact pv10 | exact pv11 | refine pv_o (by decide) (by decide) ?_ | exact upN_eq | refine upN_ne (by decide) ?_ | exact upA_eq | refine upA_ne (by first | decide | omega) ?_ | refine SV_at (by assumption) (by decide) ?_ | refine SA_at (by assumption) (by first | decide | (simp; omega)) ?_ | exact rfl))) (by first | assumption | omega | (repeat (first | assumption | exact pv10 | exact pv11 | refine pv_o (by decide) (by decide) ?_ | exact upN_eq | refine upN_ne (by decide) ?_ | exact upA_eq | refine upA_ne (by first | decide | omega) ?_ | refine SV_at (by assumption) (by decide) ?_ | refine SA_at (by assumption) (by first | decide | (simp; omega)) ?_ | exact rfl))) (by first | assumption | omega | (repeat (first | assumption | exact pv10 | exact pv11 | refine pv_o (by decide) (by decide) ?_ | exact upN_eq | refine upN_ne (by decide) ?_ | exact upA_eq | refine upA_ne (by first | decide | omega) ?_ | refine SV_at (by assumption) (by decide) ?_ | refine SA_at (by assumption) (by first | decide | (simp; omega)) ?_ | exact rfl))) (by first | assumption | omega | (repeat (first | assumption | exact pv10 | exact pv11 | refine pv_o (by decide) (by decide) ?_ | exact upN_eq | refine upN_ne (by decide) ?_ | exact upA_eq | refine upA_ne (by first | decide | omega) ?_ | refine SV_at (by assumption) (by decide) ?_ | refine SA_at (by assumption) (by first | decide | (simp; omega)) ?_ | exact rfl))) (by first | assumption | omega | (repeat (first | assumption | exact pv10 | exact pv11 | refine pv_o (by decide) (by decide) ?_ | exact upN_eq | refine upN_ne (by decide) ?_ | exact upA_eq | refine upA_ne (by first | decide | omega) ?_ | refine SV_at (by assumption) (by decide) ?_ | refine SA_at (by assumption) (by first | decide | (simp; omega)) ?_ | exact rfl)))) rfl rfl K.1 (by rfl) (rm_ok (by omega) (by decide)) (Nat.le_of_ble_eq_true rfl) (fun hp3 e3 => ?_)
  obtain ⟨K, O1⟩ := e3
  replace O := SO.tr O O1
  first | refine wp_ifb_eq (pc := 6) 16 dX12_thing_6 (by decide) (fun c6 => ?_) (fun c6 => ?_) | refine wp_if_eq (pc := 6) 16 dX12_thing_6 (by decide) (by first | omega | exact TI.i5 (by assumption) | exact TI.i3 (by assumption) | exact TI.i2 (by assumption) | exact TI.i1 (by assumption) | exact TI.i0 (by assumption) | exact TI.i4 (by assumption) | exact TI.i6 (by assumption) | exact TI.i7 (by assumption)) (fun c6 => ?_) (fun c6 => ?_)
  ·
    have hm : ¬ hr l 40 p = 45 := fun z => c6 ⟨rfl, z⟩
    rw [if_neg c6] at K
    rw [eT_no hm] -- go
    refine wp_aload_n (pc := 16) dX12_thing_16 rfl ?_
    refine wp_Vp (pc := 17) dX12_thing_17 cl_X12_125 (sp_Ref_fine (by first | assumption | omega | (repeat (first | assumption | exact pv10 | exact pv11 | refine pv_o (by decide) (by decide) ?_ | exact upN_eq | refine upN_ne (by decide) ?_ | exact upA_eq | refine upA_ne (by first | decide | omega) ?_ | refine SV_at (by assumption) (by decide) ?_ | refine SA_at (by assumption) (by first | decide | (simp; omega)) ?_ | exact rfl))) (by first | assumption | omega | (repeat (first | assumption | exact pv10 | exact pv11 | refine pv_o (by decide) (by decide) ?_ | exact upN_eq | refine upN_ne (by decide) ?_ | exact upA_eq | refine upA_ne (by first | decide | omega) ?_ | refine SV_at (by assumption) (by decide) ?_ | refine SA_at (by assumption) (by first | decide | (simp; omega)) ?_ | exact rfl)))) rfl rfl K.1 (by rfl) (rm_ok (by omega) (by decide)) (Nat.le_of_ble_eq_true rfl) ?_
    first | refine wp_ifb_ne (pc := 20) 25 dX12_thing_20 (by decide) (fun c20 => ?_) (fun c20 => ?_) | refine wp_if_ne (pc := 20) 25 dX12_thing_20 (by decide) (by first | omega | exact TI.i5 (by assumption) | exact TI.i3 (by assumption) | exact TI.i2 (by assumption) | exact TI.i1 (by assumption) | exact TI.i0 (by assumption) | exact TI.i4 (by assumption) | exact TI.i6 (by assumption) | exact TI.i7 (by assumption)) (fun c20 => ?_) (fun c20 => ?_)
    ·
      first
      | (exfalso; omega)
      | skip
        refine wp_aload_n (pc := 25) dX12_thing_25 rfl ?_
        refine wp_Vp (pc := 26) dX12_thing_26 cl_X12_129 (sp_Ref_here (by first | assumption | omega | (repeat (first | assumption | exact pv10 | exact pv11 | refine pv_o (by decide) (by decide) ?_ | exact upN_eq | refine upN_ne (by decide) ?_ | exact upA_eq | refine upA_ne (by first | decide | omega) ?_ | refine SV_at (by assumption) (by decide) ?_ | refine SA_at (by assumption) (by first | decide | (simp; omega)) ?_ | exact rfl))) (by first | assumption | omega | (repeat (first | assumption | exact pv10 | exact pv11 | refine pv_o (by decide) (by decide) ?_ | exact upN_eq | refine upN_ne (by decide) ?_ | exact upA_eq | refine upA_ne (by first | decide | omega) ?_ | refine SV_at (by assumption) (by decide) ?_ | refine SA_at (by assumption) (by first | decide | (simp; omega)) ?_ | exact rfl))) (by first | assumption | omega | (repeat (first | assumption | exact pv10 | exact pv11 | refine pv_o (by decide) (by decide) ?_ | exact upN_eq | refine upN_ne (by decide) ?_ | exact upA_eq | refine upA_ne (by first | decide | omega) ?_ | refine SV_at (by assumption) (by decide) ?_ | refine SA_at (by assumption) (by first | decide | (simp; omega)) ?_ | exact rfl)))) rfl rfl K.1 (by rfl) (rm_ok (by omega) (by decide)) (Nat.le_of_ble_eq_true rfl) ?_
        refine wp_istore_n (pc := 29) dX12_thing_29 (by decide) ?_
        refine wp_iload_n (pc := 30) dX12_thing_30 rfl ?_
        refine wp_bipush (pc := 31) (y := 40) dX12_thing_31 (by decide) ?_
        refine wp_icmp_ne (pc := 33) 67 dX12_thing_33 (by decide) (by first | omega | exact TI.i5 (by assumption) | exact TI.i3 (by assumption) | exact TI.i2 (by assumption) | exact TI.i1 (by assumption) | exact TI.i0 (by assumption) | exact TI.i4 (by assumption) | exact TI.i6 (by assumption) | exact TI.i7 (by assumption)) (by first | omega | exact TI.i5 (by assumption) | exact TI.i3 (by assumption) | exact TI.i2 (by assumption) | exact TI.i1 (by assumption) | exact TI.i0 (by assumption) | exact TI.i4 (by assumption) | exact TI.i6 (by assumption) | exact TI.i7 (by assumption)) (fun c33 => ?_) (fun c33 => ?_)
        ·
          first
          | (exfalso; omega)
          | skip
            refine wp_iload_n (pc := 67) dX12_thing_67 rfl ?_
            refine wp_bipush (pc := 68) (y := 48) dX12_thing_68 (by decide) ?_
            refine wp_bipush (pc := 70) (y := 57) dX12_thing_70 (by decide) ?_
            refine wp_Sp (pc := 72) dX12_thing_72 cl_X12_95 (sp_Ref_in (by first | assumption | omega | (repeat (first | assumption | exact pv10 | exact pv11 | refine pv_o (by decide) (by decide) ?_ | exact upN_eq | refine upN_ne (by decide) ?_ | exact upA_eq | refine upA_ne (by first | decide | omega) ?_ | refine SV_at (by assumption) (by decide) ?_ | refine SA_at (by assumption) (by first | decide | (simp; omega)) ?_ | exact rfl))) (by first | assumption | omega | (repeat (first | assumption | exact pv10 | exact pv11 | refine pv_o (by decide) (by decide) ?_ | exact upN_eq | refine upN_ne (by decide) ?_ | exact upA_eq | refine upA_ne (by first | decide | omega) ?_ | refine SV_at (by assumption) (by decide) ?_ | refine SA_at (by assumption) (by first | decide | (simp; omega)) ?_ | exact rfl))) (by first | assumption | omega | (repeat (first | assumption | exact pv10 | exact pv11 | refine pv_o (by decide) (by decide) ?_ | exact upN_eq | refine upN_ne (by decide) ?_ | exact upA_eq | refine upA_ne (by first | decide | omega) ?_ | refine SV_at (by assumption) (by decide) ?_ | refine SA_at (by assumption) (by first | decide | (simp; omega)) ?_ | exact rfl)))) rfl rfl (rm_ok (by omega) (by decide)) (Nat.le_of_ble_eq_true rfl) ?_
            first | refine wp_ifb_eq (pc := 75) 84 dX12_thing_75 (by decide) (fun c75 => ?_) (fun c75 => ?_) | refine wp_if_eq (pc := 75) 84 dX12_thing_75 (by decide) (by first | omega | exact TI.i5 (by assumption) | exact TI.i3 (by assumption) | exact TI.i2 (by assumption) | exact TI.i1 (by assumption) | exact TI.i0 (by assumption) | exact TI.i4 (by assumption) | exact TI.i6 (by assumption) | exact TI.i7 (by assumption)) (fun c75 => ?_) (fun c75 => ?_)
            ·
              have nd : ¬ (48 ≤ hr l 40 p ∧ hr l 40 p ≤ 57) := c75 -- go
              refine wp_iload_n (pc := 84) dX12_thing_84 rfl ?_
              refine wp_Sp (pc := 85) dX12_thing_85 cl_X12_181 (sp_Ref_letterOf (by first | assumption | omega | (repeat (first | assumption | exact pv10 | exact pv11 | refine pv_o (by decide) (by decide) ?_ | exact upN_eq | refine upN_ne (by decide) ?_ | exact upA_eq | refine upA_ne (by first | decide | omega) ?_ | refine SV_at (by assumption) (by decide) ?_ | refine SA_at (by assumption) (by first | decide | (simp; omega)) ?_ | exact rfl)))) rfl rfl (rm_ok (by omega) (by decide)) (Nat.le_of_ble_eq_true rfl) ?_
              refine wp_iconst (pc := 88) dX12_thing_88 ?_
              refine wp_icmp_ne (pc := 89) 102 dX12_thing_89 (by decide) (by first | omega | unfold ltrOf; repeat' split <;> omega) (by first | omega | unfold ltrOf; repeat' split <;> omega) (fun c89 => ?_) (fun c89 => ?_)
              ·
                have ht := ltr_in c89
                have hla := hlt (by rcases ht with h | h | h | h | h | h <;> omega)
                rw [thL_is nd ht] -- go
                refine wp_aload_n (pc := 102) dX12_thing_102 rfl ?_
                refine wp_dup (pc := 103) dX12_thing_103 rfl ?_
                refine wm_gets dX12_thing_104 gf_X12_115 K (by rfl) (by repeat (first | assumption | exact pv10 | exact pv11 | refine pv_o (by decide) (by decide) ?_ | exact upN_eq | refine upN_ne (by decide) ?_ | refine SV_at (by assumption) (by decide) ?_ | exact rfl)) ?_
                refine wp_iconst (pc := 107) dX12_thing_107 ?_
                refine wp_iadd (pc := 108) dX12_thing_108 ?_
                refine wm_put dX12_thing_109 pf_X12_115 K O (by decide) mset_10 rfl rfl (fun hp K O => ?_)
                try rw [pv_at] at K
                refine wp_aload_n (pc := 112) dX12_thing_112 rfl ?_
                rcases hA with ⟨h16, h0'⟩ | ⟨h16, hA7⟩
                · refine wm_gets (pc := 113) dX12_thing_113 gf_X12_184 K (by rfl) (pv_o (by decide) (by decide) h16) ?_
                  refine wp_if_eq (pc := 116) 131 dX12_thing_116 (by decide) (by omega) (fun c116 => ?_) (fun c116 => absurd rfl c116)
                  refine wp_iconst (pc := 131) dX12_thing_131 ?_
                  exact wp_ir (pc := 132) dX12_thing_132 rfl (Nat.le_refl 0) (Nat.le_refl 0) (h0' _).symm ⟨K, O⟩
                · refine wm_gets (pc := 113) dX12_thing_113 gf_X12_184 K (by rfl) (pv_o (by decide) (by decide) h16) ?_
                  refine wp_if_eq (pc := 116) 131 dX12_thing_116 (by decide) (by omega) (fun c116 => absurd c116 (by decide)) (fun c116 => ?_)
                  have ha7 := AK_at hA7 ht
                  refine wp_aload_n (pc := 119) dX12_thing_119 rfl ?_
                  refine wm_get (pc := 120) dX12_thing_120 gf_X12_30 K (by rfl) ?_
                  refine wp_iload_n (pc := 123) dX12_thing_123 rfl ?_
                  refine wp_Sp (pc := 124) dX12_thing_124 cl_X12_181 (sp_Ref_letterOf (by omega)) rfl rfl (rm_ok (by omega) (by decide)) (Nat.le_of_ble_eq_true rfl) ?_
                  refine wm_iald (pc := 127) dX12_thing_127 K (by rfl) (by decide) (by decide) (by decide) ha7.1 ha7.2.1 rfl ha7.2.2 ?_
                  refine wp_goto (pc := 128) 132 dX12_thing_128 (by decide) ?_
                  exact wp_ir (pc := 132) dX12_thing_132 rfl (Nat.le_refl 0) (Nat.le_refl 0) rfl ⟨K, O⟩
              ·
                rw [thL_no nd (ltr_no c89) (fun z => by omega)] -- go
                refine wp_aload_n (pc := 92) dX12_thing_92 rfl ?_
                refine wp_aload_n (pc := 93) dX12_thing_93 rfl ?_
                refine wm_gets dX12_thing_94 gf_X12_115 K (by rfl) (by repeat (first | assumption | exact pv10 | exact pv11 | refine pv_o (by decide) (by decide) ?_ | exact upN_eq | refine upN_ne (by decide) ?_ | refine SV_at (by assumption) (by decide) ?_ | exact rfl)) ?_
                refine wp_Vn (pc := 97) dX12_thing_97 cl_X12_137 (sp_Ref_fault (by first | assumption | omega | (repeat (first | assumption | exact pv10 | exact pv11 | refine pv_o (by decide) (by decide) ?_ | exact upN_eq | refine upN_ne (by decide) ?_ | exact upA_eq | refine upA_ne (by first | decide | omega) ?_ | refine SV_at (by assumption) (by decide) ?_ | refine SA_at (by assumption) (by first | decide | (simp; omega)) ?_ | exact rfl))) (by first | assumption | omega | (repeat (first | assumption | exact pv10 | exact pv11 | refine pv_o (by decide) (by decide) ?_ | exact upN_eq | refine upN_ne (by decide) ?_ | exact upA_eq | refine upA_ne (by first | decide | omega) ?_ | refine SV_at (by assumption) (by decide) ?_ | refine SA_at (by assumption) (by first | decide | (simp; omega)) ?_ | exact rfl)))) rfl rfl K.1 (by rfl) (rm_ok (by omega) (by decide)) (Nat.le_of_ble_eq_true rfl) (fun hp97 e97 => ?_)
                obtain ⟨K, O1⟩ := e97
                replace O := SO.tr O O1
                rw [if_pos rfl] at K
                refine wp_iconst (pc := 100) dX12_thing_100 ?_
                exact wp_ir (pc := 101) dX12_thing_101 rfl (Nat.le_refl 0) (Nat.le_refl 0) (by first | rfl | omega) (by first | exact ⟨K, O⟩ | rfl)
            ·
              rw [thL_dg (by omega)] -- go
              refine wp_aload_n (pc := 78) dX12_thing_78 rfl ?_
              refine wp_iconst (pc := 79) dX12_thing_79 ?_
              refine wp_Vs (pc := 80) dX12_thing_80 cl_X12_178 (sp_Ref_number (by first | assumption | omega | (repeat (first | assumption | exact pv10 | exact pv11 | refine pv_o (by decide) (by decide) ?_ | exact upN_eq | refine upN_ne (by decide) ?_ | exact upA_eq | refine upA_ne (by first | decide | omega) ?_ | refine SV_at (by assumption) (by decide) ?_ | refine SA_at (by assumption) (by first | decide | (simp; omega)) ?_ | exact rfl))) (by first | assumption | omega | (repeat (first | assumption | exact pv10 | exact pv11 | refine pv_o (by decide) (by decide) ?_ | exact upN_eq | refine upN_ne (by decide) ?_ | exact upA_eq | refine upA_ne (by first | decide | omega) ?_ | refine SV_at (by assumption) (by decide) ?_ | refine SA_at (by assumption) (by first | decide | (simp; omega)) ?_ | exact rfl))) (by first | assumption | omega | (repeat (first | assumption | exact pv10 | exact pv11 | refine pv_o (by decide) (by decide) ?_ | exact upN_eq | refine upN_ne (by decide) ?_ | exact upA_eq | refine upA_ne (by first | decide | omega) ?_ | refine SV_at (by assumption) (by decide) ?_ | refine SA_at (by assumption) (by first | decide | (simp; omega)) ?_ | exact rfl))) (by first | assumption | omega | (repeat (first | assumption | exact pv10 | exact pv11 | refine pv_o (by decide) (by decide) ?_ | exact upN_eq | refine upN_ne (by decide) ?_ | exact upA_eq | refine upA_ne (by first | decide | omega) ?_ | refine SV_at (by assumption) (by decide) ?_ | refine SA_at (by assumption) (by first | decide | (simp; omega)) ?_ | exact rfl)))) rfl rfl K.1 (by rfl) (rm_ok (by omega) (by decide)) (Nat.le_of_ble_eq_true rfl) (fun hp80 e80 => ?_)
              obtain ⟨K, O1⟩ := e80
              replace O := SO.tr O O1
              exact wp_ir (pc := 83) dX12_thing_83 rfl (Nat.le_refl 0) (Nat.le_refl 0) (by first | rfl | omega) (by first | exact ⟨K, O⟩ | rfl)
        ·
          first
          | (exfalso; omega)
          | skip
            refine wp_iload_n (pc := 36) dX12_thing_36 rfl ?_
            refine wp_iconst (pc := 37) dX12_thing_37 ?_
            refine wp_icmp_ge (pc := 38) 67 dX12_thing_38 (by decide) (by first | omega | exact TI.i5 (by assumption) | exact TI.i3 (by assumption) | exact TI.i2 (by assumption) | exact TI.i1 (by assumption) | exact TI.i0 (by assumption) | exact TI.i4 (by assumption) | exact TI.i6 (by assumption) | exact TI.i7 (by assumption)) (by first | omega | exact TI.i5 (by assumption) | exact TI.i3 (by assumption) | exact TI.i2 (by assumption) | exact TI.i1 (by assumption) | exact TI.i0 (by assumption) | exact TI.i4 (by assumption) | exact TI.i6 (by assumption) | exact TI.i7 (by assumption)) (fun c38 => ?_) (fun c38 => ?_)
            ·
              first
              | (exfalso; omega)
              | skip
                refine wp_iload_n (pc := 67) dX12_thing_67 rfl ?_
                refine wp_bipush (pc := 68) (y := 48) dX12_thing_68 (by decide) ?_
                refine wp_bipush (pc := 70) (y := 57) dX12_thing_70 (by decide) ?_
                refine wp_Sp (pc := 72) dX12_thing_72 cl_X12_95 (sp_Ref_in (by first | assumption | omega | (repeat (first | assumption | exact pv10 | exact pv11 | refine pv_o (by decide) (by decide) ?_ | exact upN_eq | refine upN_ne (by decide) ?_ | exact upA_eq | refine upA_ne (by first | decide | omega) ?_ | refine SV_at (by assumption) (by decide) ?_ | refine SA_at (by assumption) (by first | decide | (simp; omega)) ?_ | exact rfl))) (by first | assumption | omega | (repeat (first | assumption | exact pv10 | exact pv11 | refine pv_o (by decide) (by decide) ?_ | exact upN_eq | refine upN_ne (by decide) ?_ | exact upA_eq | refine upA_ne (by first | decide | omega) ?_ | refine SV_at (by assumption) (by decide) ?_ | refine SA_at (by assumption) (by first | decide | (simp; omega)) ?_ | exact rfl))) (by first | assumption | omega | (repeat (first | assumption | exact pv10 | exact pv11 | refine pv_o (by decide) (by decide) ?_ | exact upN_eq | refine upN_ne (by decide) ?_ | exact upA_eq | refine upA_ne (by first | decide | omega) ?_ | refine SV_at (by assumption) (by decide) ?_ | refine SA_at (by assumption) (by first | decide | (simp; omega)) ?_ | exact rfl)))) rfl rfl (rm_ok (by omega) (by decide)) (Nat.le_of_ble_eq_true rfl) ?_
                first | refine wp_ifb_eq (pc := 75) 84 dX12_thing_75 (by decide) (fun c75 => ?_) (fun c75 => ?_) | refine wp_if_eq (pc := 75) 84 dX12_thing_75 (by decide) (by first | omega | exact TI.i5 (by assumption) | exact TI.i3 (by assumption) | exact TI.i2 (by assumption) | exact TI.i1 (by assumption) | exact TI.i0 (by assumption) | exact TI.i4 (by assumption) | exact TI.i6 (by assumption) | exact TI.i7 (by assumption)) (fun c75 => ?_) (fun c75 => ?_)
                ·
                  have nd : ¬ (48 ≤ hr l 40 p ∧ hr l 40 p ≤ 57) := c75 -- go
                  refine wp_iload_n (pc := 84) dX12_thing_84 rfl ?_
                  refine wp_Sp (pc := 85) dX12_thing_85 cl_X12_181 (sp_Ref_letterOf (by first | assumption | omega | (repeat (first | assumption | exact pv10 | exact pv11 | refine pv_o (by decide) (by decide) ?_ | exact upN_eq | refine upN_ne (by decide) ?_ | exact upA_eq | refine upA_ne (by first | decide | omega) ?_ | refine SV_at (by assumption) (by decide) ?_ | refine SA_at (by assumption) (by first | decide | (simp; omega)) ?_ | exact rfl)))) rfl rfl (rm_ok (by omega) (by decide)) (Nat.le_of_ble_eq_true rfl) ?_
                  refine wp_iconst (pc := 88) dX12_thing_88 ?_
                  refine wp_icmp_ne (pc := 89) 102 dX12_thing_89 (by decide) (by first | omega | unfold ltrOf; repeat' split <;> omega) (by first | omega | unfold ltrOf; repeat' split <;> omega) (fun c89 => ?_) (fun c89 => ?_)
                  ·
                    have ht := ltr_in c89
                    have hla := hlt (by rcases ht with h | h | h | h | h | h <;> omega)
                    rw [thL_is nd ht] -- go
                    refine wp_aload_n (pc := 102) dX12_thing_102 rfl ?_
                    refine wp_dup (pc := 103) dX12_thing_103 rfl ?_
                    refine wm_gets dX12_thing_104 gf_X12_115 K (by rfl) (by repeat (first | assumption | exact pv10 | exact pv11 | refine pv_o (by decide) (by decide) ?_ | exact upN_eq | refine upN_ne (by decide) ?_ | refine SV_at (by assumption) (by decide) ?_ | exact rfl)) ?_
                    refine wp_iconst (pc := 107) dX12_thing_107 ?_
                    refine wp_iadd (pc := 108) dX12_thing_108 ?_
                    refine wm_put dX12_thing_109 pf_X12_115 K O (by decide) mset_10 rfl rfl (fun hp K O => ?_)
                    try rw [pv_at] at K
                    refine wp_aload_n (pc := 112) dX12_thing_112 rfl ?_
                    rcases hA with ⟨h16, h0'⟩ | ⟨h16, hA7⟩
                    · refine wm_gets (pc := 113) dX12_thing_113 gf_X12_184 K (by rfl) (pv_o (by decide) (by decide) h16) ?_
                      refine wp_if_eq (pc := 116) 131 dX12_thing_116 (by decide) (by omega) (fun c116 => ?_) (fun c116 => absurd rfl c116)
                      refine wp_iconst (pc := 131) dX12_thing_131 ?_
                      exact wp_ir (pc := 132) dX12_thing_132 rfl (Nat.le_refl 0) (Nat.le_refl 0) (h0' _).symm ⟨K, O⟩
                    · refine wm_gets (pc := 113) dX12_thing_113 gf_X12_184 K (by rfl) (pv_o (by decide) (by decide) h16) ?_
                      refine wp_if_eq (pc := 116) 131 dX12_thing_116 (by decide) (by omega) (fun c116 => absurd c116 (by decide)) (fun c116 => ?_)
                      have ha7 := AK_at hA7 ht
                      refine wp_aload_n (pc := 119) dX12_thing_119 rfl ?_
                      refine wm_get (pc := 120) dX12_thing_120 gf_X12_30 K (by rfl) ?_
                      refine wp_iload_n (pc := 123) dX12_thing_123 rfl ?_
                      refine wp_Sp (pc := 124) dX12_thing_124 cl_X12_181 (sp_Ref_letterOf (by omega)) rfl rfl (rm_ok (by omega) (by decide)) (Nat.le_of_ble_eq_true rfl) ?_
                      refine wm_iald (pc := 127) dX12_thing_127 K (by rfl) (by decide) (by decide) (by decide) ha7.1 ha7.2.1 rfl ha7.2.2 ?_
                      refine wp_goto (pc := 128) 132 dX12_thing_128 (by decide) ?_
                      exact wp_ir (pc := 132) dX12_thing_132 rfl (Nat.le_refl 0) (Nat.le_refl 0) rfl ⟨K, O⟩
                  ·
                    rw [thL_no nd (ltr_no c89) (fun z => by omega)] -- go
                    refine wp_aload_n (pc := 92) dX12_thing_92 rfl ?_
                    refine wp_aload_n (pc := 93) dX12_thing_93 rfl ?_
                    refine wm_gets dX12_thing_94 gf_X12_115 K (by rfl) (by repeat (first | assumption | exact pv10 | exact pv11 | refine pv_o (by decide) (by decide) ?_ | exact upN_eq | refine upN_ne (by decide) ?_ | refine SV_at (by assumption) (by decide) ?_ | exact rfl)) ?_
                    refine wp_Vn (pc := 97) dX12_thing_97 cl_X12_137 (sp_Ref_fault (by first | assumption | omega | (repeat (first | assumption | exact pv10 | exact pv11 | refine pv_o (by decide) (by decide) ?_ | exact upN_eq | refine upN_ne (by decide) ?_ | exact upA_eq | refine upA_ne (by first | decide | omega) ?_ | refine SV_at (by assumption) (by decide) ?_ | refine SA_at (by assumption) (by first | decide | (simp; omega)) ?_ | exact rfl))) (by first | assumption | omega | (repeat (first | assumption | exact pv10 | exact pv11 | refine pv_o (by decide) (by decide) ?_ | exact upN_eq | refine upN_ne (by decide) ?_ | exact upA_eq | refine upA_ne (by first | decide | omega) ?_ | refine SV_at (by assumption) (by decide) ?_ | refine SA_at (by assumption) (by first | decide | (simp; omega)) ?_ | exact rfl)))) rfl rfl K.1 (by rfl) (rm_ok (by omega) (by decide)) (Nat.le_of_ble_eq_true rfl) (fun hp97 e97 => ?_)
                    obtain ⟨K, O1⟩ := e97
                    replace O := SO.tr O O1
                    rw [if_pos rfl] at K
                    refine wp_iconst (pc := 100) dX12_thing_100 ?_
                    exact wp_ir (pc := 101) dX12_thing_101 rfl (Nat.le_refl 0) (Nat.le_refl 0) (by first | rfl | omega) (by first | exact ⟨K, O⟩ | rfl)
                ·
                  rw [thL_dg (by omega)] -- go
                  refine wp_aload_n (pc := 78) dX12_thing_78 rfl ?_
                  refine wp_iconst (pc := 79) dX12_thing_79 ?_
                  refine wp_Vs (pc := 80) dX12_thing_80 cl_X12_178 (sp_Ref_number (by first | assumption | omega | (repeat (first | assumption | exact pv10 | exact pv11 | refine pv_o (by decide) (by decide) ?_ | exact upN_eq | refine upN_ne (by decide) ?_ | exact upA_eq | refine upA_ne (by first | decide | omega) ?_ | refine SV_at (by assumption) (by decide) ?_ | refine SA_at (by assumption) (by first | decide | (simp; omega)) ?_ | exact rfl))) (by first | assumption | omega | (repeat (first | assumption | exact pv10 | exact pv11 | refine pv_o (by decide) (by decide) ?_ | exact upN_eq | refine upN_ne (by decide) ?_ | exact upA_eq | refine upA_ne (by first | decide | omega) ?_ | refine SV_at (by assumption) (by decide) ?_ | refine SA_at (by assumption) (by first | decide | (simp; omega)) ?_ | exact rfl))) (by first | assumption | omega | (repeat (first | assumption | exact pv10 | exact pv11 | refine pv_o (by decide) (by decide) ?_ | exact upN_eq | refine upN_ne (by decide) ?_ | exact upA_eq | refine upA_ne (by first | decide | omega) ?_ | refine SV_at (by assumption) (by decide) ?_ | refine SA_at (by assumption) (by first | decide | (simp; omega)) ?_ | exact rfl))) (by first | assumption | omega | (repeat (first | assumption | exact pv10 | exact pv11 | refine pv_o (by decide) (by decide) ?_ | exact upN_eq | refine upN_ne (by decide) ?_ | exact upA_eq | refine upA_ne (by first | decide | omega) ?_ | refine SV_at (by assumption) (by decide) ?_ | refine SA_at (by assumption) (by first | decide | (simp; omega)) ?_ | exact rfl)))) rfl rfl K.1 (by rfl) (rm_ok (by omega) (by decide)) (Nat.le_of_ble_eq_true rfl) (fun hp80 e80 => ?_)
                  obtain ⟨K, O1⟩ := e80
                  replace O := SO.tr O O1
                  exact wp_ir (pc := 83) dX12_thing_83 rfl (Nat.le_refl 0) (Nat.le_refl 0) (by first | rfl | omega) (by first | exact ⟨K, O⟩ | rfl)
            ·
              obtain ⟨L', rfl⟩ : ∃ L', L = L' + 1 := ⟨L - 1, by omega⟩
              rw [thL_par c33] -- go
              refine wp_aload_n (pc := 41) dX12_thing_41 rfl ?_
              refine wp_dup (pc := 42) dX12_thing_42 rfl ?_
              refine wm_gets dX12_thing_43 gf_X12_115 K (by rfl) (by repeat (first | assumption | exact pv10 | exact pv11 | refine pv_o (by decide) (by decide) ?_ | exact upN_eq | refine upN_ne (by decide) ?_ | refine SV_at (by assumption) (by decide) ?_ | exact rfl)) ?_
              refine wp_iconst (pc := 46) dX12_thing_46 ?_
              refine wp_iadd (pc := 47) dX12_thing_47 ?_
              refine wm_put dX12_thing_48 pf_X12_115 K O (by decide) mset_10 rfl rfl (fun hp K O => ?_)
              try rw [pv_at] at K
              refine wp_aload_n (pc := 51) dX12_thing_51 rfl ?_
              refine wp_iload_n (pc := 52) dX12_thing_52 rfl ?_
              refine wp_iconst (pc := 53) dX12_thing_53 ?_
              refine wp_iadd (pc := 54) dX12_thing_54 ?_
              refine wp_Vs (pc := 55) dX12_thing_55 cl_X12_171 (hE _ rfl _ (p + 1) K (hlt (by omega))) rfl rfl K.1 (by rfl) (rm_ok (by omega) (by decide)) (Nat.le_of_ble_eq_true rfl) (fun hp55 e55 => ?_)
              obtain ⟨K, O1⟩ := e55
              replace O := SO.tr O O1
              have g2 := hGE _ rfl (p + 1) (hlt (by omega))
              have hh2 := (hn.2 (eE (hr l 40) e L' (p + 1)).2.1).2
              have rw2 : InR (pw (eE (hr l 40) e L' (p + 1))) := by unfold pw; split <;> omega
              refine wp_istore_n (pc := 58) dX12_thing_58 (by decide) ?_
              refine wp_aload_n (pc := 59) dX12_thing_59 rfl ?_
              refine wp_bipush (pc := 60) (y := 41) dX12_thing_60 (by decide) ?_
              refine wp_Vn (pc := 62) dX12_thing_62 cl_X12_174 (sp_Ref_need K R rw2 (by omega) (by decide)) rfl rfl K.1 (by rfl) (rm_ok (by omega) (by decide)) (Nat.le_of_ble_eq_true rfl) (fun hp62 e62 => ?_)
              obtain ⟨K, O1⟩ := e62
              replace O := SO.tr O O1
              have ex : ∀ (bb : Bool) (r : ER), r = eE (hr l 40) e L' (p + 1) → ((if pw r = -1 ∧ hr l 40 r.2.1 = 41 then r.2.1 + 1 else r.2.1) = (if r.1 = true ∧ hr l 40 r.2.1 = 41 then (true, r.2.1 + 1, r.2.2) else (false, r.2.1, r.2.2) : ER).2.1 ∧ (if pw r = -1 ∧ ¬ hr l 40 r.2.1 = 41 then (r.2.1 : Int) else pw r) = pw (if r.1 = true ∧ hr l 40 r.2.1 = 41 then (true, r.2.1 + 1, r.2.2) else (false, r.2.1, r.2.2) : ER) ∧ r.2.2 = (if r.1 = true ∧ hr l 40 r.2.1 = 41 then (true, r.2.1 + 1, r.2.2) else (false, r.2.1, r.2.2) : ER).2.2) := by
                intro bb r hr0
                by_cases z : r.1 = true
                · have y : pw r = -1 := if_pos z
                  by_cases w : hr l 40 r.2.1 = 41
                  · rw [if_pos ⟨y, w⟩, if_pos ⟨z, w⟩, if_neg (fun u => u.2 w), y]; exact ⟨rfl, rfl, rfl⟩
                  · rw [if_neg (fun u => w u.2), if_neg (fun u => w u.2), if_pos ⟨y, w⟩]; exact ⟨rfl, rfl, rfl⟩
                · have y : pw r = (r.2.1 : Int) := if_neg z
                  rw [if_neg (show ¬ (pw r = -1 ∧ hr l 40 r.2.1 = 41) by omega), if_neg (show ¬ (r.1 = true ∧ hr l 40 r.2.1 = 41) from fun u => z u.1), if_neg (show ¬ (pw r = -1 ∧ ¬ hr l 40 r.2.1 = 41) by omega), y]; exact ⟨rfl, rfl, rfl⟩
              obtain ⟨x1, x2, x3⟩ := ex true _ rfl
              rw [x1, x2] at K
              refine wp_iload_n (pc := 65) dX12_thing_65 rfl ?_
              exact wp_ir (pc := 66) dX12_thing_66 rfl (Nat.le_refl 0) (Nat.le_refl 0) x3 (by first | exact ⟨K, O⟩ | rfl)
    ·
      first
      | (exfalso; omega)
      | skip
        refine wp_iconst (pc := 23) dX12_thing_23 ?_
        exact wp_ir (pc := 24) dX12_thing_24 rfl (Nat.le_refl 0) (Nat.le_refl 0) (by first | rfl | omega) (by first | exact ⟨K, O⟩ | rfl)
  ·
    have hm : hr l 40 p = 45 := c6.2
    obtain ⟨f', rfl⟩ : ∃ f', f = f' + 1 := ⟨f - 1, by omega⟩
    rw [if_pos c6] at K
    have e0 : eT (hr l 40) (thL (hr l 40) e L) (f' + 1) p = ((eT (hr l 40) (thL (hr l 40) e L) f' (p + 1)).1, (eT (hr l 40) (thL (hr l 40) e L) f' (p + 1)).2.1, nz (-(eT (hr l 40) (thL (hr l 40) e L) f' (p + 1)).2.2)) := if_pos hm
    rw [e0] -- go
    refine wp_aload_n (pc := 9) dX12_thing_9 rfl ?_
    refine wp_iload_n (pc := 10) dX12_thing_10 rfl ?_
    refine wp_Vs (pc := 11) dX12_thing_11 cl_X12_168 (hM _ rfl _ K (hlt (by omega))) rfl rfl K.1 (by rfl) (rm_ok (by omega) (by decide)) (Nat.le_of_ble_eq_true rfl) (fun hp11 e11 => ?_)
    obtain ⟨K, O1⟩ := e11
    replace O := SO.tr O O1
    refine wp_ineg (pc := 14) dX12_thing_14 ?_
    exact wp_irx (pc := 15) dX12_thing_15 rfl (Nat.le_refl 0) (Nat.le_refl 0) (nz_I _).symm ⟨K, O⟩
theorem pw_t {r : ER} (h : r.1 = true) : pw r = -1 := if_pos h
theorem pw_f {r : ER} (h : pw r = -1) : r.1 = true := Classical.byContradiction fun z => by unfold pw at h; rw [if_neg z] at h; omega
theorem pw_in {r : ER} (h : r.2.1 ≤ 80) : InR (pw r) := by unfold pw; split <;> omega
theorem jn42 : jn 42 x y = nz (x * y) := rfl
theorem jn47 : jn 47 x y = nz (if y = 0 then 0 else x.tdiv y) := rfl
theorem jn43 : jn 43 x y = nz (x + y) := rfl
theorem jn45 : jn 45 x y = nz (x - y) := rfl
theorem jn60 : jn 60 x y = if x < y then 1 else 0 := by
  show nz (if x < y then 1 else 0) = _
  split <;> rfl
theorem jn62 : jn 62 x y = if y < x then 1 else 0 := by
  show nz (if y < x then 1 else 0) = _
  split <;> rfl
theorem jn61 : jn 61 x y = if x = y then 1 else 0 := by
  show nz (if x = y then 1 else 0) = _
  split <;> rfl
theorem chE_no {nx : Nat → Int} {o1 o2 : Int} {P : Nat → ER} {r : ER} (h : ¬ (r.1 = true ∧ (nx r.2.1 = o1 ∨ nx r.2.1 = o2))) : chE nx o1 o2 P f r = r := by cases f <;> first | rfl | exact if_neg h
theorem lp_Ref_product {P : Nat → ER} (R : RdL A V q rd l 40) (hT : EvS g q V A rd rl (min l.length 40) MX12_thing (45*L+44) P dep) (hG : GE (min l.length 40) P) : ∀ (m i : Nat), 40 < i + m → i ≤ 40 → ∀ (hp2 : Hp) (r : ER) (K : ModAt hp2 q (pv V r.2.1 (pw r)) A rd rl) (O : SO hp hp2 q (q + 25)) (hl : r.2.1 ≤ min l.length 40) (hv : InR r.2.2) (hf : min l.length 40 ≤ r.2.1 + (40 - i)), wp g MX12_product (rm (45*L+46) 0 0) (Eff (.int (I (chE (hr l 40) 42 47 P (40 - i) r).2.2)) (fun hp3 => ModAt hp3 q (pv V (chE (hr l 40) 42 47 P (40 - i) r).2.1 (pw (chE (hr l 40) 42 47 P (40 - i) r))) A rd rl ∧ SO hp hp3 q (q + 25))) 0 0 6 [some (.ref q), some (.int (I dep)), some (.int (I r.2.2)), none, none] [] hp2 := by
  intro m
  induction m with
  | zero => intro i h1 h2; exact absurd h1 (by omega)
  | succ m ih =>
    intro i h1 h2 hp2 r K O hl hv hf
    have hn := NX_h R.bb
    have hh := (hn.2 r.2.1).2
    have hlt := hn.lt (p := r.2.1)
    have hpi := pw_in (r := r) (by omega)
    refine wp_aload_n (pc := 6) dX12_product_6 rfl ?_
    refine wp_Vp (pc := 7) dX12_product_7 cl_X12_125 (sp_Ref_fine (by first | assumption | omega | (repeat (first | assumption | exact pv10 | exact pv11 | refine pv_o (by decide) (by decide) ?_ | exact upN_eq | refine upN_ne (by decide) ?_ | exact upA_eq | refine upA_ne (by first | decide | omega) ?_ | refine SV_at (by assumption) (by decide) ?_ | refine SA_at (by assumption) (by first | decide | (simp; omega)) ?_ | exact rfl))) (by first | assumption | omega | (repeat (first | assumption | exact pv10 | exact pv11 | refine pv_o (by decide) (by decide) ?_ | exact upN_eq | refine upN_ne (by decide) ?_ | exact upA_eq | refine upA_ne (by first | decide | omega) ?_ | refine SV_at (by assumption) (by decide) ?_ | refine SA_at (by assumption) (by first | decide | (simp; omega)) ?_ | exact rfl)))) rfl rfl K.1 (by rfl) (rm_ok (by omega) (by decide)) (Nat.le_of_ble_eq_true rfl) ?_
    first | refine wp_ifb_eq (pc := 10) 91 dX12_product_10 (by decide) (fun c10 => ?_) (fun c10 => ?_) | refine wp_if_eq (pc := 10) 91 dX12_product_10 (by decide) (by first | omega | exact TI.i5 (by assumption) | exact TI.i3 (by assumption) | exact TI.i2 (by assumption) | exact TI.i1 (by assumption) | exact TI.i0 (by assumption) | exact TI.i4 (by assumption) | exact TI.i6 (by assumption) | exact TI.i7 (by assumption)) (fun c10 => ?_) (fun c10 => ?_)
    ·
      rw [chE_no (fun z => c10 (pw_t z.1))] -- go
      refine wp_iload_n (pc := 91) dX12_product_91 rfl ?_
      exact wp_ir (pc := 92) dX12_product_92 rfl (Nat.le_refl 0) (Nat.le_refl 0) (by first | rfl | omega) (by first | exact ⟨K, O⟩ | rfl)
    ·
      first
      | (exfalso; omega)
      | skip
        refine wp_aload_n (pc := 13) dX12_product_13 rfl ?_
        refine wp_Vp (pc := 14) dX12_product_14 cl_X12_129 (sp_Ref_here (by first | assumption | omega | (repeat (first | assumption | exact pv10 | exact pv11 | refine pv_o (by decide) (by decide) ?_ | exact upN_eq | refine upN_ne (by decide) ?_ | exact upA_eq | refine upA_ne (by first | decide | omega) ?_ | refine SV_at (by assumption) (by decide) ?_ | refine SA_at (by assumption) (by first | decide | (simp; omega)) ?_ | exact rfl))) (by first | assumption | omega | (repeat (first | assumption | exact pv10 | exact pv11 | refine pv_o (by decide) (by decide) ?_ | exact upN_eq | refine upN_ne (by decide) ?_ | exact upA_eq | refine upA_ne (by first | decide | omega) ?_ | refine SV_at (by assumption) (by decide) ?_ | refine SA_at (by assumption) (by first | decide | (simp; omega)) ?_ | exact rfl))) (by first | assumption | omega | (repeat (first | assumption | exact pv10 | exact pv11 | refine pv_o (by decide) (by decide) ?_ | exact upN_eq | refine upN_ne (by decide) ?_ | exact upA_eq | refine upA_ne (by first | decide | omega) ?_ | refine SV_at (by assumption) (by decide) ?_ | refine SA_at (by assumption) (by first | decide | (simp; omega)) ?_ | exact rfl)))) rfl rfl K.1 (by rfl) (rm_ok (by omega) (by decide)) (Nat.le_of_ble_eq_true rfl) ?_
        refine wp_bipush (pc := 17) (y := 42) dX12_product_17 (by decide) ?_
        refine wp_icmp_eq (pc := 19) 31 dX12_product_19 (by decide) (by first | omega | exact TI.i5 (by assumption) | exact TI.i3 (by assumption) | exact TI.i2 (by assumption) | exact TI.i1 (by assumption) | exact TI.i0 (by assumption) | exact TI.i4 (by assumption) | exact TI.i6 (by assumption) | exact TI.i7 (by assumption)) (by first | omega | exact TI.i5 (by assumption) | exact TI.i3 (by assumption) | exact TI.i2 (by assumption) | exact TI.i1 (by assumption) | exact TI.i0 (by assumption) | exact TI.i4 (by assumption) | exact TI.i6 (by assumption) | exact TI.i7 (by assumption)) (fun c19 => ?_) (fun c19 => ?_)
        ·
          first
          | (exfalso; omega)
          | skip
            have z : hr l 40 r.2.1 = 42 ∨ hr l 40 r.2.1 = 47 := by omega
            have hq := hlt (by omega)
            have e0 : chE (hr l 40) 42 47 P (40 - i) r = chE (hr l 40) 42 47 P (40 - (i + 1)) (jne (hr l 40 r.2.1) r (P (r.2.1 + 1))) := by rw [show 40 - i = (40 - (i + 1)) + 1 by omega]; exact if_pos ⟨pw_f c10, z⟩
            have g2 := hG (r.2.1 + 1) hq
            rw [e0]
            refine wp_aload_n (pc := 31) dX12_product_31 rfl ?_
            refine wp_Vp (pc := 32) dX12_product_32 cl_X12_129 (sp_Ref_here (by first | assumption | omega | (repeat (first | assumption | exact pv10 | exact pv11 | refine pv_o (by decide) (by decide) ?_ | exact upN_eq | refine upN_ne (by decide) ?_ | exact upA_eq | refine upA_ne (by first | decide | omega) ?_ | refine SV_at (by assumption) (by decide) ?_ | refine SA_at (by assumption) (by first | decide | (simp; omega)) ?_ | exact rfl))) (by first | assumption | omega | (repeat (first | assumption | exact pv10 | exact pv11 | refine pv_o (by decide) (by decide) ?_ | exact upN_eq | refine upN_ne (by decide) ?_ | exact upA_eq | refine upA_ne (by first | decide | omega) ?_ | refine SV_at (by assumption) (by decide) ?_ | refine SA_at (by assumption) (by first | decide | (simp; omega)) ?_ | exact rfl))) (by first | assumption | omega | (repeat (first | assumption | exact pv10 | exact pv11 | refine pv_o (by decide) (by decide) ?_ | exact upN_eq | refine upN_ne (by decide) ?_ | exact upA_eq | refine upA_ne (by first | decide | omega) ?_ | refine SV_at (by assumption) (by decide) ?_ | refine SA_at (by assumption) (by first | decide | (simp; omega)) ?_ | exact rfl)))) rfl rfl K.1 (by rfl) (rm_ok (by omega) (by decide)) (Nat.le_of_ble_eq_true rfl) ?_
            refine wp_bipush (pc := 35) (y := 42) dX12_product_35 (by decide) ?_
            refine wp_icmp_ne (pc := 37) 44 dX12_product_37 (by decide) (by first | omega | exact TI.i5 (by assumption) | exact TI.i3 (by assumption) | exact TI.i2 (by assumption) | exact TI.i1 (by assumption) | exact TI.i0 (by assumption) | exact TI.i4 (by assumption) | exact TI.i6 (by assumption) | exact TI.i7 (by assumption)) (by first | omega | exact TI.i5 (by assumption) | exact TI.i3 (by assumption) | exact TI.i2 (by assumption) | exact TI.i1 (by assumption) | exact TI.i0 (by assumption) | exact TI.i4 (by assumption) | exact TI.i6 (by assumption) | exact TI.i7 (by assumption)) (fun c37 => ?_) (fun c37 => ?_)
            ·
              first
              | (exfalso; omega)
              | skip
                refine wp_iconst (pc := 44) dX12_product_44 ?_
                refine wp_istore_n (pc := 45) dX12_product_45 (by decide) ?_
                refine wp_aload_n (pc := 46) dX12_product_46 rfl ?_
                refine wp_dup (pc := 47) dX12_product_47 rfl ?_
                refine wm_gets dX12_product_48 gf_X12_115 K (by rfl) (by repeat (first | assumption | exact pv10 | exact pv11 | refine pv_o (by decide) (by decide) ?_ | exact upN_eq | refine upN_ne (by decide) ?_ | refine SV_at (by assumption) (by decide) ?_ | exact rfl)) ?_
                refine wp_iconst (pc := 51) dX12_product_51 ?_
                refine wp_iadd (pc := 52) dX12_product_52 ?_
                refine wm_put dX12_product_53 pf_X12_115 K O (by decide) mset_10 rfl rfl (fun hp K O => ?_)
                try rw [pv_at] at K
                rw [c10] at K
                refine wp_aload_n (pc := 56) dX12_product_56 rfl ?_
                refine wp_iload_n (pc := 57) dX12_product_57 rfl ?_
                refine wp_Vs (pc := 58) dX12_product_58 cl_X12_168 (hT _ (r.2.1 + 1) K hq) rfl rfl K.1 (by rfl) (rm_ok (by omega) (by decide)) (Nat.le_of_ble_eq_true rfl) (fun hp58 e58 => ?_)
                obtain ⟨K, O1⟩ := e58
                replace O := SO.tr O O1
                refine wp_istore (pc := 61) dX12_product_61 (by decide) ?_
                refine wp_iload_n (pc := 63) dX12_product_63 rfl ?_
                first | refine wp_ifb_eq (pc := 64) 74 dX12_product_64 (by decide) (fun c64 => ?_) (fun c64 => ?_) | refine wp_if_eq (pc := 64) 74 dX12_product_64 (by decide) (by first | omega | exact TI.i5 (by assumption) | exact TI.i3 (by assumption) | exact TI.i2 (by assumption) | exact TI.i1 (by assumption) | exact TI.i0 (by assumption) | exact TI.i4 (by assumption) | exact TI.i6 (by assumption) | exact TI.i7 (by assumption)) (fun c64 => ?_) (fun c64 => ?_)
                ·
                  first
                  | (exfalso; omega)
                  | skip
                    refine wp_iload (pc := 74) dX12_product_74 rfl ?_
                    first | refine wp_ifb_ne (pc := 76) 83 dX12_product_76 (by decide) (fun c76 => ?_) (fun c76 => ?_) | refine wp_if_ne (pc := 76) 83 dX12_product_76 (by decide) (by first | omega | exact TI.i5 (by assumption) | exact TI.i3 (by assumption) | exact TI.i2 (by assumption) | exact TI.i1 (by assumption) | exact TI.i0 (by assumption) | exact TI.i4 (by assumption) | exact TI.i6 (by assumption) | exact TI.i7 (by assumption)) (fun c76 => ?_) (fun c76 => ?_)
                    ·
                      first
                      | (exfalso; omega)
                      | skip
                        refine wp_iload_n (pc := 83) dX12_product_83 rfl ?_
                        refine wp_iload (pc := 84) dX12_product_84 rfl ?_
                        refine wp_idiv (pc := 86) dX12_product_86 (I_ne0 (by omega) c76) (I_tdiv (by omega) (by omega)) ?_
                        have ej : I (r.2.2.tdiv (P (r.2.1 + 1)).2.2) = I (jn (hr l 40 r.2.1) r.2.2 (P (r.2.1 + 1)).2.2) := by rw [show hr l 40 r.2.1 = 47 by omega, jn47, nz_I, if_neg c76]
                        refine wp_topx ej ?_
                        refine wp_istore_n (pc := 87) dX12_product_87 (by decide) ?_
                        refine wp_goto (pc := 88) 6 dX12_product_88 (by decide) ?_
                        refine wp_ls ?_ (ih (i + 1) (by omega) (by omega) _ (jne (hr l 40 r.2.1) r (P (r.2.1 + 1))) K O g2.2.1 (jn_in _ _ _) (show min l.length 40 ≤ (P (r.2.1 + 1)).2.1 + (40 - (i + 1)) by omega))
                        repeat' (first | exact LE_0 | refine LE_s rfl ?_ | refine LE_s (I_c (by first | omega | (simp only [sm]; omega))) ?_ | refine LE_s (J_c (by first | omega | exact Int.pow_succ _ _ | exact (Int.pow_succ _ _).symm | exact (Int.pow_zero _).symm | (simp only [sm]; omega))) ?_ | refine LE_n ?_)
                    ·
                      first
                      | (exfalso; omega)
                      | skip
                        have ej : I 0 = I (jn (hr l 40 r.2.1) r.2.2 (P (r.2.1 + 1)).2.2) := by rw [show hr l 40 r.2.1 = 47 by omega, jn47, nz_I, if_pos c76]
                        refine wp_iconst (pc := 79) dX12_product_79 ?_
                        refine wp_goto (pc := 80) 87 dX12_product_80 (by decide) ?_
                        refine wp_topx ej ?_
                        refine wp_istore_n (pc := 87) dX12_product_87 (by decide) ?_
                        refine wp_goto (pc := 88) 6 dX12_product_88 (by decide) ?_
                        refine wp_ls ?_ (ih (i + 1) (by omega) (by omega) _ (jne (hr l 40 r.2.1) r (P (r.2.1 + 1))) K O g2.2.1 (jn_in _ _ _) (show min l.length 40 ≤ (P (r.2.1 + 1)).2.1 + (40 - (i + 1)) by omega))
                        repeat' (first | exact LE_0 | refine LE_s rfl ?_ | refine LE_s (I_c (by first | omega | (simp only [sm]; omega))) ?_ | refine LE_s (J_c (by first | omega | exact Int.pow_succ _ _ | exact (Int.pow_succ _ _).symm | exact (Int.pow_zero _).symm | (simp only [sm]; omega))) ?_ | refine LE_n ?_)
                ·
                  first
                  | (exfalso; omega)
                  | skip
                    refine wp_iload_n (pc := 67) dX12_product_67 rfl ?_
                    refine wp_iload (pc := 68) dX12_product_68 rfl ?_
                    refine wp_imul (pc := 70) dX12_product_70 ?_
                    have ej : I (r.2.2 * (P (r.2.1 + 1)).2.2) = I (jn (hr l 40 r.2.1) r.2.2 (P (r.2.1 + 1)).2.2) := by rw [show hr l 40 r.2.1 = 42 by omega, jn42, nz_I]
                    refine wp_goto (pc := 71) 87 dX12_product_71 (by decide) ?_
                    refine wp_topx ej ?_
                    refine wp_istore_n (pc := 87) dX12_product_87 (by decide) ?_
                    refine wp_goto (pc := 88) 6 dX12_product_88 (by decide) ?_
                    refine wp_ls ?_ (ih (i + 1) (by omega) (by omega) _ (jne (hr l 40 r.2.1) r (P (r.2.1 + 1))) K O g2.2.1 (jn_in _ _ _) (show min l.length 40 ≤ (P (r.2.1 + 1)).2.1 + (40 - (i + 1)) by omega))
                    repeat' (first | exact LE_0 | refine LE_s rfl ?_ | refine LE_s (I_c (by first | omega | (simp only [sm]; omega))) ?_ | refine LE_s (J_c (by first | omega | exact Int.pow_succ _ _ | exact (Int.pow_succ _ _).symm | exact (Int.pow_zero _).symm | (simp only [sm]; omega))) ?_ | refine LE_n ?_)
            ·
              first
              | (exfalso; omega)
              | skip
                refine wp_iconst (pc := 40) dX12_product_40 ?_
                refine wp_goto (pc := 41) 45 dX12_product_41 (by decide) ?_
                refine wp_istore_n (pc := 45) dX12_product_45 (by decide) ?_
                refine wp_aload_n (pc := 46) dX12_product_46 rfl ?_
                refine wp_dup (pc := 47) dX12_product_47 rfl ?_
                refine wm_gets dX12_product_48 gf_X12_115 K (by rfl) (by repeat (first | assumption | exact pv10 | exact pv11 | refine pv_o (by decide) (by decide) ?_ | exact upN_eq | refine upN_ne (by decide) ?_ | refine SV_at (by assumption) (by decide) ?_ | exact rfl)) ?_
                refine wp_iconst (pc := 51) dX12_product_51 ?_
                refine wp_iadd (pc := 52) dX12_product_52 ?_
                refine wm_put dX12_product_53 pf_X12_115 K O (by decide) mset_10 rfl rfl (fun hp K O => ?_)
                try rw [pv_at] at K
                rw [c10] at K
                refine wp_aload_n (pc := 56) dX12_product_56 rfl ?_
                refine wp_iload_n (pc := 57) dX12_product_57 rfl ?_
                refine wp_Vs (pc := 58) dX12_product_58 cl_X12_168 (hT _ (r.2.1 + 1) K hq) rfl rfl K.1 (by rfl) (rm_ok (by omega) (by decide)) (Nat.le_of_ble_eq_true rfl) (fun hp58 e58 => ?_)
                obtain ⟨K, O1⟩ := e58
                replace O := SO.tr O O1
                refine wp_istore (pc := 61) dX12_product_61 (by decide) ?_
                refine wp_iload_n (pc := 63) dX12_product_63 rfl ?_
                first | refine wp_ifb_eq (pc := 64) 74 dX12_product_64 (by decide) (fun c64 => ?_) (fun c64 => ?_) | refine wp_if_eq (pc := 64) 74 dX12_product_64 (by decide) (by first | omega | exact TI.i5 (by assumption) | exact TI.i3 (by assumption) | exact TI.i2 (by assumption) | exact TI.i1 (by assumption) | exact TI.i0 (by assumption) | exact TI.i4 (by assumption) | exact TI.i6 (by assumption) | exact TI.i7 (by assumption)) (fun c64 => ?_) (fun c64 => ?_)
                ·
                  first
                  | (exfalso; omega)
                  | skip
                    refine wp_iload (pc := 74) dX12_product_74 rfl ?_
                    first | refine wp_ifb_ne (pc := 76) 83 dX12_product_76 (by decide) (fun c76 => ?_) (fun c76 => ?_) | refine wp_if_ne (pc := 76) 83 dX12_product_76 (by decide) (by first | omega | exact TI.i5 (by assumption) | exact TI.i3 (by assumption) | exact TI.i2 (by assumption) | exact TI.i1 (by assumption) | exact TI.i0 (by assumption) | exact TI.i4 (by assumption) | exact TI.i6 (by assumption) | exact TI.i7 (by assumption)) (fun c76 => ?_) (fun c76 => ?_)
                    ·
                      first
                      | (exfalso; omega)
                      | skip
                        refine wp_iload_n (pc := 83) dX12_product_83 rfl ?_
                        refine wp_iload (pc := 84) dX12_product_84 rfl ?_
                        refine wp_idiv (pc := 86) dX12_product_86 (I_ne0 (by omega) c76) (I_tdiv (by omega) (by omega)) ?_
                        have ej : I (r.2.2.tdiv (P (r.2.1 + 1)).2.2) = I (jn (hr l 40 r.2.1) r.2.2 (P (r.2.1 + 1)).2.2) := by rw [show hr l 40 r.2.1 = 47 by omega, jn47, nz_I, if_neg c76]
                        refine wp_topx ej ?_
                        refine wp_istore_n (pc := 87) dX12_product_87 (by decide) ?_
                        refine wp_goto (pc := 88) 6 dX12_product_88 (by decide) ?_
                        refine wp_ls ?_ (ih (i + 1) (by omega) (by omega) _ (jne (hr l 40 r.2.1) r (P (r.2.1 + 1))) K O g2.2.1 (jn_in _ _ _) (show min l.length 40 ≤ (P (r.2.1 + 1)).2.1 + (40 - (i + 1)) by omega))
                        repeat' (first | exact LE_0 | refine LE_s rfl ?_ | refine LE_s (I_c (by first | omega | (simp only [sm]; omega))) ?_ | refine LE_s (J_c (by first | omega | exact Int.pow_succ _ _ | exact (Int.pow_succ _ _).symm | exact (Int.pow_zero _).symm | (simp only [sm]; omega))) ?_ | refine LE_n ?_)
                    ·
                      first
                      | (exfalso; omega)
                      | skip
                        have ej : I 0 = I (jn (hr l 40 r.2.1) r.2.2 (P (r.2.1 + 1)).2.2) := by rw [show hr l 40 r.2.1 = 47 by omega, jn47, nz_I, if_pos c76]
                        refine wp_iconst (pc := 79) dX12_product_79 ?_
                        refine wp_goto (pc := 80) 87 dX12_product_80 (by decide) ?_
                        refine wp_topx ej ?_
                        refine wp_istore_n (pc := 87) dX12_product_87 (by decide) ?_
                        refine wp_goto (pc := 88) 6 dX12_product_88 (by decide) ?_
                        refine wp_ls ?_ (ih (i + 1) (by omega) (by omega) _ (jne (hr l 40 r.2.1) r (P (r.2.1 + 1))) K O g2.2.1 (jn_in _ _ _) (show min l.length 40 ≤ (P (r.2.1 + 1)).2.1 + (40 - (i + 1)) by omega))
                        repeat' (first | exact LE_0 | refine LE_s rfl ?_ | refine LE_s (I_c (by first | omega | (simp only [sm]; omega))) ?_ | refine LE_s (J_c (by first | omega | exact Int.pow_succ _ _ | exact (Int.pow_succ _ _).symm | exact (Int.pow_zero _).symm | (simp only [sm]; omega))) ?_ | refine LE_n ?_)
                ·
                  first
                  | (exfalso; omega)
                  | skip
                    refine wp_iload_n (pc := 67) dX12_product_67 rfl ?_
                    refine wp_iload (pc := 68) dX12_product_68 rfl ?_
                    refine wp_imul (pc := 70) dX12_product_70 ?_
                    have ej : I (r.2.2 * (P (r.2.1 + 1)).2.2) = I (jn (hr l 40 r.2.1) r.2.2 (P (r.2.1 + 1)).2.2) := by rw [show hr l 40 r.2.1 = 42 by omega, jn42, nz_I]
                    refine wp_goto (pc := 71) 87 dX12_product_71 (by decide) ?_
                    refine wp_topx ej ?_
                    refine wp_istore_n (pc := 87) dX12_product_87 (by decide) ?_
                    refine wp_goto (pc := 88) 6 dX12_product_88 (by decide) ?_
                    refine wp_ls ?_ (ih (i + 1) (by omega) (by omega) _ (jne (hr l 40 r.2.1) r (P (r.2.1 + 1))) K O g2.2.1 (jn_in _ _ _) (show min l.length 40 ≤ (P (r.2.1 + 1)).2.1 + (40 - (i + 1)) by omega))
                    repeat' (first | exact LE_0 | refine LE_s rfl ?_ | refine LE_s (I_c (by first | omega | (simp only [sm]; omega))) ?_ | refine LE_s (J_c (by first | omega | exact Int.pow_succ _ _ | exact (Int.pow_succ _ _).symm | exact (Int.pow_zero _).symm | (simp only [sm]; omega))) ?_ | refine LE_n ?_)
        ·
          first
          | (exfalso; omega)
          | skip
            refine wp_aload_n (pc := 22) dX12_product_22 rfl ?_
            refine wp_Vp (pc := 23) dX12_product_23 cl_X12_129 (sp_Ref_here (by first | assumption | omega | (repeat (first | assumption | exact pv10 | exact pv11 | refine pv_o (by decide) (by decide) ?_ | exact upN_eq | refine upN_ne (by decide) ?_ | exact upA_eq | refine upA_ne (by first | decide | omega) ?_ | refine SV_at (by assumption) (by decide) ?_ | refine SA_at (by assumption) (by first | decide | (simp; omega)) ?_ | exact rfl))) (by first | assumption | omega | (repeat (first | assumption | exact pv10 | exact pv11 | refine pv_o (by decide) (by decide) ?_ | exact upN_eq | refine upN_ne (by decide) ?_ | exact upA_eq | refine upA_ne (by first | decide | omega) ?_ | refine SV_at (by assumption) (by decide) ?_ | refine SA_at (by assumption) (by first | decide | (simp; omega)) ?_ | exact rfl))) (by first | assumption | omega | (repeat (first | assumption | exact pv10 | exact pv11 | refine pv_o (by decide) (by decide) ?_ | exact upN_eq | refine upN_ne (by decide) ?_ | exact upA_eq | refine upA_ne (by first | decide | omega) ?_ | refine SV_at (by assumption) (by decide) ?_ | refine SA_at (by assumption) (by first | decide | (simp; omega)) ?_ | exact rfl)))) rfl rfl K.1 (by rfl) (rm_ok (by omega) (by decide)) (Nat.le_of_ble_eq_true rfl) ?_
            refine wp_bipush (pc := 26) (y := 47) dX12_product_26 (by decide) ?_
            refine wp_icmp_ne (pc := 28) 91 dX12_product_28 (by decide) (by first | omega | exact TI.i5 (by assumption) | exact TI.i3 (by assumption) | exact TI.i2 (by assumption) | exact TI.i1 (by assumption) | exact TI.i0 (by assumption) | exact TI.i4 (by assumption) | exact TI.i6 (by assumption) | exact TI.i7 (by assumption)) (by first | omega | exact TI.i5 (by assumption) | exact TI.i3 (by assumption) | exact TI.i2 (by assumption) | exact TI.i1 (by assumption) | exact TI.i0 (by assumption) | exact TI.i4 (by assumption) | exact TI.i6 (by assumption) | exact TI.i7 (by assumption)) (fun c28 => ?_) (fun c28 => ?_)
            ·
              rw [chE_no (fun z => by omega)] -- go
              refine wp_iload_n (pc := 91) dX12_product_91 rfl ?_
              exact wp_ir (pc := 92) dX12_product_92 rfl (Nat.le_refl 0) (Nat.le_refl 0) (by first | rfl | omega) (by first | exact ⟨K, O⟩ | rfl)
            ·
              first
              | (exfalso; omega)
              | skip
                have z : hr l 40 r.2.1 = 42 ∨ hr l 40 r.2.1 = 47 := by omega
                have hq := hlt (by omega)
                have e0 : chE (hr l 40) 42 47 P (40 - i) r = chE (hr l 40) 42 47 P (40 - (i + 1)) (jne (hr l 40 r.2.1) r (P (r.2.1 + 1))) := by rw [show 40 - i = (40 - (i + 1)) + 1 by omega]; exact if_pos ⟨pw_f c10, z⟩
                have g2 := hG (r.2.1 + 1) hq
                rw [e0]
                refine wp_aload_n (pc := 31) dX12_product_31 rfl ?_
                refine wp_Vp (pc := 32) dX12_product_32 cl_X12_129 (sp_Ref_here (by first | assumption | omega | (repeat (first | assumption | exact pv10 | exact pv11 | refine pv_o (by decide) (by decide) ?_ | exact upN_eq | refine upN_ne (by decide) ?_ | exact upA_eq | refine upA_ne (by first | decide | omega) ?_ | refine SV_at (by assumption) (by decide) ?_ | refine SA_at (by assumption) (by first | decide | (simp; omega)) ?_ | exact rfl))) (by first | assumption | omega | (repeat (first | assumption | exact pv10 | exact pv11 | refine pv_o (by decide) (by decide) ?_ | exact upN_eq | refine upN_ne (by decide) ?_ | exact upA_eq | refine upA_ne (by first | decide | omega) ?_ | refine SV_at (by assumption) (by decide) ?_ | refine SA_at (by assumption) (by first | decide | (simp; omega)) ?_ | exact rfl))) (by first | assumption | omega | (repeat (first | assumption | exact pv10 | exact pv11 | refine pv_o (by decide) (by decide) ?_ | exact upN_eq | refine upN_ne (by decide) ?_ | exact upA_eq | refine upA_ne (by first | decide | omega) ?_ | refine SV_at (by assumption) (by decide) ?_ | refine SA_at (by assumption) (by first | decide | (simp; omega)) ?_ | exact rfl)))) rfl rfl K.1 (by rfl) (rm_ok (by omega) (by decide)) (Nat.le_of_ble_eq_true rfl) ?_
                refine wp_bipush (pc := 35) (y := 42) dX12_product_35 (by decide) ?_
                refine wp_icmp_ne (pc := 37) 44 dX12_product_37 (by decide) (by first | omega | exact TI.i5 (by assumption) | exact TI.i3 (by assumption) | exact TI.i2 (by assumption) | exact TI.i1 (by assumption) | exact TI.i0 (by assumption) | exact TI.i4 (by assumption) | exact TI.i6 (by assumption) | exact TI.i7 (by assumption)) (by first | omega | exact TI.i5 (by assumption) | exact TI.i3 (by assumption) | exact TI.i2 (by assumption) | exact TI.i1 (by assumption) | exact TI.i0 (by assumption) | exact TI.i4 (by assumption) | exact TI.i6 (by assumption) | exact TI.i7 (by assumption)) (fun c37 => ?_) (fun c37 => ?_)
                ·
                  first
                  | (exfalso; omega)
                  | skip
                    refine wp_iconst (pc := 44) dX12_product_44 ?_
                    refine wp_istore_n (pc := 45) dX12_product_45 (by decide) ?_
                    refine wp_aload_n (pc := 46) dX12_product_46 rfl ?_
                    refine wp_dup (pc := 47) dX12_product_47 rfl ?_
                    refine wm_gets dX12_product_48 gf_X12_115 K (by rfl) (by repeat (first | assumption | exact pv10 | exact pv11 | refine pv_o (by decide) (by decide) ?_ | exact upN_eq | refine upN_ne (by decide) ?_ | refine SV_at (by assumption) (by decide) ?_ | exact rfl)) ?_
                    refine wp_iconst (pc := 51) dX12_product_51 ?_
                    refine wp_iadd (pc := 52) dX12_product_52 ?_
                    refine wm_put dX12_product_53 pf_X12_115 K O (by decide) mset_10 rfl rfl (fun hp K O => ?_)
                    try rw [pv_at] at K
                    rw [c10] at K
                    refine wp_aload_n (pc := 56) dX12_product_56 rfl ?_
                    refine wp_iload_n (pc := 57) dX12_product_57 rfl ?_
                    refine wp_Vs (pc := 58) dX12_product_58 cl_X12_168 (hT _ (r.2.1 + 1) K hq) rfl rfl K.1 (by rfl) (rm_ok (by omega) (by decide)) (Nat.le_of_ble_eq_true rfl) (fun hp58 e58 => ?_)
                    obtain ⟨K, O1⟩ := e58
                    replace O := SO.tr O O1
                    refine wp_istore (pc := 61) dX12_product_61 (by decide) ?_
                    refine wp_iload_n (pc := 63) dX12_product_63 rfl ?_
                    first | refine wp_ifb_eq (pc := 64) 74 dX12_product_64 (by decide) (fun c64 => ?_) (fun c64 => ?_) | refine wp_if_eq (pc := 64) 74 dX12_product_64 (by decide) (by first | omega | exact TI.i5 (by assumption) | exact TI.i3 (by assumption) | exact TI.i2 (by assumption) | exact TI.i1 (by assumption) | exact TI.i0 (by assumption) | exact TI.i4 (by assumption) | exact TI.i6 (by assumption) | exact TI.i7 (by assumption)) (fun c64 => ?_) (fun c64 => ?_)
                    ·
                      first
                      | (exfalso; omega)
                      | skip
                        refine wp_iload (pc := 74) dX12_product_74 rfl ?_
                        first | refine wp_ifb_ne (pc := 76) 83 dX12_product_76 (by decide) (fun c76 => ?_) (fun c76 => ?_) | refine wp_if_ne (pc := 76) 83 dX12_product_76 (by decide) (by first | omega | exact TI.i5 (by assumption) | exact TI.i3 (by assumption) | exact TI.i2 (by assumption) | exact TI.i1 (by assumption) | exact TI.i0 (by assumption) | exact TI.i4 (by assumption) | exact TI.i6 (by assumption) | exact TI.i7 (by assumption)) (fun c76 => ?_) (fun c76 => ?_)
                        ·
                          first
                          | (exfalso; omega)
                          | skip
                            refine wp_iload_n (pc := 83) dX12_product_83 rfl ?_
                            refine wp_iload (pc := 84) dX12_product_84 rfl ?_
                            refine wp_idiv (pc := 86) dX12_product_86 (I_ne0 (by omega) c76) (I_tdiv (by omega) (by omega)) ?_
                            have ej : I (r.2.2.tdiv (P (r.2.1 + 1)).2.2) = I (jn (hr l 40 r.2.1) r.2.2 (P (r.2.1 + 1)).2.2) := by rw [show hr l 40 r.2.1 = 47 by omega, jn47, nz_I, if_neg c76]
                            refine wp_topx ej ?_
                            refine wp_istore_n (pc := 87) dX12_product_87 (by decide) ?_
                            refine wp_goto (pc := 88) 6 dX12_product_88 (by decide) ?_
                            refine wp_ls ?_ (ih (i + 1) (by omega) (by omega) _ (jne (hr l 40 r.2.1) r (P (r.2.1 + 1))) K O g2.2.1 (jn_in _ _ _) (show min l.length 40 ≤ (P (r.2.1 + 1)).2.1 + (40 - (i + 1)) by omega))
                            repeat' (first | exact LE_0 | refine LE_s rfl ?_ | refine LE_s (I_c (by first | omega | (simp only [sm]; omega))) ?_ | refine LE_s (J_c (by first | omega | exact Int.pow_succ _ _ | exact (Int.pow_succ _ _).symm | exact (Int.pow_zero _).symm | (simp only [sm]; omega))) ?_ | refine LE_n ?_)
                        ·
                          first
                          | (exfalso; omega)
                          | skip
                            have ej : I 0 = I (jn (hr l 40 r.2.1) r.2.2 (P (r.2.1 + 1)).2.2) := by rw [show hr l 40 r.2.1 = 47 by omega, jn47, nz_I, if_pos c76]
                            refine wp_iconst (pc := 79) dX12_product_79 ?_
                            refine wp_goto (pc := 80) 87 dX12_product_80 (by decide) ?_
                            refine wp_topx ej ?_
                            refine wp_istore_n (pc := 87) dX12_product_87 (by decide) ?_
                            refine wp_goto (pc := 88) 6 dX12_product_88 (by decide) ?_
                            refine wp_ls ?_ (ih (i + 1) (by omega) (by omega) _ (jne (hr l 40 r.2.1) r (P (r.2.1 + 1))) K O g2.2.1 (jn_in _ _ _) (show min l.length 40 ≤ (P (r.2.1 + 1)).2.1 + (40 - (i + 1)) by omega))
                            repeat' (first | exact LE_0 | refine LE_s rfl ?_ | refine LE_s (I_c (by first | omega | (simp only [sm]; omega))) ?_ | refine LE_s (J_c (by first | omega | exact Int.pow_succ _ _ | exact (Int.pow_succ _ _).symm | exact (Int.pow_zero _).symm | (simp only [sm]; omega))) ?_ | refine LE_n ?_)
                    ·
                      first
                      | (exfalso; omega)
                      | skip
                        refine wp_iload_n (pc := 67) dX12_product_67 rfl ?_
                        refine wp_iload (pc := 68) dX12_product_68 rfl ?_
                        refine wp_imul (pc := 70) dX12_product_70 ?_
                        have ej : I (r.2.2 * (P (r.2.1 + 1)).2.2) = I (jn (hr l 40 r.2.1) r.2.2 (P (r.2.1 + 1)).2.2) := by rw [show hr l 40 r.2.1 = 42 by omega, jn42, nz_I]
                        refine wp_goto (pc := 71) 87 dX12_product_71 (by decide) ?_
                        refine wp_topx ej ?_
                        refine wp_istore_n (pc := 87) dX12_product_87 (by decide) ?_
                        refine wp_goto (pc := 88) 6 dX12_product_88 (by decide) ?_
                        refine wp_ls ?_ (ih (i + 1) (by omega) (by omega) _ (jne (hr l 40 r.2.1) r (P (r.2.1 + 1))) K O g2.2.1 (jn_in _ _ _) (show min l.length 40 ≤ (P (r.2.1 + 1)).2.1 + (40 - (i + 1)) by omega))
                        repeat' (first | exact LE_0 | refine LE_s rfl ?_ | refine LE_s (I_c (by first | omega | (simp only [sm]; omega))) ?_ | refine LE_s (J_c (by first | omega | exact Int.pow_succ _ _ | exact (Int.pow_succ _ _).symm | exact (Int.pow_zero _).symm | (simp only [sm]; omega))) ?_ | refine LE_n ?_)
                ·
                  first
                  | (exfalso; omega)
                  | skip
                    refine wp_iconst (pc := 40) dX12_product_40 ?_
                    refine wp_goto (pc := 41) 45 dX12_product_41 (by decide) ?_
                    refine wp_istore_n (pc := 45) dX12_product_45 (by decide) ?_
                    refine wp_aload_n (pc := 46) dX12_product_46 rfl ?_
                    refine wp_dup (pc := 47) dX12_product_47 rfl ?_
                    refine wm_gets dX12_product_48 gf_X12_115 K (by rfl) (by repeat (first | assumption | exact pv10 | exact pv11 | refine pv_o (by decide) (by decide) ?_ | exact upN_eq | refine upN_ne (by decide) ?_ | refine SV_at (by assumption) (by decide) ?_ | exact rfl)) ?_
                    refine wp_iconst (pc := 51) dX12_product_51 ?_
                    refine wp_iadd (pc := 52) dX12_product_52 ?_
                    refine wm_put dX12_product_53 pf_X12_115 K O (by decide) mset_10 rfl rfl (fun hp K O => ?_)
                    try rw [pv_at] at K
                    rw [c10] at K
                    refine wp_aload_n (pc := 56) dX12_product_56 rfl ?_
                    refine wp_iload_n (pc := 57) dX12_product_57 rfl ?_
                    refine wp_Vs (pc := 58) dX12_product_58 cl_X12_168 (hT _ (r.2.1 + 1) K hq) rfl rfl K.1 (by rfl) (rm_ok (by omega) (by decide)) (Nat.le_of_ble_eq_true rfl) (fun hp58 e58 => ?_)
                    obtain ⟨K, O1⟩ := e58
                    replace O := SO.tr O O1
                    refine wp_istore (pc := 61) dX12_product_61 (by decide) ?_
                    refine wp_iload_n (pc := 63) dX12_product_63 rfl ?_
                    first | refine wp_ifb_eq (pc := 64) 74 dX12_product_64 (by decide) (fun c64 => ?_) (fun c64 => ?_) | refine wp_if_eq (pc := 64) 74 dX12_product_64 (by decide) (by first | omega | exact TI.i5 (by assumption) | exact TI.i3 (by assumption) | exact TI.i2 (by assumption) | exact TI.i1 (by assumption) | exact TI.i0 (by assumption) | exact TI.i4 (by assumption) | exact TI.i6 (by assumption) | exact TI.i7 (by assumption)) (fun c64 => ?_) (fun c64 => ?_)
                    ·
                      first
                      | (exfalso; omega)
                      | skip
                        refine wp_iload (pc := 74) dX12_product_74 rfl ?_
                        first | refine wp_ifb_ne (pc := 76) 83 dX12_product_76 (by decide) (fun c76 => ?_) (fun c76 => ?_) | refine wp_if_ne (pc := 76) 83 dX12_product_76 (by decide) (by first | omega | exact TI.i5 (by assumption) | exact TI.i3 (by assumption) | exact TI.i2 (by assumption) | exact TI.i1 (by assumption) | exact TI.i0 (by assumption) | exact TI.i4 (by assumption) | exact TI.i6 (by assumption) | exact TI.i7 (by assumption)) (fun c76 => ?_) (fun c76 => ?_)
                        ·
                          first
                          | (exfalso; omega)
                          | skip
                            refine wp_iload_n (pc := 83) dX12_product_83 rfl ?_
                            refine wp_iload (pc := 84) dX12_product_84 rfl ?_
                            refine wp_idiv (pc := 86) dX12_product_86 (I_ne0 (by omega) c76) (I_tdiv (by omega) (by omega)) ?_
                            have ej : I (r.2.2.tdiv (P (r.2.1 + 1)).2.2) = I (jn (hr l 40 r.2.1) r.2.2 (P (r.2.1 + 1)).2.2) := by rw [show hr l 40 r.2.1 = 47 by omega, jn47, nz_I, if_neg c76]
                            refine wp_topx ej ?_
                            refine wp_istore_n (pc := 87) dX12_product_87 (by decide) ?_
                            refine wp_goto (pc := 88) 6 dX12_product_88 (by decide) ?_
                            refine wp_ls ?_ (ih (i + 1) (by omega) (by omega) _ (jne (hr l 40 r.2.1) r (P (r.2.1 + 1))) K O g2.2.1 (jn_in _ _ _) (show min l.length 40 ≤ (P (r.2.1 + 1)).2.1 + (40 - (i + 1)) by omega))
                            repeat' (first | exact LE_0 | refine LE_s rfl ?_ | refine LE_s (I_c (by first | omega | (simp only [sm]; omega))) ?_ | refine LE_s (J_c (by first | omega | exact Int.pow_succ _ _ | exact (Int.pow_succ _ _).symm | exact (Int.pow_zero _).symm | (simp only [sm]; omega))) ?_ | refine LE_n ?_)
                        ·
                          first
                          | (exfalso; omega)
                          | skip
                            have ej : I 0 = I (jn (hr l 40 r.2.1) r.2.2 (P (r.2.1 + 1)).2.2) := by rw [show hr l 40 r.2.1 = 47 by omega, jn47, nz_I, if_pos c76]
                            refine wp_iconst (pc := 79) dX12_product_79 ?_
                            refine wp_goto (pc := 80) 87 dX12_product_80 (by decide) ?_
                            refine wp_topx ej ?_
                            refine wp_istore_n (pc := 87) dX12_product_87 (by decide) ?_
                            refine wp_goto (pc := 88) 6 dX12_product_88 (by decide) ?_
                            refine wp_ls ?_ (ih (i + 1) (by omega) (by omega) _ (jne (hr l 40 r.2.1) r (P (r.2.1 + 1))) K O g2.2.1 (jn_in _ _ _) (show min l.length 40 ≤ (P (r.2.1 + 1)).2.1 + (40 - (i + 1)) by omega))
                            repeat' (first | exact LE_0 | refine LE_s rfl ?_ | refine LE_s (I_c (by first | omega | (simp only [sm]; omega))) ?_ | refine LE_s (J_c (by first | omega | exact Int.pow_succ _ _ | exact (Int.pow_succ _ _).symm | exact (Int.pow_zero _).symm | (simp only [sm]; omega))) ?_ | refine LE_n ?_)
                    ·
                      first
                      | (exfalso; omega)
                      | skip
                        refine wp_iload_n (pc := 67) dX12_product_67 rfl ?_
                        refine wp_iload (pc := 68) dX12_product_68 rfl ?_
                        refine wp_imul (pc := 70) dX12_product_70 ?_
                        have ej : I (r.2.2 * (P (r.2.1 + 1)).2.2) = I (jn (hr l 40 r.2.1) r.2.2 (P (r.2.1 + 1)).2.2) := by rw [show hr l 40 r.2.1 = 42 by omega, jn42, nz_I]
                        refine wp_goto (pc := 71) 87 dX12_product_71 (by decide) ?_
                        refine wp_topx ej ?_
                        refine wp_istore_n (pc := 87) dX12_product_87 (by decide) ?_
                        refine wp_goto (pc := 88) 6 dX12_product_88 (by decide) ?_
                        refine wp_ls ?_ (ih (i + 1) (by omega) (by omega) _ (jne (hr l 40 r.2.1) r (P (r.2.1 + 1))) K O g2.2.1 (jn_in _ _ _) (show min l.length 40 ≤ (P (r.2.1 + 1)).2.1 + (40 - (i + 1)) by omega))
                        repeat' (first | exact LE_0 | refine LE_s rfl ?_ | refine LE_s (I_c (by first | omega | (simp only [sm]; omega))) ?_ | refine LE_s (J_c (by first | omega | exact Int.pow_succ _ _ | exact (Int.pow_succ _ _).symm | exact (Int.pow_zero _).symm | (simp only [sm]; omega))) ?_ | refine LE_n ?_)
theorem sp_Ref_product {P : Nat → ER} (K : ModAt hp q (pv V p (-1)) A rd rl) (R : RdL A V q rd l 40) (hT : EvS g q V A rd rl (min l.length 40) MX12_thing (45*L+44) P dep) (hG : GE (min l.length 40) P) (hpl : p ≤ min l.length 40) : Sp g MX12_product (rm (45*L+46) 0 0) [.ref q, .int (I dep)] hp (Eff (.int (I (chE (hr l 40) 42 47 P 40 (P p)).2.2)) (fun hp2 => ModAt hp2 q (pv V (chE (hr l 40) 42 47 P 40 (P p)).2.1 (pw (chE (hr l 40) 42 47 P 40 (P p)))) A rd rl ∧ SO hp hp2 q (q + 25))) := by
  have g2 := hG p hpl
  refine Sp_mk rfl (Nat.le_of_ble_eq_true rfl) ?_
  show wp g _ _ _ 0 0 0 [some (.ref q), some (.int (I dep)), none, none, none] [] hp
  have O := SO.rf (hp := hp) (lo := q) (hi := q + 25)
  refine wp_aload_n (pc := 0) dX12_product_0 rfl ?_
  refine wp_iload_n (pc := 1) dX12_product_1 rfl ?_
  refine wp_Vs (pc := 2) dX12_product_2 cl_X12_168 (hT _ p K hpl) rfl rfl K.1 (by rfl) (rm_ok (by omega) (by decide)) (Nat.le_of_ble_eq_true rfl) (fun hp2 e2 => ?_)
  obtain ⟨K, O1⟩ := e2
  replace O := SO.tr O O1
  refine wp_istore_n (pc := 5) dX12_product_5 (by decide) ?_
  refine wp_ls ?_ (lp_Ref_product R hT hG 41 0 (by omega) (by omega) _ (P p) K O g2.2.1 g2.2.2 (by omega))
  repeat' (first | exact LE_0 | refine LE_s rfl ?_ | refine LE_s (I_c (by first | omega | (simp only [sm]; omega))) ?_ | refine LE_s (J_c (by first | omega | exact Int.pow_succ _ _ | exact (Int.pow_succ _ _).symm | exact (Int.pow_zero _).symm | (simp only [sm]; omega))) ?_ | refine LE_n ?_)
theorem lp_Ref_sum {P : Nat → ER} (R : RdL A V q rd l 40) (hT : EvS g q V A rd rl (min l.length 40) MX12_product (45*L+46) P dep) (hG : GE (min l.length 40) P) : ∀ (m i : Nat), 40 < i + m → i ≤ 40 → ∀ (hp2 : Hp) (r : ER) (K : ModAt hp2 q (pv V r.2.1 (pw r)) A rd rl) (O : SO hp hp2 q (q + 25)) (hl : r.2.1 ≤ min l.length 40) (hv : InR r.2.2) (hf : min l.length 40 ≤ r.2.1 + (40 - i)), wp g MX12_sum (rm (45*L+47) 0 0) (Eff (.int (I (chE (hr l 40) 43 45 P (40 - i) r).2.2)) (fun hp3 => ModAt hp3 q (pv V (chE (hr l 40) 43 45 P (40 - i) r).2.1 (pw (chE (hr l 40) 43 45 P (40 - i) r))) A rd rl ∧ SO hp hp3 q (q + 25))) 0 0 6 [some (.ref q), some (.int (I dep)), some (.int (I r.2.2)), none, none] [] hp2 := by
  intro m
  induction m with
  | zero => intro i h1 h2; exact absurd h1 (by omega)
  | succ m ih =>
    intro i h1 h2 hp2 r K O hl hv hf
    have hn := NX_h R.bb
    have hh := (hn.2 r.2.1).2
    have hlt := hn.lt (p := r.2.1)
    have hpi := pw_in (r := r) (by omega)
    refine wp_aload_n (pc := 6) dX12_sum_6 rfl ?_
    refine wp_Vp (pc := 7) dX12_sum_7 cl_X12_125 (sp_Ref_fine (by first | assumption | omega | (repeat (first | assumption | exact pv10 | exact pv11 | refine pv_o (by decide) (by decide) ?_ | exact upN_eq | refine upN_ne (by decide) ?_ | exact upA_eq | refine upA_ne (by first | decide | omega) ?_ | refine SV_at (by assumption) (by decide) ?_ | refine SA_at (by assumption) (by first | decide | (simp; omega)) ?_ | exact rfl))) (by first | assumption | omega | (repeat (first | assumption | exact pv10 | exact pv11 | refine pv_o (by decide) (by decide) ?_ | exact upN_eq | refine upN_ne (by decide) ?_ | exact upA_eq | refine upA_ne (by first | decide | omega) ?_ | refine SV_at (by assumption) (by decide) ?_ | refine SA_at (by assumption) (by first | decide | (simp; omega)) ?_ | exact rfl)))) rfl rfl K.1 (by rfl) (rm_ok (by omega) (by decide)) (Nat.le_of_ble_eq_true rfl) ?_
    first | refine wp_ifb_eq (pc := 10) 82 dX12_sum_10 (by decide) (fun c10 => ?_) (fun c10 => ?_) | refine wp_if_eq (pc := 10) 82 dX12_sum_10 (by decide) (by first | omega | exact TI.i5 (by assumption) | exact TI.i3 (by assumption) | exact TI.i2 (by assumption) | exact TI.i1 (by assumption) | exact TI.i0 (by assumption) | exact TI.i4 (by assumption) | exact TI.i6 (by assumption) | exact TI.i7 (by assumption)) (fun c10 => ?_) (fun c10 => ?_)
    ·
      rw [chE_no (fun z => c10 (pw_t z.1))] -- go
      refine wp_iload_n (pc := 82) dX12_sum_82 rfl ?_
      exact wp_ir (pc := 83) dX12_sum_83 rfl (Nat.le_refl 0) (Nat.le_refl 0) (by first | rfl | omega) (by first | exact ⟨K, O⟩ | rfl)
    ·
      first
      | (exfalso; omega)
      | skip
        refine wp_aload_n (pc := 13) dX12_sum_13 rfl ?_
        refine wp_Vp (pc := 14) dX12_sum_14 cl_X12_129 (sp_Ref_here (by first | assumption | omega | (repeat (first | assumption | exact pv10 | exact pv11 | refine pv_o (by decide) (by decide) ?_ | exact upN_eq | refine upN_ne (by decide) ?_ | exact upA_eq | refine upA_ne (by first | decide | omega) ?_ | refine SV_at (by assumption) (by decide) ?_ | refine SA_at (by assumption) (by first | decide | (simp; omega)) ?_ | exact rfl))) (by first | assumption | omega | (repeat (first | assumption | exact pv10 | exact pv11 | refine pv_o (by decide) (by decide) ?_ | exact upN_eq | refine upN_ne (by decide) ?_ | exact upA_eq | refine upA_ne (by first | decide | omega) ?_ | refine SV_at (by assumption) (by decide) ?_ | refine SA_at (by assumption) (by first | decide | (simp; omega)) ?_ | exact rfl))) (by first | assumption | omega | (repeat (first | assumption | exact pv10 | exact pv11 | refine pv_o (by decide) (by decide) ?_ | exact upN_eq | refine upN_ne (by decide) ?_ | exact upA_eq | refine upA_ne (by first | decide | omega) ?_ | refine SV_at (by assumption) (by decide) ?_ | refine SA_at (by assumption) (by first | decide | (simp; omega)) ?_ | exact rfl)))) rfl rfl K.1 (by rfl) (rm_ok (by omega) (by decide)) (Nat.le_of_ble_eq_true rfl) ?_
        refine wp_bipush (pc := 17) (y := 43) dX12_sum_17 (by decide) ?_
        refine wp_icmp_eq (pc := 19) 31 dX12_sum_19 (by decide) (by first | omega | exact TI.i5 (by assumption) | exact TI.i3 (by assumption) | exact TI.i2 (by assumption) | exact TI.i1 (by assumption) | exact TI.i0 (by assumption) | exact TI.i4 (by assumption) | exact TI.i6 (by assumption) | exact TI.i7 (by assumption)) (by first | omega | exact TI.i5 (by assumption) | exact TI.i3 (by assumption) | exact TI.i2 (by assumption) | exact TI.i1 (by assumption) | exact TI.i0 (by assumption) | exact TI.i4 (by assumption) | exact TI.i6 (by assumption) | exact TI.i7 (by assumption)) (fun c19 => ?_) (fun c19 => ?_)
        ·
          first
          | (exfalso; omega)
          | skip
            have z : hr l 40 r.2.1 = 43 ∨ hr l 40 r.2.1 = 45 := by omega
            have hq := hlt (by omega)
            have e0 : chE (hr l 40) 43 45 P (40 - i) r = chE (hr l 40) 43 45 P (40 - (i + 1)) (jne (hr l 40 r.2.1) r (P (r.2.1 + 1))) := by rw [show 40 - i = (40 - (i + 1)) + 1 by omega]; exact if_pos ⟨pw_f c10, z⟩
            have g2 := hG (r.2.1 + 1) hq
            rw [e0]
            refine wp_aload_n (pc := 31) dX12_sum_31 rfl ?_
            refine wp_Vp (pc := 32) dX12_sum_32 cl_X12_129 (sp_Ref_here (by first | assumption | omega | (repeat (first | assumption | exact pv10 | exact pv11 | refine pv_o (by decide) (by decide) ?_ | exact upN_eq | refine upN_ne (by decide) ?_ | exact upA_eq | refine upA_ne (by first | decide | omega) ?_ | refine SV_at (by assumption) (by decide) ?_ | refine SA_at (by assumption) (by first | decide | (simp; omega)) ?_ | exact rfl))) (by first | assumption | omega | (repeat (first | assumption | exact pv10 | exact pv11 | refine pv_o (by decide) (by decide) ?_ | exact upN_eq | refine upN_ne (by decide) ?_ | exact upA_eq | refine upA_ne (by first | decide | omega) ?_ | refine SV_at (by assumption) (by decide) ?_ | refine SA_at (by assumption) (by first | decide | (simp; omega)) ?_ | exact rfl))) (by first | assumption | omega | (repeat (first | assumption | exact pv10 | exact pv11 | refine pv_o (by decide) (by decide) ?_ | exact upN_eq | refine upN_ne (by decide) ?_ | exact upA_eq | refine upA_ne (by first | decide | omega) ?_ | refine SV_at (by assumption) (by decide) ?_ | refine SA_at (by assumption) (by first | decide | (simp; omega)) ?_ | exact rfl)))) rfl rfl K.1 (by rfl) (rm_ok (by omega) (by decide)) (Nat.le_of_ble_eq_true rfl) ?_
            refine wp_bipush (pc := 35) (y := 43) dX12_sum_35 (by decide) ?_
            refine wp_icmp_ne (pc := 37) 44 dX12_sum_37 (by decide) (by first | omega | exact TI.i5 (by assumption) | exact TI.i3 (by assumption) | exact TI.i2 (by assumption) | exact TI.i1 (by assumption) | exact TI.i0 (by assumption) | exact TI.i4 (by assumption) | exact TI.i6 (by assumption) | exact TI.i7 (by assumption)) (by first | omega | exact TI.i5 (by assumption) | exact TI.i3 (by assumption) | exact TI.i2 (by assumption) | exact TI.i1 (by assumption) | exact TI.i0 (by assumption) | exact TI.i4 (by assumption) | exact TI.i6 (by assumption) | exact TI.i7 (by assumption)) (fun c37 => ?_) (fun c37 => ?_)
            ·
              first
              | (exfalso; omega)
              | skip
                refine wp_iconst (pc := 44) dX12_sum_44 ?_
                refine wp_istore_n (pc := 45) dX12_sum_45 (by decide) ?_
                refine wp_aload_n (pc := 46) dX12_sum_46 rfl ?_
                refine wp_dup (pc := 47) dX12_sum_47 rfl ?_
                refine wm_gets dX12_sum_48 gf_X12_115 K (by rfl) (by repeat (first | assumption | exact pv10 | exact pv11 | refine pv_o (by decide) (by decide) ?_ | exact upN_eq | refine upN_ne (by decide) ?_ | refine SV_at (by assumption) (by decide) ?_ | exact rfl)) ?_
                refine wp_iconst (pc := 51) dX12_sum_51 ?_
                refine wp_iadd (pc := 52) dX12_sum_52 ?_
                refine wm_put dX12_sum_53 pf_X12_115 K O (by decide) mset_10 rfl rfl (fun hp K O => ?_)
                try rw [pv_at] at K
                rw [c10] at K
                refine wp_aload_n (pc := 56) dX12_sum_56 rfl ?_
                refine wp_iload_n (pc := 57) dX12_sum_57 rfl ?_
                refine wp_Vs (pc := 58) dX12_sum_58 cl_X12_165 (hT _ (r.2.1 + 1) K hq) rfl rfl K.1 (by rfl) (rm_ok (by omega) (by decide)) (Nat.le_of_ble_eq_true rfl) (fun hp58 e58 => ?_)
                obtain ⟨K, O1⟩ := e58
                replace O := SO.tr O O1
                refine wp_istore (pc := 61) dX12_sum_61 (by decide) ?_
                refine wp_iload_n (pc := 63) dX12_sum_63 rfl ?_
                first | refine wp_ifb_eq (pc := 64) 74 dX12_sum_64 (by decide) (fun c64 => ?_) (fun c64 => ?_) | refine wp_if_eq (pc := 64) 74 dX12_sum_64 (by decide) (by first | omega | exact TI.i5 (by assumption) | exact TI.i3 (by assumption) | exact TI.i2 (by assumption) | exact TI.i1 (by assumption) | exact TI.i0 (by assumption) | exact TI.i4 (by assumption) | exact TI.i6 (by assumption) | exact TI.i7 (by assumption)) (fun c64 => ?_) (fun c64 => ?_)
                ·
                  first
                  | (exfalso; omega)
                  | skip
                    refine wp_iload_n (pc := 74) dX12_sum_74 rfl ?_
                    refine wp_iload (pc := 75) dX12_sum_75 rfl ?_
                    refine wp_isub (pc := 77) dX12_sum_77 ?_
                    have ej : I (r.2.2 - (P (r.2.1 + 1)).2.2) = I (jn (hr l 40 r.2.1) r.2.2 (P (r.2.1 + 1)).2.2) := by rw [show hr l 40 r.2.1 = 45 by omega, jn45, nz_I]
                    refine wp_topx ej ?_
                    refine wp_istore_n (pc := 78) dX12_sum_78 (by decide) ?_
                    refine wp_goto (pc := 79) 6 dX12_sum_79 (by decide) ?_
                    refine wp_ls ?_ (ih (i + 1) (by omega) (by omega) _ (jne (hr l 40 r.2.1) r (P (r.2.1 + 1))) K O g2.2.1 (jn_in _ _ _) (show min l.length 40 ≤ (P (r.2.1 + 1)).2.1 + (40 - (i + 1)) by omega))
                    repeat' (first | exact LE_0 | refine LE_s rfl ?_ | refine LE_s (I_c (by first | omega | (simp only [sm]; omega))) ?_ | refine LE_s (J_c (by first | omega | exact Int.pow_succ _ _ | exact (Int.pow_succ _ _).symm | exact (Int.pow_zero _).symm | (simp only [sm]; omega))) ?_ | refine LE_n ?_)
                ·
                  first
                  | (exfalso; omega)
                  | skip
                    refine wp_iload_n (pc := 67) dX12_sum_67 rfl ?_
                    refine wp_iload (pc := 68) dX12_sum_68 rfl ?_
                    refine wp_iadd (pc := 70) dX12_sum_70 ?_
                    have ej : I (r.2.2 + (P (r.2.1 + 1)).2.2) = I (jn (hr l 40 r.2.1) r.2.2 (P (r.2.1 + 1)).2.2) := by rw [show hr l 40 r.2.1 = 43 by omega, jn43, nz_I]
                    refine wp_goto (pc := 71) 78 dX12_sum_71 (by decide) ?_
                    refine wp_topx ej ?_
                    refine wp_istore_n (pc := 78) dX12_sum_78 (by decide) ?_
                    refine wp_goto (pc := 79) 6 dX12_sum_79 (by decide) ?_
                    refine wp_ls ?_ (ih (i + 1) (by omega) (by omega) _ (jne (hr l 40 r.2.1) r (P (r.2.1 + 1))) K O g2.2.1 (jn_in _ _ _) (show min l.length 40 ≤ (P (r.2.1 + 1)).2.1 + (40 - (i + 1)) by omega))
                    repeat' (first | exact LE_0 | refine LE_s rfl ?_ | refine LE_s (I_c (by first | omega | (simp only [sm]; omega))) ?_ | refine LE_s (J_c (by first | omega | exact Int.pow_succ _ _ | exact (Int.pow_succ _ _).symm | exact (Int.pow_zero _).symm | (simp only [sm]; omega))) ?_ | refine LE_n ?_)
            ·
              first
              | (exfalso; omega)
              | skip
                refine wp_iconst (pc := 40) dX12_sum_40 ?_
                refine wp_goto (pc := 41) 45 dX12_sum_41 (by decide) ?_
                refine wp_istore_n (pc := 45) dX12_sum_45 (by decide) ?_
                refine wp_aload_n (pc := 46) dX12_sum_46 rfl ?_
                refine wp_dup (pc := 47) dX12_sum_47 rfl ?_
                refine wm_gets dX12_sum_48 gf_X12_115 K (by rfl) (by repeat (first | assumption | exact pv10 | exact pv11 | refine pv_o (by decide) (by decide) ?_ | exact upN_eq | refine upN_ne (by decide) ?_ | refine SV_at (by assumption) (by decide) ?_ | exact rfl)) ?_
                refine wp_iconst (pc := 51) dX12_sum_51 ?_
                refine wp_iadd (pc := 52) dX12_sum_52 ?_
                refine wm_put dX12_sum_53 pf_X12_115 K O (by decide) mset_10 rfl rfl (fun hp K O => ?_)
                try rw [pv_at] at K
                rw [c10] at K
                refine wp_aload_n (pc := 56) dX12_sum_56 rfl ?_
                refine wp_iload_n (pc := 57) dX12_sum_57 rfl ?_
                refine wp_Vs (pc := 58) dX12_sum_58 cl_X12_165 (hT _ (r.2.1 + 1) K hq) rfl rfl K.1 (by rfl) (rm_ok (by omega) (by decide)) (Nat.le_of_ble_eq_true rfl) (fun hp58 e58 => ?_)
                obtain ⟨K, O1⟩ := e58
                replace O := SO.tr O O1
                refine wp_istore (pc := 61) dX12_sum_61 (by decide) ?_
                refine wp_iload_n (pc := 63) dX12_sum_63 rfl ?_
                first | refine wp_ifb_eq (pc := 64) 74 dX12_sum_64 (by decide) (fun c64 => ?_) (fun c64 => ?_) | refine wp_if_eq (pc := 64) 74 dX12_sum_64 (by decide) (by first | omega | exact TI.i5 (by assumption) | exact TI.i3 (by assumption) | exact TI.i2 (by assumption) | exact TI.i1 (by assumption) | exact TI.i0 (by assumption) | exact TI.i4 (by assumption) | exact TI.i6 (by assumption) | exact TI.i7 (by assumption)) (fun c64 => ?_) (fun c64 => ?_)
                ·
                  first
                  | (exfalso; omega)
                  | skip
                    refine wp_iload_n (pc := 74) dX12_sum_74 rfl ?_
                    refine wp_iload (pc := 75) dX12_sum_75 rfl ?_
                    refine wp_isub (pc := 77) dX12_sum_77 ?_
                    have ej : I (r.2.2 - (P (r.2.1 + 1)).2.2) = I (jn (hr l 40 r.2.1) r.2.2 (P (r.2.1 + 1)).2.2) := by rw [show hr l 40 r.2.1 = 45 by omega, jn45, nz_I]
                    refine wp_topx ej ?_
                    refine wp_istore_n (pc := 78) dX12_sum_78 (by decide) ?_
                    refine wp_goto (pc := 79) 6 dX12_sum_79 (by decide) ?_
                    refine wp_ls ?_ (ih (i + 1) (by omega) (by omega) _ (jne (hr l 40 r.2.1) r (P (r.2.1 + 1))) K O g2.2.1 (jn_in _ _ _) (show min l.length 40 ≤ (P (r.2.1 + 1)).2.1 + (40 - (i + 1)) by omega))
                    repeat' (first | exact LE_0 | refine LE_s rfl ?_ | refine LE_s (I_c (by first | omega | (simp only [sm]; omega))) ?_ | refine LE_s (J_c (by first | omega | exact Int.pow_succ _ _ | exact (Int.pow_succ _ _).symm | exact (Int.pow_zero _).symm | (simp only [sm]; omega))) ?_ | refine LE_n ?_)
                ·
                  first
                  | (exfalso; omega)
                  | skip
                    refine wp_iload_n (pc := 67) dX12_sum_67 rfl ?_
                    refine wp_iload (pc := 68) dX12_sum_68 rfl ?_
                    refine wp_iadd (pc := 70) dX12_sum_70 ?_
                    have ej : I (r.2.2 + (P (r.2.1 + 1)).2.2) = I (jn (hr l 40 r.2.1) r.2.2 (P (r.2.1 + 1)).2.2) := by rw [show hr l 40 r.2.1 = 43 by omega, jn43, nz_I]
                    refine wp_goto (pc := 71) 78 dX12_sum_71 (by decide) ?_
                    refine wp_topx ej ?_
                    refine wp_istore_n (pc := 78) dX12_sum_78 (by decide) ?_
                    refine wp_goto (pc := 79) 6 dX12_sum_79 (by decide) ?_
                    refine wp_ls ?_ (ih (i + 1) (by omega) (by omega) _ (jne (hr l 40 r.2.1) r (P (r.2.1 + 1))) K O g2.2.1 (jn_in _ _ _) (show min l.length 40 ≤ (P (r.2.1 + 1)).2.1 + (40 - (i + 1)) by omega))
                    repeat' (first | exact LE_0 | refine LE_s rfl ?_ | refine LE_s (I_c (by first | omega | (simp only [sm]; omega))) ?_ | refine LE_s (J_c (by first | omega | exact Int.pow_succ _ _ | exact (Int.pow_succ _ _).symm | exact (Int.pow_zero _).symm | (simp only [sm]; omega))) ?_ | refine LE_n ?_)
        ·
          first
          | (exfalso; omega)
          | skip
            refine wp_aload_n (pc := 22) dX12_sum_22 rfl ?_
            refine wp_Vp (pc := 23) dX12_sum_23 cl_X12_129 (sp_Ref_here (by first | assumption | omega | (repeat (first | assumption | exact pv10 | exact pv11 | refine pv_o (by decide) (by decide) ?_ | exact upN_eq | refine upN_ne (by decide) ?_ | exact upA_eq | refine upA_ne (by first | decide | omega) ?_ | refine SV_at (by assumption) (by decide) ?_ | refine SA_at (by assumption) (by first | decide | (simp; omega)) ?_ | exact rfl))) (by first | assumption | omega | (repeat (first | assumption | exact pv10 | exact pv11 | refine pv_o (by decide) (by decide) ?_ | exact upN_eq | refine upN_ne (by decide) ?_ | exact upA_eq | refine upA_ne (by first | decide | omega) ?_ | refine SV_at (by assumption) (by decide) ?_ | refine SA_at (by assumption) (by first | decide | (simp; omega)) ?_ | exact rfl))) (by first | assumption | omega | (repeat (first | assumption | exact pv10 | exact pv11 | refine pv_o (by decide) (by decide) ?_ | exact upN_eq | refine upN_ne (by decide) ?_ | exact upA_eq | refine upA_ne (by first | decide | omega) ?_ | refine SV_at (by assumption) (by decide) ?_ | refine SA_at (by assumption) (by first | decide | (simp; omega)) ?_ | exact rfl)))) rfl rfl K.1 (by rfl) (rm_ok (by omega) (by decide)) (Nat.le_of_ble_eq_true rfl) ?_
            refine wp_bipush (pc := 26) (y := 45) dX12_sum_26 (by decide) ?_
            refine wp_icmp_ne (pc := 28) 82 dX12_sum_28 (by decide) (by first | omega | exact TI.i5 (by assumption) | exact TI.i3 (by assumption) | exact TI.i2 (by assumption) | exact TI.i1 (by assumption) | exact TI.i0 (by assumption) | exact TI.i4 (by assumption) | exact TI.i6 (by assumption) | exact TI.i7 (by assumption)) (by first | omega | exact TI.i5 (by assumption) | exact TI.i3 (by assumption) | exact TI.i2 (by assumption) | exact TI.i1 (by assumption) | exact TI.i0 (by assumption) | exact TI.i4 (by assumption) | exact TI.i6 (by assumption) | exact TI.i7 (by assumption)) (fun c28 => ?_) (fun c28 => ?_)
            ·
              rw [chE_no (fun z => by omega)] -- go
              refine wp_iload_n (pc := 82) dX12_sum_82 rfl ?_
              exact wp_ir (pc := 83) dX12_sum_83 rfl (Nat.le_refl 0) (Nat.le_refl 0) (by first | rfl | omega) (by first | exact ⟨K, O⟩ | rfl)
            ·
              first
              | (exfalso; omega)
              | skip
                have z : hr l 40 r.2.1 = 43 ∨ hr l 40 r.2.1 = 45 := by omega
                have hq := hlt (by omega)
                have e0 : chE (hr l 40) 43 45 P (40 - i) r = chE (hr l 40) 43 45 P (40 - (i + 1)) (jne (hr l 40 r.2.1) r (P (r.2.1 + 1))) := by rw [show 40 - i = (40 - (i + 1)) + 1 by omega]; exact if_pos ⟨pw_f c10, z⟩
                have g2 := hG (r.2.1 + 1) hq
                rw [e0]
                refine wp_aload_n (pc := 31) dX12_sum_31 rfl ?_
                refine wp_Vp (pc := 32) dX12_sum_32 cl_X12_129 (sp_Ref_here (by first | assumption | omega | (repeat (first | assumption | exact pv10 | exact pv11 | refine pv_o (by decide) (by decide) ?_ | exact upN_eq | refine upN_ne (by decide) ?_ | exact upA_eq | refine upA_ne (by first | decide | omega) ?_ | refine SV_at (by assumption) (by decide) ?_ | refine SA_at (by assumption) (by first | decide | (simp; omega)) ?_ | exact rfl))) (by first | assumption | omega | (repeat (first | assumption | exact pv10 | exact pv11 | refine pv_o (by decide) (by decide) ?_ | exact upN_eq | refine upN_ne (by decide) ?_ | exact upA_eq | refine upA_ne (by first | decide | omega) ?_ | refine SV_at (by assumption) (by decide) ?_ | refine SA_at (by assumption) (by first | decide | (simp; omega)) ?_ | exact rfl))) (by first | assumption | omega | (repeat (first | assumption | exact pv10 | exact pv11 | refine pv_o (by decide) (by decide) ?_ | exact upN_eq | refine upN_ne (by decide) ?_ | exact upA_eq | refine upA_ne (by first | decide | omega) ?_ | refine SV_at (by assumption) (by decide) ?_ | refine SA_at (by assumption) (by first | decide | (simp; omega)) ?_ | exact rfl)))) rfl rfl K.1 (by rfl) (rm_ok (by omega) (by decide)) (Nat.le_of_ble_eq_true rfl) ?_
                refine wp_bipush (pc := 35) (y := 43) dX12_sum_35 (by decide) ?_
                refine wp_icmp_ne (pc := 37) 44 dX12_sum_37 (by decide) (by first | omega | exact TI.i5 (by assumption) | exact TI.i3 (by assumption) | exact TI.i2 (by assumption) | exact TI.i1 (by assumption) | exact TI.i0 (by assumption) | exact TI.i4 (by assumption) | exact TI.i6 (by assumption) | exact TI.i7 (by assumption)) (by first | omega | exact TI.i5 (by assumption) | exact TI.i3 (by assumption) | exact TI.i2 (by assumption) | exact TI.i1 (by assumption) | exact TI.i0 (by assumption) | exact TI.i4 (by assumption) | exact TI.i6 (by assumption) | exact TI.i7 (by assumption)) (fun c37 => ?_) (fun c37 => ?_)
                ·
                  first
                  | (exfalso; omega)
                  | skip
                    refine wp_iconst (pc := 44) dX12_sum_44 ?_
                    refine wp_istore_n (pc := 45) dX12_sum_45 (by decide) ?_
                    refine wp_aload_n (pc := 46) dX12_sum_46 rfl ?_
                    refine wp_dup (pc := 47) dX12_sum_47 rfl ?_
                    refine wm_gets dX12_sum_48 gf_X12_115 K (by rfl) (by repeat (first | assumption | exact pv10 | exact pv11 | refine pv_o (by decide) (by decide) ?_ | exact upN_eq | refine upN_ne (by decide) ?_ | refine SV_at (by assumption) (by decide) ?_ | exact rfl)) ?_
                    refine wp_iconst (pc := 51) dX12_sum_51 ?_
                    refine wp_iadd (pc := 52) dX12_sum_52 ?_
                    refine wm_put dX12_sum_53 pf_X12_115 K O (by decide) mset_10 rfl rfl (fun hp K O => ?_)
                    try rw [pv_at] at K
                    rw [c10] at K
                    refine wp_aload_n (pc := 56) dX12_sum_56 rfl ?_
                    refine wp_iload_n (pc := 57) dX12_sum_57 rfl ?_
                    refine wp_Vs (pc := 58) dX12_sum_58 cl_X12_165 (hT _ (r.2.1 + 1) K hq) rfl rfl K.1 (by rfl) (rm_ok (by omega) (by decide)) (Nat.le_of_ble_eq_true rfl) (fun hp58 e58 => ?_)
                    obtain ⟨K, O1⟩ := e58
                    replace O := SO.tr O O1
                    refine wp_istore (pc := 61) dX12_sum_61 (by decide) ?_
                    refine wp_iload_n (pc := 63) dX12_sum_63 rfl ?_
                    first | refine wp_ifb_eq (pc := 64) 74 dX12_sum_64 (by decide) (fun c64 => ?_) (fun c64 => ?_) | refine wp_if_eq (pc := 64) 74 dX12_sum_64 (by decide) (by first | omega | exact TI.i5 (by assumption) | exact TI.i3 (by assumption) | exact TI.i2 (by assumption) | exact TI.i1 (by assumption) | exact TI.i0 (by assumption) | exact TI.i4 (by assumption) | exact TI.i6 (by assumption) | exact TI.i7 (by assumption)) (fun c64 => ?_) (fun c64 => ?_)
                    ·
                      first
                      | (exfalso; omega)
                      | skip
                        refine wp_iload_n (pc := 74) dX12_sum_74 rfl ?_
                        refine wp_iload (pc := 75) dX12_sum_75 rfl ?_
                        refine wp_isub (pc := 77) dX12_sum_77 ?_
                        have ej : I (r.2.2 - (P (r.2.1 + 1)).2.2) = I (jn (hr l 40 r.2.1) r.2.2 (P (r.2.1 + 1)).2.2) := by rw [show hr l 40 r.2.1 = 45 by omega, jn45, nz_I]
                        refine wp_topx ej ?_
                        refine wp_istore_n (pc := 78) dX12_sum_78 (by decide) ?_
                        refine wp_goto (pc := 79) 6 dX12_sum_79 (by decide) ?_
                        refine wp_ls ?_ (ih (i + 1) (by omega) (by omega) _ (jne (hr l 40 r.2.1) r (P (r.2.1 + 1))) K O g2.2.1 (jn_in _ _ _) (show min l.length 40 ≤ (P (r.2.1 + 1)).2.1 + (40 - (i + 1)) by omega))
                        repeat' (first | exact LE_0 | refine LE_s rfl ?_ | refine LE_s (I_c (by first | omega | (simp only [sm]; omega))) ?_ | refine LE_s (J_c (by first | omega | exact Int.pow_succ _ _ | exact (Int.pow_succ _ _).symm | exact (Int.pow_zero _).symm | (simp only [sm]; omega))) ?_ | refine LE_n ?_)
                    ·
                      first
                      | (exfalso; omega)
                      | skip
                        refine wp_iload_n (pc := 67) dX12_sum_67 rfl ?_
                        refine wp_iload (pc := 68) dX12_sum_68 rfl ?_
                        refine wp_iadd (pc := 70) dX12_sum_70 ?_
                        have ej : I (r.2.2 + (P (r.2.1 + 1)).2.2) = I (jn (hr l 40 r.2.1) r.2.2 (P (r.2.1 + 1)).2.2) := by rw [show hr l 40 r.2.1 = 43 by omega, jn43, nz_I]
                        refine wp_goto (pc := 71) 78 dX12_sum_71 (by decide) ?_
                        refine wp_topx ej ?_
                        refine wp_istore_n (pc := 78) dX12_sum_78 (by decide) ?_
                        refine wp_goto (pc := 79) 6 dX12_sum_79 (by decide) ?_
                        refine wp_ls ?_ (ih (i + 1) (by omega) (by omega) _ (jne (hr l 40 r.2.1) r (P (r.2.1 + 1))) K O g2.2.1 (jn_in _ _ _) (show min l.length 40 ≤ (P (r.2.1 + 1)).2.1 + (40 - (i + 1)) by omega))
                        repeat' (first | exact LE_0 | refine LE_s rfl ?_ | refine LE_s (I_c (by first | omega | (simp only [sm]; omega))) ?_ | refine LE_s (J_c (by first | omega | exact Int.pow_succ _ _ | exact (Int.pow_succ _ _).symm | exact (Int.pow_zero _).symm | (simp only [sm]; omega))) ?_ | refine LE_n ?_)
                ·
                  first
                  | (exfalso; omega)
                  | skip
                    refine wp_iconst (pc := 40) dX12_sum_40 ?_
                    refine wp_goto (pc := 41) 45 dX12_sum_41 (by decide) ?_
                    refine wp_istore_n (pc := 45) dX12_sum_45 (by decide) ?_
                    refine wp_aload_n (pc := 46) dX12_sum_46 rfl ?_
                    refine wp_dup (pc := 47) dX12_sum_47 rfl ?_
                    refine wm_gets dX12_sum_48 gf_X12_115 K (by rfl) (by repeat (first | assumption | exact pv10 | exact pv11 | refine pv_o (by decide) (by decide) ?_ | exact upN_eq | refine upN_ne (by decide) ?_ | refine SV_at (by assumption) (by decide) ?_ | exact rfl)) ?_
                    refine wp_iconst (pc := 51) dX12_sum_51 ?_
                    refine wp_iadd (pc := 52) dX12_sum_52 ?_
                    refine wm_put dX12_sum_53 pf_X12_115 K O (by decide) mset_10 rfl rfl (fun hp K O => ?_)
                    try rw [pv_at] at K
                    rw [c10] at K
                    refine wp_aload_n (pc := 56) dX12_sum_56 rfl ?_
                    refine wp_iload_n (pc := 57) dX12_sum_57 rfl ?_
                    refine wp_Vs (pc := 58) dX12_sum_58 cl_X12_165 (hT _ (r.2.1 + 1) K hq) rfl rfl K.1 (by rfl) (rm_ok (by omega) (by decide)) (Nat.le_of_ble_eq_true rfl) (fun hp58 e58 => ?_)
                    obtain ⟨K, O1⟩ := e58
                    replace O := SO.tr O O1
                    refine wp_istore (pc := 61) dX12_sum_61 (by decide) ?_
                    refine wp_iload_n (pc := 63) dX12_sum_63 rfl ?_
                    first | refine wp_ifb_eq (pc := 64) 74 dX12_sum_64 (by decide) (fun c64 => ?_) (fun c64 => ?_) | refine wp_if_eq (pc := 64) 74 dX12_sum_64 (by decide) (by first | omega | exact TI.i5 (by assumption) | exact TI.i3 (by assumption) | exact TI.i2 (by assumption) | exact TI.i1 (by assumption) | exact TI.i0 (by assumption) | exact TI.i4 (by assumption) | exact TI.i6 (by assumption) | exact TI.i7 (by assumption)) (fun c64 => ?_) (fun c64 => ?_)
                    ·
                      first
                      | (exfalso; omega)
                      | skip
                        refine wp_iload_n (pc := 74) dX12_sum_74 rfl ?_
                        refine wp_iload (pc := 75) dX12_sum_75 rfl ?_
                        refine wp_isub (pc := 77) dX12_sum_77 ?_
                        have ej : I (r.2.2 - (P (r.2.1 + 1)).2.2) = I (jn (hr l 40 r.2.1) r.2.2 (P (r.2.1 + 1)).2.2) := by rw [show hr l 40 r.2.1 = 45 by omega, jn45, nz_I]
                        refine wp_topx ej ?_
                        refine wp_istore_n (pc := 78) dX12_sum_78 (by decide) ?_
                        refine wp_goto (pc := 79) 6 dX12_sum_79 (by decide) ?_
                        refine wp_ls ?_ (ih (i + 1) (by omega) (by omega) _ (jne (hr l 40 r.2.1) r (P (r.2.1 + 1))) K O g2.2.1 (jn_in _ _ _) (show min l.length 40 ≤ (P (r.2.1 + 1)).2.1 + (40 - (i + 1)) by omega))
                        repeat' (first | exact LE_0 | refine LE_s rfl ?_ | refine LE_s (I_c (by first | omega | (simp only [sm]; omega))) ?_ | refine LE_s (J_c (by first | omega | exact Int.pow_succ _ _ | exact (Int.pow_succ _ _).symm | exact (Int.pow_zero _).symm | (simp only [sm]; omega))) ?_ | refine LE_n ?_)
                    ·
                      first
                      | (exfalso; omega)
                      | skip
                        refine wp_iload_n (pc := 67) dX12_sum_67 rfl ?_
                        refine wp_iload (pc := 68) dX12_sum_68 rfl ?_
                        refine wp_iadd (pc := 70) dX12_sum_70 ?_
                        have ej : I (r.2.2 + (P (r.2.1 + 1)).2.2) = I (jn (hr l 40 r.2.1) r.2.2 (P (r.2.1 + 1)).2.2) := by rw [show hr l 40 r.2.1 = 43 by omega, jn43, nz_I]
                        refine wp_goto (pc := 71) 78 dX12_sum_71 (by decide) ?_
                        refine wp_topx ej ?_
                        refine wp_istore_n (pc := 78) dX12_sum_78 (by decide) ?_
                        refine wp_goto (pc := 79) 6 dX12_sum_79 (by decide) ?_
                        refine wp_ls ?_ (ih (i + 1) (by omega) (by omega) _ (jne (hr l 40 r.2.1) r (P (r.2.1 + 1))) K O g2.2.1 (jn_in _ _ _) (show min l.length 40 ≤ (P (r.2.1 + 1)).2.1 + (40 - (i + 1)) by omega))
                        repeat' (first | exact LE_0 | refine LE_s rfl ?_ | refine LE_s (I_c (by first | omega | (simp only [sm]; omega))) ?_ | refine LE_s (J_c (by first | omega | exact Int.pow_succ _ _ | exact (Int.pow_succ _ _).symm | exact (Int.pow_zero _).symm | (simp only [sm]; omega))) ?_ | refine LE_n ?_)
theorem sp_Ref_sum {P : Nat → ER} (K : ModAt hp q (pv V p (-1)) A rd rl) (R : RdL A V q rd l 40) (hT : EvS g q V A rd rl (min l.length 40) MX12_product (45*L+46) P dep) (hG : GE (min l.length 40) P) (hpl : p ≤ min l.length 40) : Sp g MX12_sum (rm (45*L+47) 0 0) [.ref q, .int (I dep)] hp (Eff (.int (I (chE (hr l 40) 43 45 P 40 (P p)).2.2)) (fun hp2 => ModAt hp2 q (pv V (chE (hr l 40) 43 45 P 40 (P p)).2.1 (pw (chE (hr l 40) 43 45 P 40 (P p)))) A rd rl ∧ SO hp hp2 q (q + 25))) := by
  have g2 := hG p hpl
  refine Sp_mk rfl (Nat.le_of_ble_eq_true rfl) ?_
  show wp g _ _ _ 0 0 0 [some (.ref q), some (.int (I dep)), none, none, none] [] hp
  have O := SO.rf (hp := hp) (lo := q) (hi := q + 25)
  refine wp_aload_n (pc := 0) dX12_sum_0 rfl ?_
  refine wp_iload_n (pc := 1) dX12_sum_1 rfl ?_
  refine wp_Vs (pc := 2) dX12_sum_2 cl_X12_165 (hT _ p K hpl) rfl rfl K.1 (by rfl) (rm_ok (by omega) (by decide)) (Nat.le_of_ble_eq_true rfl) (fun hp2 e2 => ?_)
  obtain ⟨K, O1⟩ := e2
  replace O := SO.tr O O1
  refine wp_istore_n (pc := 5) dX12_sum_5 (by decide) ?_
  refine wp_ls ?_ (lp_Ref_sum R hT hG 41 0 (by omega) (by omega) _ (P p) K O g2.2.1 g2.2.2 (by omega))
  repeat' (first | exact LE_0 | refine LE_s rfl ?_ | refine LE_s (I_c (by first | omega | (simp only [sm]; omega))) ?_ | refine LE_s (J_c (by first | omega | exact Int.pow_succ _ _ | exact (Int.pow_succ _ _).symm | exact (Int.pow_zero _).symm | (simp only [sm]; omega))) ?_ | refine LE_n ?_)
def cmE (nx : Nat → Int) (P : Nat → ER) (p : Nat) : ER := if (P p).1 = true ∧ (nx (P p).2.1 = 60 ∨ nx (P p).2.1 = 62 ∨ nx (P p).2.1 = 61) then jne (nx (P p).2.1) (P p) (P ((P p).2.1 + 1)) else P p
theorem sp_Ref_held {P : Nat → ER} (K : ModAt hp q (pv V p (-1)) A rd rl) (R : RdL A V q rd l 40) (hT : EvS g q V A rd rl (min l.length 40) MX12_sum (45*L+47) P dep) (hG : GE (min l.length 40) P) (hpl : p ≤ min l.length 40) : Sp g MX12_held (rm (45*L+48) 0 0) [.ref q, .int (I dep)] hp (Eff (.int (I (cmE (hr l 40) P p).2.2)) (fun hp2 => ModAt hp2 q (pv V (cmE (hr l 40) P p).2.1 (pw (cmE (hr l 40) P p))) A rd rl ∧ SO hp hp2 q (q + 25))) := by
  have g2 := hG p hpl
  have hn := NX_h R.bb
  have hh := (hn.2 (P p).2.1).2
  have hlt := hn.lt (p := (P p).2.1)
  have hpi := pw_in (r := P p) (by omega)
  have key : ∀ z, pw (P p) = -1 ∧ hr l 40 (P p).2.1 = z → z = 60 ∨ z = 62 ∨ z = 61 → cmE (hr l 40) P p = jne z (P p) (P ((P p).2.1 + 1)) := by
    intro z h1 h2
    unfold cmE
    rw [if_pos ⟨pw_f h1.1, by omega⟩, h1.2]
  refine Sp_mk rfl (Nat.le_of_ble_eq_true rfl) ?_
  show wp g _ _ _ 0 0 0 [some (.ref q), some (.int (I dep)), none] [] hp
  have O := SO.rf (hp := hp) (lo := q) (hi := q + 25)
  refine wp_aload_n (pc := 0) dX12_held_0 rfl ?_
  refine wp_iload_n (pc := 1) dX12_held_1 rfl ?_
  refine wp_Vs (pc := 2) dX12_held_2 cl_X12_161 (hT _ p K hpl) rfl rfl K.1 (by rfl) (rm_ok (by omega) (by decide)) (Nat.le_of_ble_eq_true rfl) (fun hp2 e2 => ?_)
  obtain ⟨K, O1⟩ := e2
  replace O := SO.tr O O1
  refine wp_istore_n (pc := 5) dX12_held_5 (by decide) ?_
  refine wp_aload_n (pc := 6) dX12_held_6 rfl ?_
  refine wp_bipush (pc := 7) (y := 60) dX12_held_7 (by decide) ?_
  refine wp_Vs (pc := 9) dX12_held_9 cl_X12_133 (sp_Ref_passes K R hpi (by omega) (by decide)) rfl rfl K.1 (by rfl) (rm_ok (by omega) (by decide)) (Nat.le_of_ble_eq_true rfl) (fun hp9 e9 => ?_)
  obtain ⟨K, O1⟩ := e9
  replace O := SO.tr O O1
  first | refine wp_ifb_eq (pc := 12) 30 dX12_held_12 (by decide) (fun c12 => ?_) (fun c12 => ?_) | refine wp_if_eq (pc := 12) 30 dX12_held_12 (by decide) (by first | omega | exact TI.i5 (by assumption) | exact TI.i3 (by assumption) | exact TI.i2 (by assumption) | exact TI.i1 (by assumption) | exact TI.i0 (by assumption) | exact TI.i4 (by assumption) | exact TI.i6 (by assumption) | exact TI.i7 (by assumption)) (fun c12 => ?_) (fun c12 => ?_)
  ·
    rw [if_neg c12] at K -- go
    refine wp_aload_n (pc := 30) dX12_held_30 rfl ?_
    refine wp_bipush (pc := 31) (y := 62) dX12_held_31 (by decide) ?_
    refine wp_Vs (pc := 33) dX12_held_33 cl_X12_133 (sp_Ref_passes K R hpi (by omega) (by decide)) rfl rfl K.1 (by rfl) (rm_ok (by omega) (by decide)) (Nat.le_of_ble_eq_true rfl) (fun hp33 e33 => ?_)
    obtain ⟨K, O1⟩ := e33
    replace O := SO.tr O O1
    first | refine wp_ifb_eq (pc := 36) 54 dX12_held_36 (by decide) (fun c36 => ?_) (fun c36 => ?_) | refine wp_if_eq (pc := 36) 54 dX12_held_36 (by decide) (by first | omega | exact TI.i5 (by assumption) | exact TI.i3 (by assumption) | exact TI.i2 (by assumption) | exact TI.i1 (by assumption) | exact TI.i0 (by assumption) | exact TI.i4 (by assumption) | exact TI.i6 (by assumption) | exact TI.i7 (by assumption)) (fun c36 => ?_) (fun c36 => ?_)
    ·
      rw [if_neg c36] at K -- go
      refine wp_aload_n (pc := 54) dX12_held_54 rfl ?_
      refine wp_bipush (pc := 55) (y := 61) dX12_held_55 (by decide) ?_
      refine wp_Vs (pc := 57) dX12_held_57 cl_X12_133 (sp_Ref_passes K R hpi (by omega) (by decide)) rfl rfl K.1 (by rfl) (rm_ok (by omega) (by decide)) (Nat.le_of_ble_eq_true rfl) (fun hp57 e57 => ?_)
      obtain ⟨K, O1⟩ := e57
      replace O := SO.tr O O1
      first | refine wp_ifb_eq (pc := 60) 78 dX12_held_60 (by decide) (fun c60 => ?_) (fun c60 => ?_) | refine wp_if_eq (pc := 60) 78 dX12_held_60 (by decide) (by first | omega | exact TI.i5 (by assumption) | exact TI.i3 (by assumption) | exact TI.i2 (by assumption) | exact TI.i1 (by assumption) | exact TI.i0 (by assumption) | exact TI.i4 (by assumption) | exact TI.i6 (by assumption) | exact TI.i7 (by assumption)) (fun c60 => ?_) (fun c60 => ?_)
      ·
        rw [if_neg c60] at K
        have ee : cmE (hr l 40) P p = P p := if_neg (fun z => by
          have := pw_t z.1
          omega)
        rw [ee] -- go
        refine wp_iload_n (pc := 78) dX12_held_78 rfl ?_
        exact wp_ir (pc := 79) dX12_held_79 rfl (Nat.le_refl 0) (Nat.le_refl 0) rfl (by first | exact ⟨K, O⟩ | rfl)
      ·
        rw [if_pos c60, c60.1] at K
        have hq := hlt (by omega)
        have g3 := hG ((P p).2.1 + 1) hq
        rw [key _ c60 (by omega)] -- go
        refine wp_iload_n (pc := 63) dX12_held_63 rfl ?_
        refine wp_aload_n (pc := 64) dX12_held_64 rfl ?_
        refine wp_iload_n (pc := 65) dX12_held_65 rfl ?_
        refine wp_Vs (pc := 66) dX12_held_66 cl_X12_161 (hT _ _ K hq) rfl rfl K.1 (by rfl) (rm_ok (by omega) (by decide)) (Nat.le_of_ble_eq_true rfl) (fun hp66 e66 => ?_)
        obtain ⟨K, O1⟩ := e66
        replace O := SO.tr O O1
        refine wp_icmp_ne (pc := 69) 76 dX12_held_69 (by decide) (by first | omega | exact TI.i5 (by assumption) | exact TI.i3 (by assumption) | exact TI.i2 (by assumption) | exact TI.i1 (by assumption) | exact TI.i0 (by assumption) | exact TI.i4 (by assumption) | exact TI.i6 (by assumption) | exact TI.i7 (by assumption)) (by first | omega | exact TI.i5 (by assumption) | exact TI.i3 (by assumption) | exact TI.i2 (by assumption) | exact TI.i1 (by assumption) | exact TI.i0 (by assumption) | exact TI.i4 (by assumption) | exact TI.i6 (by assumption) | exact TI.i7 (by assumption)) (fun c69 => ?_) (fun c69 => ?_)
        ·
          refine wp_iconst (pc := 76) dX12_held_76 ?_
          exact wp_ir (pc := 77) dX12_held_77 rfl (Nat.le_refl 0) (Nat.le_refl 0) (by first | exact (jn60.trans (if_pos (by omega))).symm | exact (jn60.trans (if_neg (by omega))).symm | exact (jn62.trans (if_pos (by omega))).symm | exact (jn62.trans (if_neg (by omega))).symm | exact (jn61.trans (if_pos (by omega))).symm | exact (jn61.trans (if_neg (by omega))).symm) (by first | exact ⟨K, O⟩ | rfl)
        ·
          refine wp_iconst (pc := 72) dX12_held_72 ?_
          refine wp_goto (pc := 73) 77 dX12_held_73 (by decide) ?_
          exact wp_ir (pc := 77) dX12_held_77 rfl (Nat.le_refl 0) (Nat.le_refl 0) (by first | exact (jn60.trans (if_pos (by omega))).symm | exact (jn60.trans (if_neg (by omega))).symm | exact (jn62.trans (if_pos (by omega))).symm | exact (jn62.trans (if_neg (by omega))).symm | exact (jn61.trans (if_pos (by omega))).symm | exact (jn61.trans (if_neg (by omega))).symm) (by first | exact ⟨K, O⟩ | rfl)
    ·
      rw [if_pos c36, c36.1] at K
      have hq := hlt (by omega)
      have g3 := hG ((P p).2.1 + 1) hq
      rw [key _ c36 (by omega)] -- go
      refine wp_iload_n (pc := 39) dX12_held_39 rfl ?_
      refine wp_aload_n (pc := 40) dX12_held_40 rfl ?_
      refine wp_iload_n (pc := 41) dX12_held_41 rfl ?_
      refine wp_Vs (pc := 42) dX12_held_42 cl_X12_161 (hT _ _ K hq) rfl rfl K.1 (by rfl) (rm_ok (by omega) (by decide)) (Nat.le_of_ble_eq_true rfl) (fun hp42 e42 => ?_)
      obtain ⟨K, O1⟩ := e42
      replace O := SO.tr O O1
      refine wp_icmp_le (pc := 45) 52 dX12_held_45 (by decide) (by first | omega | exact TI.i5 (by assumption) | exact TI.i3 (by assumption) | exact TI.i2 (by assumption) | exact TI.i1 (by assumption) | exact TI.i0 (by assumption) | exact TI.i4 (by assumption) | exact TI.i6 (by assumption) | exact TI.i7 (by assumption)) (by first | omega | exact TI.i5 (by assumption) | exact TI.i3 (by assumption) | exact TI.i2 (by assumption) | exact TI.i1 (by assumption) | exact TI.i0 (by assumption) | exact TI.i4 (by assumption) | exact TI.i6 (by assumption) | exact TI.i7 (by assumption)) (fun c45 => ?_) (fun c45 => ?_)
      ·
        refine wp_iconst (pc := 52) dX12_held_52 ?_
        exact wp_ir (pc := 53) dX12_held_53 rfl (Nat.le_refl 0) (Nat.le_refl 0) (by first | exact (jn60.trans (if_pos (by omega))).symm | exact (jn60.trans (if_neg (by omega))).symm | exact (jn62.trans (if_pos (by omega))).symm | exact (jn62.trans (if_neg (by omega))).symm | exact (jn61.trans (if_pos (by omega))).symm | exact (jn61.trans (if_neg (by omega))).symm) (by first | exact ⟨K, O⟩ | rfl)
      ·
        refine wp_iconst (pc := 48) dX12_held_48 ?_
        refine wp_goto (pc := 49) 53 dX12_held_49 (by decide) ?_
        exact wp_ir (pc := 53) dX12_held_53 rfl (Nat.le_refl 0) (Nat.le_refl 0) (by first | exact (jn60.trans (if_pos (by omega))).symm | exact (jn60.trans (if_neg (by omega))).symm | exact (jn62.trans (if_pos (by omega))).symm | exact (jn62.trans (if_neg (by omega))).symm | exact (jn61.trans (if_pos (by omega))).symm | exact (jn61.trans (if_neg (by omega))).symm) (by first | exact ⟨K, O⟩ | rfl)
  ·
    rw [if_pos c12, c12.1] at K
    have hq := hlt (by omega)
    have g3 := hG ((P p).2.1 + 1) hq
    rw [key _ c12 (by omega)] -- go
    refine wp_iload_n (pc := 15) dX12_held_15 rfl ?_
    refine wp_aload_n (pc := 16) dX12_held_16 rfl ?_
    refine wp_iload_n (pc := 17) dX12_held_17 rfl ?_
    refine wp_Vs (pc := 18) dX12_held_18 cl_X12_161 (hT _ _ K hq) rfl rfl K.1 (by rfl) (rm_ok (by omega) (by decide)) (Nat.le_of_ble_eq_true rfl) (fun hp18 e18 => ?_)
    obtain ⟨K, O1⟩ := e18
    replace O := SO.tr O O1
    refine wp_icmp_ge (pc := 21) 28 dX12_held_21 (by decide) (by first | omega | exact TI.i5 (by assumption) | exact TI.i3 (by assumption) | exact TI.i2 (by assumption) | exact TI.i1 (by assumption) | exact TI.i0 (by assumption) | exact TI.i4 (by assumption) | exact TI.i6 (by assumption) | exact TI.i7 (by assumption)) (by first | omega | exact TI.i5 (by assumption) | exact TI.i3 (by assumption) | exact TI.i2 (by assumption) | exact TI.i1 (by assumption) | exact TI.i0 (by assumption) | exact TI.i4 (by assumption) | exact TI.i6 (by assumption) | exact TI.i7 (by assumption)) (fun c21 => ?_) (fun c21 => ?_)
    ·
      refine wp_iconst (pc := 28) dX12_held_28 ?_
      exact wp_ir (pc := 29) dX12_held_29 rfl (Nat.le_refl 0) (Nat.le_refl 0) (by first | exact (jn60.trans (if_pos (by omega))).symm | exact (jn60.trans (if_neg (by omega))).symm | exact (jn62.trans (if_pos (by omega))).symm | exact (jn62.trans (if_neg (by omega))).symm | exact (jn61.trans (if_pos (by omega))).symm | exact (jn61.trans (if_neg (by omega))).symm) (by first | exact ⟨K, O⟩ | rfl)
    ·
      refine wp_iconst (pc := 24) dX12_held_24 ?_
      refine wp_goto (pc := 25) 29 dX12_held_25 (by decide) ?_
      exact wp_ir (pc := 29) dX12_held_29 rfl (Nat.le_refl 0) (Nat.le_refl 0) (by first | exact (jn60.trans (if_pos (by omega))).symm | exact (jn60.trans (if_neg (by omega))).symm | exact (jn62.trans (if_pos (by omega))).symm | exact (jn62.trans (if_neg (by omega))).symm | exact (jn61.trans (if_pos (by omega))).symm | exact (jn61.trans (if_neg (by omega))).symm) (by first | exact ⟨K, O⟩ | rfl)
theorem eE_cm (nx : Nat → Int) (e : Int → Int) (L : Nat) : eE nx e L = cmE nx (eS nx (thL nx e L)) := by rw [eE_eq]; rfl
theorem ev_up (R : RdL A V q rd l 40) (he : ∀ c, 0 ≤ e c ∧ e c ≤ 99) (hT : EvS g q V A rd rl (min l.length 40) MX12_thing (45*L+44) (eT (hr l 40) (thL (hr l 40) e L) 40) dep) : EvS g q V A rd rl (min l.length 40) MX12_held (45*L+48) (eE (hr l 40) e L) dep := by
  have hn := NX_h R.bb
  have gL := GP_L hn L
  have rL := rel_L (e := e) hn he L
  have g1 : GE (min l.length 40) (eT (hr l 40) (thL (hr l 40) e L) 40) := GE_of (GP_G hn gL) (fun p h => rel_G hn rL h)
  have g2 : GE (min l.length 40) (eP (hr l 40) (thL (hr l 40) e L)) := GE_of (GP_P hn gL) (fun p h => rel_P hn gL rL h)
  have g3 : GE (min l.length 40) (eS (hr l 40) (thL (hr l 40) e L)) := GE_of (GP_S hn gL) (fun p h => rel_S hn gL rL h)
  have h2 : EvS g q V A rd rl (min l.length 40) MX12_product (45*L+46) (eP (hr l 40) (thL (hr l 40) e L)) dep := fun hp p K h => sp_Ref_product K R hT g1 h
  have h3 : EvS g q V A rd rl (min l.length 40) MX12_sum (45*L+47) (eS (hr l 40) (thL (hr l 40) e L)) dep := fun hp p K h => sp_Ref_sum K R h2 g2 h
  rw [eE_cm]
  exact fun hp p K h => sp_Ref_held K R h3 g3 h
theorem ev_thing (R : RdL A V q rd l 40) (hA : AK V A e) (he : ∀ c, 0 ≤ e c ∧ e c ≤ 99) (hL : L ≤ 4) (hE : ∀ L', L = L' + 1 → EvS g q V A rd rl (min l.length 40) MX12_held (45*L'+48) (eE (hr l 40) e L') (4 - (L : Int) + 1)) : ∀ f : Nat, ∀ (hp : Hp) (p : Nat), ModAt hp q (pv V p (-1)) A rd rl → p ≤ min l.length 40 → min l.length 40 ≤ p + f → Sp g MX12_thing (rm (45*L+f+4) 0 0) [.ref q, .int (I (4 - (L : Int)))] hp (Eff (.int (I (eT (hr l 40) (thL (hr l 40) e L) f p).2.2)) (fun hp2 => ModAt hp2 q (pv V (eT (hr l 40) (thL (hr l 40) e L) f p).2.1 (pw (eT (hr l 40) (thL (hr l 40) e L) f p))) A rd rl ∧ SO hp hp2 q (q + 25))) := by
  have hn := NX_h R.bb
  have hGE : ∀ L', L = L' + 1 → GE (min l.length 40) (eE (hr l 40) e L') := fun L' _ => GE_of (GP_E hn L') (fun p h => rel_E hn he L' p h)
  intro f
  induction f with
  | zero => intro hp p K h hf; exact sp_Ref_thing (f := 0) (L := L) K R hA rfl (by omega) hf hE (fun f' e => by omega) hGE h
  | succ f ih =>
    intro hp p K h hf
    refine sp_Ref_thing (f := f + 1) (L := L) K R hA rfl (by omega) hf hE (fun f' e hp K h => ?_) hGE h
    obtain rfl : f = f' := by omega
    exact ih hp (p + 1) K h (by omega)
theorem ev_all (R : RdL A V q rd l 40) (hA : AK V A e) (he : ∀ c, 0 ≤ e c ∧ e c ≤ 99) : ∀ L : Nat, L ≤ 4 → EvS g q V A rd rl (min l.length 40) MX12_held (45*L+48) (eE (hr l 40) e L) (4 - (L : Int))
  | 0, h => ev_up R he fun hp p K h2 => ev_thing R hA he h (fun L' e => by omega) 40 hp p K h2 (by omega)
  | L + 1, h => ev_up R he fun hp p K h2 => ev_thing R hA he h (fun L' e => by
      obtain rfl : L = L' := by omega
      have := ev_all R hA he L (by omega)
      rw [show (4 : Int) - ((L + 1 : Nat) : Int) + 1 = 4 - (L : Int) by omega]
      exact this) 40 hp p K h2 (by omega)
/-- the whole: the class's steps give the same value -/
theorem rd_same (hb : byl l) (he : ∀ c, 0 ≤ e c ∧ e c ≤ 99) : Rel e (rdl l) (eE (hr l 40) e 4 0) := rel_E (NX_h hb) he 4 0 (by omega)
end ME

