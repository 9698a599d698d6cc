/-! the reference: reading a text -/
section MC
variable {g : GT} {hp hp0 : Hp} {q N n a s k p tp : Nat} {V V2 : Nat → Int} {A A2 : Nat → Int → Int} {rd rl : Value} {f : Int → Int} {i j x v b c y : Int} {T : Nat → Int → Int} {l : List Int} {L : List Nat}
def sb (x : Int) : Int := if x < 128 then x else x - 256
theorem sb_and (h : 0 ≤ c ∧ c ≤ 255) : I (sb c) &&& I 255 = I c := by
  obtain ⟨n, rfl⟩ := Int.eq_ofNat_of_zero_le h.1
  have : ∀ n : Fin 256, I (sb ((n : Nat) : Int)) &&& I 255 = I ((n : Nat) : Int) := by decide +kernel
  exact this ⟨n, by omega⟩
/-- the sign at a place, -1 beyond the text or beyond tp -/
def hr (l : List Int) (tp p : Nat) : Int := if p < l.length ∧ p < tp then l.getD p 0 else -1
theorem byl_at (h : byl l) (hp : p < l.length) : 0 ≤ l.getD p 0 ∧ l.getD p 0 ≤ 255 := by
  have : l.getD p 0 = l[p] := by simp [hp]
  rw [this]
  exact h _ (List.getElem_mem hp)
theorem hr_in (h : byl l) : -1 ≤ hr l tp p ∧ hr l tp p ≤ 255 := by
  unfold hr
  split
  · rename_i z; have := byl_at h z.1; omega
  · omega
theorem hr_lt (h : 0 ≤ hr l tp p) : p < l.length ∧ p < tp := Classical.byContradiction fun z => by unfold hr at h; rw [if_neg z] at h; omega
theorem hr_eq (h : p < l.length ∧ p < tp) : hr l tp p = l.getD p 0 := if_pos h
def RdL (A : Nat → Int → Int) (V : Nat → Int) (q : Nat) (rd : Value) (l : List Int) (tp : Nat) : Prop := ∃ j, (j = 2 ∨ j = 5 ∨ j = 6) ∧ rd = .ref (q + j) ∧ V 8 = (l.length : Int) ∧ V 9 = (tp : Int) ∧ l.length ≤ 80 ∧ (j ≠ 2 → l.length ≤ 40) ∧ tp ≤ 80 ∧ byl l ∧ ∀ i : Nat, i < l.length → A j (i : Int) = sb (l.getD i 0)
theorem RdL.vv (h : RdL A V q rd l tp) (h8 : V2 8 = V 8) (h9 : V2 9 = V 9) : RdL A V2 q rd l tp := by
  obtain ⟨j, a, b, c, d, e⟩ := h
  exact ⟨j, a, b, h8.trans c, h9.trans d, e⟩
theorem RdL.aa (h : RdL A V q rd l tp) (h2 : A2 2 = A 2) (h5 : A2 5 = A 5) (h6 : A2 6 = A 6) : RdL A2 V q rd l tp := by
  obtain ⟨j, a, b, c, d, e1, e2, e3, e4, e5⟩ := h
  refine ⟨j, a, b, c, d, e1, e2, e3, e4, fun i hi => ?_⟩
  rcases a with rfl | rfl | rfl
  · rw [h2]; exact e5 i hi
  · rw [h5]; exact e5 i hi
  · rw [h6]; exact e5 i hi
theorem RdL.bb (h : RdL A V q rd l tp) : byl l := by obtain ⟨j, a, b, c, d, e1, e2, e3, e4, e5⟩ := h; exact e4
theorem RdL.ll (h : RdL A V q rd l tp) : l.length ≤ 80 ∧ tp ≤ 80 := by obtain ⟨j, a, b, c, d, e1, e2, e3, e4, e5⟩ := h; exact ⟨e1, e3⟩
theorem RdL.nn (h : RdL A V q rd l tp) : V 8 = (l.length : Int) := by obtain ⟨j, a, b, c, d⟩ := h; exact c
theorem RdL.get (h : RdL A V q rd l tp) : ∃ j N, rd = .ref (q + j) ∧ mty j = (.byte, N) ∧ 1 ≤ j ∧ j ≤ 24 ∧ l.length ≤ N ∧ N ≤ 80 ∧ V 8 = (l.length : Int) ∧ V 9 = (tp : Int) ∧ tp ≤ 80 ∧ byl l ∧ ∀ i : Nat, i < l.length → A j (i : Int) = sb (l.getD i 0) := by
  obtain ⟨j, a, b, c, d, e1, e2, e3, e4, e5⟩ := h
  rcases a with rfl | rfl | rfl
  · exact ⟨2, 80, b, rfl, by decide, by decide, e1, by decide, c, d, e3, e4, e5⟩
  · exact ⟨5, 40, b, rfl, by decide, by decide, e2 (by decide), by decide, c, d, e3, e4, e5⟩
  · exact ⟨6, 40, b, rfl, by decide, by decide, e2 (by decide), by decide, c, d, e3, e4, e5⟩
/-- the numbers, with the place and the fault -/
def pv (V : Nat → Int) (p : Nat) (w : Int) : Nat → Int := upN (upN V 10 (p : Int)) 11 w
theorem pv10 : pv V p x 10 = (p : Int) := rfl
theorem pv11 : pv V p x 11 = x := rfl
theorem pv_o (h : k ≠ 11) (h2 : k ≠ 10) (e : V k = y) : pv V p x k = y := upN_ne h (upN_ne h2 e)
theorem pv_at : upN (pv V p x) 10 ((p : Int) + 1) = pv V (p + 1) x := by
  funext k
  unfold pv upN
  repeat' (first | rfl | split | omega)
theorem pv_w : upN (pv V p x) 11 y = pv V p y := by
  funext k
  unfold pv upN
  repeat' (first | rfl | split | omega)
theorem pv_up (h : k ≠ 11) (h2 : k ≠ 10) : upN (pv V p x) k y = pv (upN V k y) p x := by
  funext k
  unfold pv upN
  repeat' (first | rfl | split | omega)
theorem pv_of (h10 : V 10 = (p : Int)) (h11 : V 11 = x) : V = pv V p x := by
  unfold pv
  rw [upN_id h10, upN_id h11]
theorem sp_Ref_here (K : ModAt hp q (pv V p x) A rd rl) (L : RdL A V q rd l tp) (hpp : p ≤ 80) : Sp g MX12_here (rm 0 0 0) [.ref q] hp (Pur (.int (I (hr l tp p))) hp) := by
  obtain ⟨j, N, rfl, hm, j1, j2, e1, e2, h8, h9, e3, e4, e5⟩ := L.get
  refine Sp_mk rfl (Nat.le_of_ble_eq_true rfl) ?_
  show wp g _ _ _ 0 0 0 [some (.ref q)] [] hp
  have O := SO.rf (hp := hp) (lo := q) (hi := q + 25)
  refine wp_aload_n (pc := 0) dX12_here_0 rfl ?_
  refine wm_gets dX12_here_1 gf_X12_115 K (by rfl) (by repeat (first | assumption | exact pv10 | exact pv11 | refine pv_o (by decide) (by decide) ?_ | exact upN_eq | refine upN_ne (by decide) ?_ | refine SV_at (by assumption) (by decide) ?_ | exact rfl)) ?_
  refine wp_aload_n (pc := 4) dX12_here_4 rfl ?_
  refine wm_gets dX12_here_5 gf_X12_109 K (by rfl) (by repeat (first | assumption | exact pv10 | exact pv11 | refine pv_o (by decide) (by decide) ?_ | exact upN_eq | refine upN_ne (by decide) ?_ | refine SV_at (by assumption) (by decide) ?_ | exact rfl)) ?_
  refine wp_icmp_ge (pc := 8) 38 dX12_here_8 (by decide) (by first | omega | exact TI.i5 (by assumption) | exact TI.i3 (by assumption) | exact TI.i2 (by assumption) | exact TI.i1 (by assumption) | exact TI.i0 (by assumption) | exact TI.i4 (by assumption) | exact TI.i6 (by assumption) | exact TI.i7 (by assumption)) (by first | omega | exact TI.i5 (by assumption) | exact TI.i3 (by assumption) | exact TI.i2 (by assumption) | exact TI.i1 (by assumption) | exact TI.i0 (by assumption) | exact TI.i4 (by assumption) | exact TI.i6 (by assumption) | exact TI.i7 (by assumption)) (fun c8 => ?_) (fun c8 => ?_)
  ·
    refine wp_iconst (pc := 38) dX12_here_38 ?_
    exact wp_ir (pc := 39) dX12_here_39 rfl (by decide) (by decide) (by unfold hr; rw [if_neg (by omega)]) (by first | exact ⟨K, O⟩ | rfl)
  ·
    refine wp_aload_n (pc := 11) dX12_here_11 rfl ?_
    refine wm_gets dX12_here_12 gf_X12_115 K (by rfl) (by repeat (first | assumption | exact pv10 | exact pv11 | refine pv_o (by decide) (by decide) ?_ | exact upN_eq | refine upN_ne (by decide) ?_ | refine SV_at (by assumption) (by decide) ?_ | exact rfl)) ?_
    refine wp_aload_n (pc := 15) dX12_here_15 rfl ?_
    refine wm_gets dX12_here_16 gf_X12_112 K (by rfl) (by repeat (first | assumption | exact pv10 | exact pv11 | refine pv_o (by decide) (by decide) ?_ | exact upN_eq | refine upN_ne (by decide) ?_ | refine SV_at (by assumption) (by decide) ?_ | exact rfl)) ?_
    refine wp_icmp_ge (pc := 19) 38 dX12_here_19 (by decide) (by first | omega | exact TI.i5 (by assumption) | exact TI.i3 (by assumption) | exact TI.i2 (by assumption) | exact TI.i1 (by assumption) | exact TI.i0 (by assumption) | exact TI.i4 (by assumption) | exact TI.i6 (by assumption) | exact TI.i7 (by assumption)) (by first | omega | exact TI.i5 (by assumption) | exact TI.i3 (by assumption) | exact TI.i2 (by assumption) | exact TI.i1 (by assumption) | exact TI.i0 (by assumption) | exact TI.i4 (by assumption) | exact TI.i6 (by assumption) | exact TI.i7 (by assumption)) (fun c19 => ?_) (fun c19 => ?_)
    ·
      refine wp_iconst (pc := 38) dX12_here_38 ?_
      exact wp_ir (pc := 39) dX12_here_39 rfl (by decide) (by decide) (by unfold hr; rw [if_neg (by omega)]) (by first | exact ⟨K, O⟩ | rfl)
    ·
      refine wp_aload_n (pc := 22) dX12_here_22 rfl ?_
      refine wm_get dX12_here_23 gf_X12_106 K (by rfl) ?_
      refine wp_aload_n (pc := 26) dX12_here_26 rfl ?_
      refine wm_gets dX12_here_27 gf_X12_115 K (by rfl) (by repeat (first | assumption | exact pv10 | exact pv11 | refine pv_o (by decide) (by decide) ?_ | exact upN_eq | refine upN_ne (by decide) ?_ | refine SV_at (by assumption) (by decide) ?_ | exact rfl)) ?_
      refine wm_bald dX12_here_30 K hm (by omega) (by omega) (by omega) (by omega) (by omega) rfl (e5 p (by omega)) ?_
      refine wp_sipush (pc := 31) (y := 255) dX12_here_31 (by decide) ?_
      refine wp_iand (pc := 34) dX12_here_34 (sb_and (byl_at e4 (by omega))) ?_
      have e0 := hr_eq (l := l) (tp := tp) (p := p) (by omega)
      rw [← e0]
      refine wp_goto (pc := 35) 39 dX12_here_35 (by decide) ?_
      exact wp_ir (pc := 39) dX12_here_39 rfl (by decide) (by decide) rfl rfl
theorem sp_Ref_fine (K : ModAt hp q (pv V p x) A rd rl) (rx : InR x) : Sp g MX12_fine (rm 0 0 0) [.ref q] hp (Pur (.int (B (x = -1))) hp) := by
  refine Sp_mk rfl (Nat.le_of_ble_eq_true rfl) ?_
  show wp g _ _ _ 0 0 0 [some (.ref q)] [] hp
  have O := SO.rf (hp := hp) (lo := q) (hi := q + 25)
  refine wp_aload_n (pc := 0) dX12_fine_0 rfl ?_
  refine wm_gets dX12_fine_1 gf_X12_118 K (by rfl) (by repeat (first | assumption | exact pv10 | exact pv11 | refine pv_o (by decide) (by decide) ?_ | exact upN_eq | refine upN_ne (by decide) ?_ | refine SV_at (by assumption) (by decide) ?_ | exact rfl)) ?_
  refine wp_iconst (pc := 4) dX12_fine_4 ?_
  refine wp_icmp_ne (pc := 5) 12 dX12_fine_5 (by decide) (by first | omega | exact TI.i5 (by assumption) | exact TI.i3 (by assumption) | exact TI.i2 (by assumption) | exact TI.i1 (by assumption) | exact TI.i0 (by assumption) | exact TI.i4 (by assumption) | exact TI.i6 (by assumption) | exact TI.i7 (by assumption)) (by first | omega | exact TI.i5 (by assumption) | exact TI.i3 (by assumption) | exact TI.i2 (by assumption) | exact TI.i1 (by assumption) | exact TI.i0 (by assumption) | exact TI.i4 (by assumption) | exact TI.i6 (by assumption) | exact TI.i7 (by assumption)) (fun c5 => ?_) (fun c5 => ?_)
  ·
    refine wp_iconst (pc := 12) dX12_fine_12 ?_
    first | exact wp_z1 (pc := 13) dX12_fine_13 rfl (by decide) (by decide) (by omega) (by first | exact ⟨K, O⟩ | rfl) | exact wp_z0 (pc := 13) dX12_fine_13 rfl (by decide) (by decide) (by omega) (by first | exact ⟨K, O⟩ | rfl) | exact wp_zb (pc := 13) dX12_fine_13 rfl (by decide) (by decide) Iff.rfl (by first | exact ⟨K, O⟩ | rfl)
  ·
    refine wp_iconst (pc := 8) dX12_fine_8 ?_
    refine wp_goto (pc := 9) 13 dX12_fine_9 (by decide) ?_
    first | exact wp_z1 (pc := 13) dX12_fine_13 rfl (by decide) (by decide) (by omega) (by first | exact ⟨K, O⟩ | rfl) | exact wp_z0 (pc := 13) dX12_fine_13 rfl (by decide) (by decide) (by omega) (by first | exact ⟨K, O⟩ | rfl) | exact wp_zb (pc := 13) dX12_fine_13 rfl (by decide) (by decide) Iff.rfl (by first | exact ⟨K, O⟩ | rfl)
theorem sp_Ref_fault (K : ModAt hp q (pv V p x) A rd rl) (rx : InR x) : Sp g MX12_fault (rm 1 0 0) [.ref q, .int (I y)] hp (Vod (fun hp2 => ModAt hp2 q (pv V p (if x = -1 then y else x)) A rd rl ∧ SO hp hp2 q (q + 25))) := by
  refine Sp_mk rfl (Nat.le_of_ble_eq_true rfl) ?_
  show wp g _ _ _ 0 0 0 [some (.ref q), some (.int (I y))] [] hp
  have O := SO.rf (hp := hp) (lo := q) (hi := q + 25)
  refine wp_aload_n (pc := 0) dX12_fault_0 rfl ?_
  refine wp_Vp (pc := 1) dX12_fault_1 cl_X12_125 (sp_Ref_fine (by first | assumption | omega | (repeat (first | assumption | exact pv10 | exact pv11 | refine pv_o (by decide) (by decide) ?_ | exact upN_eq | refine upN_ne (by decide) ?_ | exact upA_eq | refine upA_ne (by first | decide | omega) ?_ | refine SV_at (by assumption) (by decide) ?_ | refine SA_at (by assumption) (by first | decide | (simp; omega)) ?_ | exact rfl))) (by first | assumption | omega | (repeat (first | assumption | exact pv10 | exact pv11 | refine pv_o (by decide) (by decide) ?_ | exact upN_eq | refine upN_ne (by decide) ?_ | exact upA_eq | refine upA_ne (by first | decide | omega) ?_ | refine SV_at (by assumption) (by decide) ?_ | refine SA_at (by assumption) (by first | decide | (simp; omega)) ?_ | exact rfl)))) rfl rfl K.1 (by rfl) (by decide) (Nat.le_of_ble_eq_true rfl) ?_
  first | refine wp_ifb_eq (pc := 4) 12 dX12_fault_4 (by decide) (fun c4 => ?_) (fun c4 => ?_) | refine wp_if_eq (pc := 4) 12 dX12_fault_4 (by decide) (by first | omega | exact TI.i5 (by assumption) | exact TI.i3 (by assumption) | exact TI.i2 (by assumption) | exact TI.i1 (by assumption) | exact TI.i0 (by assumption) | exact TI.i4 (by assumption) | exact TI.i6 (by assumption) | exact TI.i7 (by assumption)) (fun c4 => ?_) (fun c4 => ?_)
  ·
    rw [if_neg c4] -- go
    exact wp_vr (pc := 12) dX12_fault_12 rfl (by decide) (by decide) (by first | exact ⟨K, O⟩ | rfl)
  ·
    rw [if_pos c4] -- go
    refine wp_aload_n (pc := 7) dX12_fault_7 rfl ?_
    refine wp_iload_n (pc := 8) dX12_fault_8 rfl ?_
    refine wm_put dX12_fault_9 pf_X12_118 K O (by decide) mset_11 rfl rfl (fun hp K O => ?_)
    try rw [pv_w] at K
    exact wp_vr (pc := 12) dX12_fault_12 rfl (by decide) (by decide) (by first | exact ⟨K, O⟩ | rfl)
theorem sp_Ref_passes (K : ModAt hp q (pv V p x) A rd rl) (L : RdL A V q rd l tp) (rx : InR x) (hpp : p ≤ 80) (rc : InR c) : Sp g MX12_passes (rm 1 0 0) [.ref q, .int (I c)] hp (Eff (.int (B (x = -1 ∧ hr l tp p = c))) (fun hp2 => ModAt hp2 q (pv V (if x = -1 ∧ hr l tp p = c then p + 1 else p) x) A rd rl ∧ SO hp hp2 q (q + 25))) := by
  have hh := hr_in (tp := tp) (p := p) L.bb
  refine Sp_mk rfl (Nat.le_of_ble_eq_true rfl) ?_
  show wp g _ _ _ 0 0 0 [some (.ref q), some (.int (I c))] [] hp
  have O := SO.rf (hp := hp) (lo := q) (hi := q + 25)
  refine wp_aload_n (pc := 0) dX12_passes_0 rfl ?_
  refine wp_Vp (pc := 1) dX12_passes_1 cl_X12_125 (sp_Ref_fine (by first | assumption | omega | (repeat (first | assumption | exact pv10 | exact pv11 | refine pv_o (by decide) (by decide) ?_ | exact upN_eq | refine upN_ne (by decide) ?_ | exact upA_eq | refine upA_ne (by first | decide | omega) ?_ | refine SV_at (by assumption) (by decide) ?_ | refine SA_at (by assumption) (by first | decide | (simp; omega)) ?_ | exact rfl))) (by first | assumption | omega | (repeat (first | assumption | exact pv10 | exact pv11 | refine pv_o (by decide) (by decide) ?_ | exact upN_eq | refine upN_ne (by decide) ?_ | exact upA_eq | refine upA_ne (by first | decide | omega) ?_ | refine SV_at (by assumption) (by decide) ?_ | refine SA_at (by assumption) (by first | decide | (simp; omega)) ?_ | exact rfl)))) rfl rfl K.1 (by rfl) (by decide) (Nat.le_of_ble_eq_true rfl) ?_
  first | refine wp_ifb_eq (pc := 4) 15 dX12_passes_4 (by decide) (fun c4 => ?_) (fun c4 => ?_) | refine wp_if_eq (pc := 4) 15 dX12_passes_4 (by decide) (by first | omega | exact TI.i5 (by assumption) | exact TI.i3 (by assumption) | exact TI.i2 (by assumption) | exact TI.i1 (by assumption) | exact TI.i0 (by assumption) | exact TI.i4 (by assumption) | exact TI.i6 (by assumption) | exact TI.i7 (by assumption)) (fun c4 => ?_) (fun c4 => ?_)
  ·
    have z : ¬ (x = -1 ∧ hr l tp p = c) := by omega
    simp only [if_neg z] -- go
    refine wp_iconst (pc := 15) dX12_passes_15 ?_
    first | exact wp_z1 (pc := 16) dX12_passes_16 rfl (by decide) (by decide) z (by first | exact ⟨K, O⟩ | rfl) | exact wp_z0 (pc := 16) dX12_passes_16 rfl (by decide) (by decide) z (by first | exact ⟨K, O⟩ | rfl) | exact wp_zb (pc := 16) dX12_passes_16 rfl (by decide) (by decide) Iff.rfl (by first | exact ⟨K, O⟩ | rfl)
  ·
    refine wp_aload_n (pc := 7) dX12_passes_7 rfl ?_
    refine wp_Vp (pc := 8) dX12_passes_8 cl_X12_129 (sp_Ref_here (by first | assumption | omega | (repeat (first | assumption | exact pv10 | exact pv11 | refine pv_o (by decide) (by decide) ?_ | exact upN_eq | refine upN_ne (by decide) ?_ | exact upA_eq | refine upA_ne (by first | decide | omega) ?_ | refine SV_at (by assumption) (by decide) ?_ | refine SA_at (by assumption) (by first | decide | (simp; omega)) ?_ | exact rfl))) (by first | assumption | omega | (repeat (first | assumption | exact pv10 | exact pv11 | refine pv_o (by decide) (by decide) ?_ | exact upN_eq | refine upN_ne (by decide) ?_ | exact upA_eq | refine upA_ne (by first | decide | omega) ?_ | refine SV_at (by assumption) (by decide) ?_ | refine SA_at (by assumption) (by first | decide | (simp; omega)) ?_ | exact rfl))) (by first | assumption | omega | (repeat (first | assumption | exact pv10 | exact pv11 | refine pv_o (by decide) (by decide) ?_ | exact upN_eq | refine upN_ne (by decide) ?_ | exact upA_eq | refine upA_ne (by first | decide | omega) ?_ | refine SV_at (by assumption) (by decide) ?_ | refine SA_at (by assumption) (by first | decide | (simp; omega)) ?_ | exact rfl)))) rfl rfl K.1 (by rfl) (by decide) (Nat.le_of_ble_eq_true rfl) ?_
    refine wp_iload_n (pc := 11) dX12_passes_11 rfl ?_
    refine wp_icmp_eq (pc := 12) 17 dX12_passes_12 (by decide) (by first | omega | exact TI.i5 (by assumption) | exact TI.i3 (by assumption) | exact TI.i2 (by assumption) | exact TI.i1 (by assumption) | exact TI.i0 (by assumption) | exact TI.i4 (by assumption) | exact TI.i6 (by assumption) | exact TI.i7 (by assumption)) (by first | omega | exact TI.i5 (by assumption) | exact TI.i3 (by assumption) | exact TI.i2 (by assumption) | exact TI.i1 (by assumption) | exact TI.i0 (by assumption) | exact TI.i4 (by assumption) | exact TI.i6 (by assumption) | exact TI.i7 (by assumption)) (fun c12 => ?_) (fun c12 => ?_)
    ·
      have z : x = -1 ∧ hr l tp p = c := by omega
      simp only [if_pos z] -- go
      refine wp_aload_n (pc := 17) dX12_passes_17 rfl ?_
      refine wp_dup (pc := 18) dX12_passes_18 rfl ?_
      refine wm_gets dX12_passes_19 gf_X12_115 K (by rfl) (by repeat (first | assumption | exact pv10 | exact pv11 | refine pv_o (by decide) (by decide) ?_ | exact upN_eq | refine upN_ne (by decide) ?_ | refine SV_at (by assumption) (by decide) ?_ | exact rfl)) ?_
      refine wp_iconst (pc := 22) dX12_passes_22 ?_
      refine wp_iadd (pc := 23) dX12_passes_23 ?_
      refine wm_put dX12_passes_24 pf_X12_115 K O (by decide) mset_10 rfl rfl (fun hp K O => ?_)
      try rw [pv_at] at K
      refine wp_iconst (pc := 27) dX12_passes_27 ?_
      first | exact wp_z1 (pc := 28) dX12_passes_28 rfl (by decide) (by decide) z (by first | exact ⟨K, O⟩ | rfl) | exact wp_z0 (pc := 28) dX12_passes_28 rfl (by decide) (by decide) z (by first | exact ⟨K, O⟩ | rfl) | exact wp_zb (pc := 28) dX12_passes_28 rfl (by decide) (by decide) Iff.rfl (by first | exact ⟨K, O⟩ | rfl)
    ·
      have z : ¬ (x = -1 ∧ hr l tp p = c) := by omega
      simp only [if_neg z] -- go
      refine wp_iconst (pc := 15) dX12_passes_15 ?_
      first | exact wp_z1 (pc := 16) dX12_passes_16 rfl (by decide) (by decide) z (by first | exact ⟨K, O⟩ | rfl) | exact wp_z0 (pc := 16) dX12_passes_16 rfl (by decide) (by decide) z (by first | exact ⟨K, O⟩ | rfl) | exact wp_zb (pc := 16) dX12_passes_16 rfl (by decide) (by decide) Iff.rfl (by first | exact ⟨K, O⟩ | rfl)
theorem sp_Ref_need (K : ModAt hp q (pv V p x) A rd rl) (L : RdL A V q rd l tp) (rx : InR x) (hpp : p ≤ 80) (rc : InR c) : Sp g MX12_need (rm 2 0 0) [.ref q, .int (I c)] hp (Vod (fun hp2 => ModAt hp2 q (pv V (if x = -1 ∧ hr l tp p = c then p + 1 else p) (if x = -1 ∧ ¬ hr l tp p = c then (p : Int) else x)) A rd rl ∧ SO hp hp2 q (q + 25))) := by
  refine Sp_mk rfl (Nat.le_of_ble_eq_true rfl) ?_
  show wp g _ _ _ 0 0 0 [some (.ref q), some (.int (I c))] [] hp
  have O := SO.rf (hp := hp) (lo := q) (hi := q + 25)
  refine wp_aload_n (pc := 0) dX12_need_0 rfl ?_
  refine wp_iload_n (pc := 1) dX12_need_1 rfl ?_
  refine wp_Vs (pc := 2) dX12_need_2 cl_X12_133 (sp_Ref_passes (by first | assumption | omega | (repeat (first | assumption | exact pv10 | exact pv11 | refine pv_o (by decide) (by decide) ?_ | exact upN_eq | refine upN_ne (by decide) ?_ | exact upA_eq | refine upA_ne (by first | decide | omega) ?_ | refine SV_at (by assumption) (by decide) ?_ | refine SA_at (by assumption) (by first | decide | (simp; omega)) ?_ | exact rfl))) (by first | assumption | omega | (repeat (first | assumption | exact pv10 | exact pv11 | refine pv_o (by decide) (by decide) ?_ | exact upN_eq | refine upN_ne (by decide) ?_ | exact upA_eq | refine upA_ne (by first | decide | omega) ?_ | refine SV_at (by assumption) (by decide) ?_ | refine SA_at (by assumption) (by first | decide | (simp; omega)) ?_ | exact rfl))) (by first | assumption | omega | (repeat (first | assumption | exact pv10 | exact pv11 | refine pv_o (by decide) (by decide) ?_ | exact upN_eq | refine upN_ne (by decide) ?_ | exact upA_eq | refine upA_ne (by first | decide | omega) ?_ | refine SV_at (by assumption) (by decide) ?_ | refine SA_at (by assumption) (by first | decide | (simp; omega)) ?_ | exact rfl))) (by first | assumption | omega | (repeat (first | assumption | exact pv10 | exact pv11 | refine pv_o (by decide) (by decide) ?_ | exact upN_eq | refine upN_ne (by decide) ?_ | exact upA_eq | refine upA_ne (by first | decide | omega) ?_ | refine SV_at (by assumption) (by decide) ?_ | refine SA_at (by assumption) (by first | decide | (simp; omega)) ?_ | exact rfl))) (by first | assumption | omega | (repeat (first | assumption | exact pv10 | exact pv11 | refine pv_o (by decide) (by decide) ?_ | exact upN_eq | refine upN_ne (by decide) ?_ | exact upA_eq | refine upA_ne (by first | decide | omega) ?_ | refine SV_at (by assumption) (by decide) ?_ | refine SA_at (by assumption) (by first | decide | (simp; omega)) ?_ | exact rfl)))) rfl rfl K.1 (by rfl) (by decide) (Nat.le_of_ble_eq_true rfl) (fun hp2 e2 => ?_)
  obtain ⟨K, O1⟩ := e2
  replace O := SO.tr O O1
  first | refine wp_ifb_ne (pc := 5) 16 dX12_need_5 (by decide) (fun c5 => ?_) (fun c5 => ?_) | refine wp_if_ne (pc := 5) 16 dX12_need_5 (by decide) (by first | omega | exact TI.i5 (by assumption) | exact TI.i3 (by assumption) | exact TI.i2 (by assumption) | exact TI.i1 (by assumption) | exact TI.i0 (by assumption) | exact TI.i4 (by assumption) | exact TI.i6 (by assumption) | exact TI.i7 (by assumption)) (fun c5 => ?_) (fun c5 => ?_)
  ·
    simp only [if_neg (show ¬ (x = -1 ∧ ¬ hr l tp p = c) by omega)] -- go
    exact wp_vr (pc := 16) dX12_need_16 rfl (by decide) (by decide) (by first | exact ⟨K, O⟩ | rfl)
  ·
    refine wp_aload_n (pc := 8) dX12_need_8 rfl ?_
    refine wp_aload_n (pc := 9) dX12_need_9 rfl ?_
    refine wm_gets dX12_need_10 gf_X12_115 K (by rfl) (by repeat (first | assumption | exact pv10 | exact pv11 | refine pv_o (by decide) (by decide) ?_ | exact upN_eq | refine upN_ne (by decide) ?_ | refine SV_at (by assumption) (by decide) ?_ | exact rfl)) ?_
    refine wp_Vn (pc := 13) dX12_need_13 cl_X12_137 (sp_Ref_fault (by first | assumption | omega | (repeat (first | assumption | exact pv10 | exact pv11 | refine pv_o (by decide) (by decide) ?_ | exact upN_eq | refine upN_ne (by decide) ?_ | exact upA_eq | refine upA_ne (by first | decide | omega) ?_ | refine SV_at (by assumption) (by decide) ?_ | refine SA_at (by assumption) (by first | decide | (simp; omega)) ?_ | exact rfl))) (by first | assumption | omega | (repeat (first | assumption | exact pv10 | exact pv11 | refine pv_o (by decide) (by decide) ?_ | exact upN_eq | refine upN_ne (by decide) ?_ | exact upA_eq | refine upA_ne (by first | decide | omega) ?_ | refine SV_at (by assumption) (by decide) ?_ | refine SA_at (by assumption) (by first | decide | (simp; omega)) ?_ | exact rfl)))) rfl rfl K.1 (by rfl) (by decide) (Nat.le_of_ble_eq_true rfl) (fun hp13 e13 => ?_)
    obtain ⟨K, O1⟩ := e13
    replace O := SO.tr O O1
    have e : (if x = -1 then ((if x = -1 ∧ hr l tp p = c then p + 1 else p : Nat) : Int) else x) = (if x = -1 ∧ ¬ hr l tp p = c then (p : Int) else x) := by repeat' split <;> omega
    rw [e] at K
    exact wp_vr (pc := 16) dX12_need_16 rfl (by decide) (by decide) (by first | exact ⟨K, O⟩ | rfl)
theorem sp_Ref_oneOf (K : ModAt hp q (pv V p x) A rd rl) (L : RdL A V q rd l tp) (rx : InR x) (hpp : p ≤ 80) (rc : 0 ≤ c ∧ 1 ≤ b ∧ c + b ≤ 128) : Sp g MX12_oneOf (rm 2 0 0) [.ref q, .int (I c), .int (I b)] hp (Eff (.int (I (if x = -1 ∧ c ≤ hr l tp p ∧ hr l tp p < c + b then hr l tp p - c else 0))) (fun hp2 => ModAt hp2 q (pv V (if x = -1 ∧ c ≤ hr l tp p ∧ hr l tp p < c + b then p + 1 else p) (if x = -1 ∧ ¬ (c ≤ hr l tp p ∧ hr l tp p < c + b) then (p : Int) else x)) A rd rl ∧ SO hp hp2 q (q + 25))) := by
  have hh := hr_in (tp := tp) (p := p) L.bb
  obtain ⟨j, N, rfl, hm, j1, j2, e1, e2, h8, h9, e3, e4, e5⟩ := L.get
  refine Sp_mk rfl (Nat.le_of_ble_eq_true rfl) ?_
  show wp g _ _ _ 0 0 0 [some (.ref q), some (.int (I c)), some (.int (I b))] [] hp
  have O := SO.rf (hp := hp) (lo := q) (hi := q + 25)
  refine wp_aload_n (pc := 0) dX12_oneOf_0 rfl ?_
  refine wp_Vp (pc := 1) dX12_oneOf_1 cl_X12_125 (sp_Ref_fine (by first | assumption | omega | (repeat (first | assumption | exact pv10 | exact pv11 | refine pv_o (by decide) (by decide) ?_ | exact upN_eq | refine upN_ne (by decide) ?_ | exact upA_eq | refine upA_ne (by first | decide | omega) ?_ | refine SV_at (by assumption) (by decide) ?_ | refine SA_at (by assumption) (by first | decide | (simp; omega)) ?_ | exact rfl))) (by first | assumption | omega | (repeat (first | assumption | exact pv10 | exact pv11 | refine pv_o (by decide) (by decide) ?_ | exact upN_eq | refine upN_ne (by decide) ?_ | exact upA_eq | refine upA_ne (by first | decide | omega) ?_ | refine SV_at (by assumption) (by decide) ?_ | refine SA_at (by assumption) (by first | decide | (simp; omega)) ?_ | exact rfl)))) rfl rfl K.1 (by rfl) (by decide) (Nat.le_of_ble_eq_true rfl) ?_
  first | refine wp_ifb_ne (pc := 4) 9 dX12_oneOf_4 (by decide) (fun c4 => ?_) (fun c4 => ?_) | refine wp_if_ne (pc := 4) 9 dX12_oneOf_4 (by decide) (by first | omega | exact TI.i5 (by assumption) | exact TI.i3 (by assumption) | exact TI.i2 (by assumption) | exact TI.i1 (by assumption) | exact TI.i0 (by assumption) | exact TI.i4 (by assumption) | exact TI.i6 (by assumption) | exact TI.i7 (by assumption)) (fun c4 => ?_) (fun c4 => ?_)
  ·
    refine wp_aload_n (pc := 9) dX12_oneOf_9 rfl ?_
    refine wp_Vp (pc := 10) dX12_oneOf_10 cl_X12_129 (sp_Ref_here (by first | assumption | omega | (repeat (first | assumption | exact pv10 | exact pv11 | refine pv_o (by decide) (by decide) ?_ | exact upN_eq | refine upN_ne (by decide) ?_ | exact upA_eq | refine upA_ne (by first | decide | omega) ?_ | refine SV_at (by assumption) (by decide) ?_ | refine SA_at (by assumption) (by first | decide | (simp; omega)) ?_ | exact rfl))) (by first | assumption | omega | (repeat (first | assumption | exact pv10 | exact pv11 | refine pv_o (by decide) (by decide) ?_ | exact upN_eq | refine upN_ne (by decide) ?_ | exact upA_eq | refine upA_ne (by first | decide | omega) ?_ | refine SV_at (by assumption) (by decide) ?_ | refine SA_at (by assumption) (by first | decide | (simp; omega)) ?_ | exact rfl))) (by first | assumption | omega | (repeat (first | assumption | exact pv10 | exact pv11 | refine pv_o (by decide) (by decide) ?_ | exact upN_eq | refine upN_ne (by decide) ?_ | exact upA_eq | refine upA_ne (by first | decide | omega) ?_ | refine SV_at (by assumption) (by decide) ?_ | refine SA_at (by assumption) (by first | decide | (simp; omega)) ?_ | exact rfl)))) rfl rfl K.1 (by rfl) (by decide) (Nat.le_of_ble_eq_true rfl) ?_
    refine wp_iload_n (pc := 13) dX12_oneOf_13 rfl ?_
    refine wp_iload_n (pc := 14) dX12_oneOf_14 rfl ?_
    refine wp_iload_n (pc := 15) dX12_oneOf_15 rfl ?_
    refine wp_iadd (pc := 16) dX12_oneOf_16 ?_
    refine wp_iconst (pc := 17) dX12_oneOf_17 ?_
    refine wp_isub (pc := 18) dX12_oneOf_18 ?_
    refine wp_Sp (pc := 19) dX12_oneOf_19 cl_X12_95 (sp_Ref_in (by first | assumption | omega | (repeat (first | assumption | exact pv10 | exact pv11 | refine pv_o (by decide) (by decide) ?_ | exact upN_eq | refine upN_ne (by decide) ?_ | exact upA_eq | refine upA_ne (by first | decide | omega) ?_ | refine SV_at (by assumption) (by decide) ?_ | refine SA_at (by assumption) (by first | decide | (simp; omega)) ?_ | exact rfl))) (by first | assumption | omega | (repeat (first | assumption | exact pv10 | exact pv11 | refine pv_o (by decide) (by decide) ?_ | exact upN_eq | refine upN_ne (by decide) ?_ | exact upA_eq | refine upA_ne (by first | decide | omega) ?_ | refine SV_at (by assumption) (by decide) ?_ | refine SA_at (by assumption) (by first | decide | (simp; omega)) ?_ | exact rfl))) (by first | assumption | omega | (repeat (first | assumption | exact pv10 | exact pv11 | refine pv_o (by decide) (by decide) ?_ | exact upN_eq | refine upN_ne (by decide) ?_ | exact upA_eq | refine upA_ne (by first | decide | omega) ?_ | refine SV_at (by assumption) (by decide) ?_ | refine SA_at (by assumption) (by first | decide | (simp; omega)) ?_ | exact rfl)))) rfl rfl (by decide) (Nat.le_of_ble_eq_true rfl) ?_
    first | refine wp_ifb_ne (pc := 22) 35 dX12_oneOf_22 (by decide) (fun c22 => ?_) (fun c22 => ?_) | refine wp_if_ne (pc := 22) 35 dX12_oneOf_22 (by decide) (by first | omega | exact TI.i5 (by assumption) | exact TI.i3 (by assumption) | exact TI.i2 (by assumption) | exact TI.i1 (by assumption) | exact TI.i0 (by assumption) | exact TI.i4 (by assumption) | exact TI.i6 (by assumption) | exact TI.i7 (by assumption)) (fun c22 => ?_) (fun c22 => ?_)
    ·
      have hl := hr_lt (l := l) (tp := tp) (p := p) (by omega)
      have he := hr_eq hl
      have hs : sb (l.getD p 0) = hr l tp p := by unfold sb; rw [if_pos (by omega), he]
      simp only [if_pos (show (x = -1 ∧ c ≤ hr l tp p ∧ hr l tp p < c + b) by omega), if_neg (show ¬ (x = -1 ∧ ¬ (c ≤ hr l tp p ∧ hr l tp p < c + b)) by omega)] -- go
      refine wp_aload_n (pc := 35) dX12_oneOf_35 rfl ?_
      refine wp_dup (pc := 36) dX12_oneOf_36 rfl ?_
      refine wm_gets dX12_oneOf_37 gf_X12_115 K (by rfl) (by repeat (first | assumption | exact pv10 | exact pv11 | refine pv_o (by decide) (by decide) ?_ | exact upN_eq | refine upN_ne (by decide) ?_ | refine SV_at (by assumption) (by decide) ?_ | exact rfl)) ?_
      refine wp_iconst (pc := 40) dX12_oneOf_40 ?_
      refine wp_iadd (pc := 41) dX12_oneOf_41 ?_
      refine wm_put dX12_oneOf_42 pf_X12_115 K O (by decide) mset_10 rfl rfl (fun hp K O => ?_)
      try rw [pv_at] at K
      refine wp_aload_n (pc := 45) dX12_oneOf_45 rfl ?_
      refine wm_get dX12_oneOf_46 gf_X12_106 K (by rfl) ?_
      refine wp_aload_n (pc := 49) dX12_oneOf_49 rfl ?_
      refine wm_gets dX12_oneOf_50 gf_X12_115 K (by rfl) (by repeat (first | assumption | exact pv10 | exact pv11 | refine pv_o (by decide) (by decide) ?_ | exact upN_eq | refine upN_ne (by decide) ?_ | refine SV_at (by assumption) (by decide) ?_ | exact rfl)) ?_
      refine wp_iconst (pc := 53) dX12_oneOf_53 ?_
      refine wp_isub (pc := 54) dX12_oneOf_54 ?_
      refine wm_bald dX12_oneOf_55 K hm (by omega) (by omega) (by omega) (by omega) (by omega) rfl (show A j (((p + 1 : Nat) : Int) - 1) = hr l tp p by rw [show ((p + 1 : Nat) : Int) - 1 = (p : Int) by omega, e5 p (by omega), hs]) ?_
      refine wp_iload_n (pc := 56) dX12_oneOf_56 rfl ?_
      refine wp_isub (pc := 57) dX12_oneOf_57 ?_
      exact wp_ir (pc := 58) dX12_oneOf_58 rfl (by decide) (by decide) (by first | rfl | omega) (by first | exact ⟨K, O⟩ | rfl)
    ·
      simp only [if_neg (show ¬ (x = -1 ∧ c ≤ hr l tp p ∧ hr l tp p < c + b) by omega), if_pos (show (x = -1 ∧ ¬ (c ≤ hr l tp p ∧ hr l tp p < c + b)) by omega)] -- go
      refine wp_aload_n (pc := 25) dX12_oneOf_25 rfl ?_
      refine wp_aload_n (pc := 26) dX12_oneOf_26 rfl ?_
      refine wm_gets dX12_oneOf_27 gf_X12_115 K (by rfl) (by repeat (first | assumption | exact pv10 | exact pv11 | refine pv_o (by decide) (by decide) ?_ | exact upN_eq | refine upN_ne (by decide) ?_ | refine SV_at (by assumption) (by decide) ?_ | exact rfl)) ?_
      refine wp_Vn (pc := 30) dX12_oneOf_30 cl_X12_137 (sp_Ref_fault (by first | assumption | omega | (repeat (first | assumption | exact pv10 | exact pv11 | refine pv_o (by decide) (by decide) ?_ | exact upN_eq | refine upN_ne (by decide) ?_ | exact upA_eq | refine upA_ne (by first | decide | omega) ?_ | refine SV_at (by assumption) (by decide) ?_ | refine SA_at (by assumption) (by first | decide | (simp; omega)) ?_ | exact rfl))) (by first | assumption | omega | (repeat (first | assumption | exact pv10 | exact pv11 | refine pv_o (by decide) (by decide) ?_ | exact upN_eq | refine upN_ne (by decide) ?_ | exact upA_eq | refine upA_ne (by first | decide | omega) ?_ | refine SV_at (by assumption) (by decide) ?_ | refine SA_at (by assumption) (by first | decide | (simp; omega)) ?_ | exact rfl)))) rfl rfl K.1 (by rfl) (by decide) (Nat.le_of_ble_eq_true rfl) (fun hp30 e30 => ?_)
      obtain ⟨K, O1⟩ := e30
      replace O := SO.tr O O1
      rw [if_pos c4] at K
      refine wp_iconst (pc := 33) dX12_oneOf_33 ?_
      exact wp_ir (pc := 34) dX12_oneOf_34 rfl (by decide) (by decide) (by first | rfl | omega) (by first | exact ⟨K, O⟩ | rfl)
  ·
    simp only [if_neg (show ¬ (x = -1 ∧ c ≤ hr l tp p ∧ hr l tp p < c + b) by omega), if_neg (show ¬ (x = -1 ∧ ¬ (c ≤ hr l tp p ∧ hr l tp p < c + b)) by omega)] -- go
    refine wp_iconst (pc := 7) dX12_oneOf_7 ?_
    exact wp_ir (pc := 8) dX12_oneOf_8 rfl (by decide) (by decide) (by first | rfl | omega) (by first | exact ⟨K, O⟩ | rfl)
theorem sp_Ref_begin (K : ModAt hp q V A rd rl) : Sp g MX12_begin (rm 0 0 0) [.ref q, .ref a, .int (I x), .int (I y)] hp (Vod (fun hp2 => ModAt hp2 q (pv (upN (upN V 8 x) 9 y) 0 (-1)) A (.ref a) rl ∧ SO hp hp2 q (q + 25))) := by
  refine Sp_mk rfl (Nat.le_of_ble_eq_true rfl) ?_
  show wp g _ _ _ 0 0 0 [some (.ref q), some (.ref a), some (.int (I x)), some (.int (I y))] [] hp
  have O := SO.rf (hp := hp) (lo := q) (hi := q + 25)
  refine wp_aload_n (pc := 0) dX12_begin_0 rfl ?_
  refine wp_aload_n (pc := 1) dX12_begin_1 rfl ?_
  refine wm_put dX12_begin_2 pf_X12_106 K O (by decide) mset_7 rfl rfl (fun hp K O => ?_)
  refine wp_aload_n (pc := 5) dX12_begin_5 rfl ?_
  refine wp_iload_n (pc := 6) dX12_begin_6 rfl ?_
  refine wm_put dX12_begin_7 pf_X12_109 K O (by decide) mset_8 rfl rfl (fun hp K O => ?_)
  refine wp_aload_n (pc := 10) dX12_begin_10 rfl ?_
  refine wp_iload_n (pc := 11) dX12_begin_11 rfl ?_
  refine wm_put dX12_begin_12 pf_X12_112 K O (by decide) mset_9 rfl rfl (fun hp K O => ?_)
  refine wp_aload_n (pc := 15) dX12_begin_15 rfl ?_
  refine wp_iconst (pc := 16) dX12_begin_16 ?_
  refine wm_put dX12_begin_17 pf_X12_115 K O (by decide) mset_10 rfl rfl (fun hp K O => ?_)
  try rw [pv_at] at K
  refine wp_aload_n (pc := 20) dX12_begin_20 rfl ?_
  refine wp_iconst (pc := 21) dX12_begin_21 ?_
  refine wm_put dX12_begin_22 pf_X12_118 K O (by decide) mset_11 rfl rfl (fun hp K O => ?_)
  try rw [pv_w] at K
  exact wp_vr (pc := 25) dX12_begin_25 rfl (by decide) (by decide) (by first | exact ⟨K, O⟩ | rfl)
theorem sp_Ref_beginText (K : ModAt hp q V A rd rl) (h3 : V 3 = x) : Sp g MX12_beginText (rm 1 0 0) [.ref q, .int (I y)] hp (Vod (fun hp2 => ModAt hp2 q (pv (upN (upN (upN V 8 x) 9 y) 3 0) 0 (-1)) A (.ref (q + 2)) rl ∧ SO hp hp2 q (q + 25))) := by
  refine Sp_mk rfl (Nat.le_of_ble_eq_true rfl) ?_
  show wp g _ _ _ 0 0 0 [some (.ref q), some (.int (I y))] [] hp
  have O := SO.rf (hp := hp) (lo := q) (hi := q + 25)
  refine wp_aload_n (pc := 0) dX12_beginText_0 rfl ?_
  refine wp_aload_n (pc := 1) dX12_beginText_1 rfl ?_
  refine wm_get dX12_beginText_2 gf_X12_13 K (by rfl) ?_
  refine wp_aload_n (pc := 5) dX12_beginText_5 rfl ?_
  refine wm_gets dX12_beginText_6 gf_X12_103 K (by rfl) (by repeat (first | assumption | exact pv10 | exact pv11 | refine pv_o (by decide) (by decide) ?_ | exact upN_eq | refine upN_ne (by decide) ?_ | refine SV_at (by assumption) (by decide) ?_ | exact rfl)) ?_
  refine wp_iload_n (pc := 9) dX12_beginText_9 rfl ?_
  refine wp_Vn (pc := 10) dX12_beginText_10 cl_X12_121 (sp_Ref_begin (by first | assumption | omega | (repeat (first | assumption | exact pv10 | exact pv11 | refine pv_o (by decide) (by decide) ?_ | exact upN_eq | refine upN_ne (by decide) ?_ | exact upA_eq | refine upA_ne (by first | decide | omega) ?_ | refine SV_at (by assumption) (by decide) ?_ | refine SA_at (by assumption) (by first | decide | (simp; omega)) ?_ | exact rfl)))) rfl rfl K.1 (by rfl) (by decide) (Nat.le_of_ble_eq_true rfl) (fun hp10 e10 => ?_)
  obtain ⟨K, O1⟩ := e10
  replace O := SO.tr O O1
  refine wp_aload_n (pc := 13) dX12_beginText_13 rfl ?_
  refine wp_iconst (pc := 14) dX12_beginText_14 ?_
  refine wm_put dX12_beginText_15 pf_X12_103 K O (by decide) mset_3 rfl rfl (fun hp K O => ?_)
  rw [pv_up (by decide) (by decide)] at K
  exact wp_vr (pc := 18) dX12_beginText_18 rfl (by decide) (by decide) (by first | exact ⟨K, O⟩ | rfl)
theorem sp_Ref_wasRight (K : ModAt hp q (pv V p x) A rd rl) (h8 : V 8 = (n : Int)) (rx : InR x) (hpp : p ≤ 80) (hn : n ≤ 80) : Sp g MX12_wasRight (rm 2 0 0) [.ref q] hp (Eff (.int (B (x = -1 ∧ n ≤ p))) (fun hp2 => ModAt hp2 q (pv V p (if x = -1 ∧ p < n then (p : Int) else x)) A rd rl ∧ SO hp hp2 q (q + 25))) := by
  refine Sp_mk rfl (Nat.le_of_ble_eq_true rfl) ?_
  show wp g _ _ _ 0 0 0 [some (.ref q)] [] hp
  have O := SO.rf (hp := hp) (lo := q) (hi := q + 25)
  refine wp_aload_n (pc := 0) dX12_wasRight_0 rfl ?_
  refine wm_gets dX12_wasRight_1 gf_X12_115 K (by rfl) (by repeat (first | assumption | exact pv10 | exact pv11 | refine pv_o (by decide) (by decide) ?_ | exact upN_eq | refine upN_ne (by decide) ?_ | refine SV_at (by assumption) (by decide) ?_ | exact rfl)) ?_
  refine wp_aload_n (pc := 4) dX12_wasRight_4 rfl ?_
  refine wm_gets dX12_wasRight_5 gf_X12_109 K (by rfl) (by repeat (first | assumption | exact pv10 | exact pv11 | refine pv_o (by decide) (by decide) ?_ | exact upN_eq | refine upN_ne (by decide) ?_ | refine SV_at (by assumption) (by decide) ?_ | exact rfl)) ?_
  refine wp_icmp_ge (pc := 8) 19 dX12_wasRight_8 (by decide) (by first | omega | exact TI.i5 (by assumption) | exact TI.i3 (by assumption) | exact TI.i2 (by assumption) | exact TI.i1 (by assumption) | exact TI.i0 (by assumption) | exact TI.i4 (by assumption) | exact TI.i6 (by assumption) | exact TI.i7 (by assumption)) (by first | omega | exact TI.i5 (by assumption) | exact TI.i3 (by assumption) | exact TI.i2 (by assumption) | exact TI.i1 (by assumption) | exact TI.i0 (by assumption) | exact TI.i4 (by assumption) | exact TI.i6 (by assumption) | exact TI.i7 (by assumption)) (fun c8 => ?_) (fun c8 => ?_)
  ·
    rw [if_neg (show ¬ (x = -1 ∧ p < n) by omega)] -- go
    refine wp_aload_n (pc := 19) dX12_wasRight_19 rfl ?_
    refine wp_Vp (pc := 20) dX12_wasRight_20 cl_X12_125 (sp_Ref_fine (by first | assumption | omega | (repeat (first | assumption | exact pv10 | exact pv11 | refine pv_o (by decide) (by decide) ?_ | exact upN_eq | refine upN_ne (by decide) ?_ | exact upA_eq | refine upA_ne (by first | decide | omega) ?_ | refine SV_at (by assumption) (by decide) ?_ | refine SA_at (by assumption) (by first | decide | (simp; omega)) ?_ | exact rfl))) (by first | assumption | omega | (repeat (first | assumption | exact pv10 | exact pv11 | refine pv_o (by decide) (by decide) ?_ | exact upN_eq | refine upN_ne (by decide) ?_ | exact upA_eq | refine upA_ne (by first | decide | omega) ?_ | refine SV_at (by assumption) (by decide) ?_ | refine SA_at (by assumption) (by first | decide | (simp; omega)) ?_ | exact rfl)))) rfl rfl K.1 (by rfl) (by decide) (Nat.le_of_ble_eq_true rfl) ?_
    first | exact wp_z1 (pc := 23) dX12_wasRight_23 rfl (by decide) (by decide) (by omega) (by first | exact ⟨K, O⟩ | rfl) | exact wp_z0 (pc := 23) dX12_wasRight_23 rfl (by decide) (by decide) (by omega) (by first | exact ⟨K, O⟩ | rfl) | exact wp_zb (pc := 23) dX12_wasRight_23 rfl (by decide) (by decide) (by first | omega | (split <;> omega)) (by first | exact ⟨K, O⟩ | rfl)
  ·
    refine wp_aload_n (pc := 11) dX12_wasRight_11 rfl ?_
    refine wp_aload_n (pc := 12) dX12_wasRight_12 rfl ?_
    refine wm_gets dX12_wasRight_13 gf_X12_115 K (by rfl) (by repeat (first | assumption | exact pv10 | exact pv11 | refine pv_o (by decide) (by decide) ?_ | exact upN_eq | refine upN_ne (by decide) ?_ | refine SV_at (by assumption) (by decide) ?_ | exact rfl)) ?_
    refine wp_Vn (pc := 16) dX12_wasRight_16 cl_X12_137 (sp_Ref_fault (by first | assumption | omega | (repeat (first | assumption | exact pv10 | exact pv11 | refine pv_o (by decide) (by decide) ?_ | exact upN_eq | refine upN_ne (by decide) ?_ | exact upA_eq | refine upA_ne (by first | decide | omega) ?_ | refine SV_at (by assumption) (by decide) ?_ | refine SA_at (by assumption) (by first | decide | (simp; omega)) ?_ | exact rfl))) (by first | assumption | omega | (repeat (first | assumption | exact pv10 | exact pv11 | refine pv_o (by decide) (by decide) ?_ | exact upN_eq | refine upN_ne (by decide) ?_ | exact upA_eq | refine upA_ne (by first | decide | omega) ?_ | refine SV_at (by assumption) (by decide) ?_ | refine SA_at (by assumption) (by first | decide | (simp; omega)) ?_ | exact rfl)))) rfl rfl K.1 (by rfl) (by decide) (Nat.le_of_ble_eq_true rfl) (fun hp16 e16 => ?_)
    obtain ⟨K, O1⟩ := e16
    replace O := SO.tr O O1
    have e : (if x = -1 then (p : Int) else x) = (if x = -1 ∧ p < n then (p : Int) else x) := by repeat' split <;> omega
    rw [e] at K
    have r2 : InR (if x = -1 ∧ p < n then (p : Int) else x) := by split <;> omega
    refine wp_aload_n (pc := 19) dX12_wasRight_19 rfl ?_
    refine wp_Vp (pc := 20) dX12_wasRight_20 cl_X12_125 (sp_Ref_fine (by first | assumption | omega | (repeat (first | assumption | exact pv10 | exact pv11 | refine pv_o (by decide) (by decide) ?_ | exact upN_eq | refine upN_ne (by decide) ?_ | exact upA_eq | refine upA_ne (by first | decide | omega) ?_ | refine SV_at (by assumption) (by decide) ?_ | refine SA_at (by assumption) (by first | decide | (simp; omega)) ?_ | exact rfl))) (by first | assumption | omega | (repeat (first | assumption | exact pv10 | exact pv11 | refine pv_o (by decide) (by decide) ?_ | exact upN_eq | refine upN_ne (by decide) ?_ | exact upA_eq | refine upA_ne (by first | decide | omega) ?_ | refine SV_at (by assumption) (by decide) ?_ | refine SA_at (by assumption) (by first | decide | (simp; omega)) ?_ | exact rfl)))) rfl rfl K.1 (by rfl) (by decide) (Nat.le_of_ble_eq_true rfl) ?_
    first | exact wp_z1 (pc := 23) dX12_wasRight_23 rfl (by decide) (by decide) (by omega) (by first | exact ⟨K, O⟩ | rfl) | exact wp_z0 (pc := 23) dX12_wasRight_23 rfl (by decide) (by decide) (by omega) (by first | exact ⟨K, O⟩ | rfl) | exact wp_zb (pc := 23) dX12_wasRight_23 rfl (by decide) (by decide) (by first | omega | (split <;> omega)) (by first | exact ⟨K, O⟩ | rfl)
theorem lp_Ref_number  : ∀ (m i : Nat), 3 < i + m → i ≤ 3 → ∀ (hp2 : Hp) (p : Nat) (v : Int) (K : ModAt hp2 q (pv V p (-1)) A rd rl) (O : SO hp hp2 q (q + 25)) (L : RdL A V q rd l tp) (hpp : p ≤ 80), wp g MX12_number (rm 3 0 0) (Eff (.int (I (nmb (hr l tp) (3 - i) p v).2)) (fun hp3 => ModAt hp3 q (pv V (nmb (hr l tp) (3 - i) p v).1 (-1)) A rd rl ∧ SO hp hp3 q (q + 25))) 0 0 11 [some (.ref q), some (.int (I 3)), some (.int (I v)), some (.int (I (i : Int)))] [] hp2 := by
  intro m
  induction m with
  | zero => intro i h1 h2; exact absurd h1 (by omega)
  | succ m ih =>
    intro i h1 h2 hp2 p v K O L hpp
    have hh := hr_in (tp := tp) (p := p) L.bb
    have hl := L.ll
    refine wp_iload_n (pc := 11) dX12_number_11 rfl ?_
    refine wp_iload_n (pc := 12) dX12_number_12 rfl ?_
    refine wp_icmp_ge (pc := 13) 57 dX12_number_13 (by decide) (by first | omega | exact TI.i5 (by assumption) | exact TI.i3 (by assumption) | exact TI.i2 (by assumption) | exact TI.i1 (by assumption) | exact TI.i0 (by assumption) | exact TI.i4 (by assumption) | exact TI.i6 (by assumption) | exact TI.i7 (by assumption)) (by first | omega | exact TI.i5 (by assumption) | exact TI.i3 (by assumption) | exact TI.i2 (by assumption) | exact TI.i1 (by assumption) | exact TI.i0 (by assumption) | exact TI.i4 (by assumption) | exact TI.i6 (by assumption) | exact TI.i7 (by assumption)) (fun c13 => ?_) (fun c13 => ?_)
    ·
      first
      | (exfalso; omega)
      | skip
        have e : nmb (hr l tp) (3 - i) p v = (p, v) := by
          by_cases z : i = 3
          · rw [z]; rfl
          · rw [show 3 - i = (3 - i - 1) + 1 by omega]; unfold nmb; rw [if_neg (by first | omega | (exfalso; omega))]
        rw [e]
        refine wp_iload_n (pc := 57) dX12_number_57 rfl ?_
        exact wp_ir (pc := 58) dX12_number_58 rfl (by decide) (by decide) (by first | rfl | omega) (by first | exact ⟨K, O⟩ | rfl)
    ·
      first
      | (exfalso; omega)
      | skip
        refine wp_aload_n (pc := 16) dX12_number_16 rfl ?_
        refine wp_Vp (pc := 17) dX12_number_17 cl_X12_125 (sp_Ref_fine (by first | assumption | omega | (repeat (first | assumption | exact pv10 | exact pv11 | refine pv_o (by decide) (by decide) ?_ | exact upN_eq | refine upN_ne (by decide) ?_ | exact upA_eq | refine upA_ne (by first | decide | omega) ?_ | refine SV_at (by assumption) (by decide) ?_ | refine SA_at (by assumption) (by first | decide | (simp; omega)) ?_ | exact rfl))) (by first | assumption | omega | (repeat (first | assumption | exact pv10 | exact pv11 | refine pv_o (by decide) (by decide) ?_ | exact upN_eq | refine upN_ne (by decide) ?_ | exact upA_eq | refine upA_ne (by first | decide | omega) ?_ | refine SV_at (by assumption) (by decide) ?_ | refine SA_at (by assumption) (by first | decide | (simp; omega)) ?_ | exact rfl)))) rfl rfl K.1 (by rfl) (by decide) (Nat.le_of_ble_eq_true rfl) ?_
        first | refine wp_ifb_eq (pc := 20) 57 dX12_number_20 (by decide) (fun c20 => ?_) (fun c20 => ?_) | refine wp_if_eq (pc := 20) 57 dX12_number_20 (by decide) (by first | omega | exact TI.i5 (by assumption) | exact TI.i3 (by assumption) | exact TI.i2 (by assumption) | exact TI.i1 (by assumption) | exact TI.i0 (by assumption) | exact TI.i4 (by assumption) | exact TI.i6 (by assumption) | exact TI.i7 (by assumption)) (fun c20 => ?_) (fun c20 => ?_)
        ·
          first
          | (exfalso; omega)
          | skip
            have e : nmb (hr l tp) (3 - i) p v = (p, v) := by
              by_cases z : i = 3
              · rw [z]; rfl
              · rw [show 3 - i = (3 - i - 1) + 1 by omega]; unfold nmb; rw [if_neg (by first | omega | (exfalso; omega))]
            rw [e]
            refine wp_iload_n (pc := 57) dX12_number_57 rfl ?_
            exact wp_ir (pc := 58) dX12_number_58 rfl (by decide) (by decide) (by first | rfl | omega) (by first | exact ⟨K, O⟩ | rfl)
        ·
          first
          | (exfalso; omega)
          | skip
            refine wp_aload_n (pc := 23) dX12_number_23 rfl ?_
            refine wp_Vp (pc := 24) dX12_number_24 cl_X12_129 (sp_Ref_here (by first | assumption | omega | (repeat (first | assumption | exact pv10 | exact pv11 | refine pv_o (by decide) (by decide) ?_ | exact upN_eq | refine upN_ne (by decide) ?_ | exact upA_eq | refine upA_ne (by first | decide | omega) ?_ | refine SV_at (by assumption) (by decide) ?_ | refine SA_at (by assumption) (by first | decide | (simp; omega)) ?_ | exact rfl))) (by first | assumption | omega | (repeat (first | assumption | exact pv10 | exact pv11 | refine pv_o (by decide) (by decide) ?_ | exact upN_eq | refine upN_ne (by decide) ?_ | exact upA_eq | refine upA_ne (by first | decide | omega) ?_ | refine SV_at (by assumption) (by decide) ?_ | refine SA_at (by assumption) (by first | decide | (simp; omega)) ?_ | exact rfl))) (by first | assumption | omega | (repeat (first | assumption | exact pv10 | exact pv11 | refine pv_o (by decide) (by decide) ?_ | exact upN_eq | refine upN_ne (by decide) ?_ | exact upA_eq | refine upA_ne (by first | decide | omega) ?_ | refine SV_at (by assumption) (by decide) ?_ | refine SA_at (by assumption) (by first | decide | (simp; omega)) ?_ | exact rfl)))) rfl rfl K.1 (by rfl) (by decide) (Nat.le_of_ble_eq_true rfl) ?_
            refine wp_bipush (pc := 27) (y := 48) dX12_number_27 (by decide) ?_
            refine wp_bipush (pc := 29) (y := 57) dX12_number_29 (by decide) ?_
            refine wp_Sp (pc := 31) dX12_number_31 cl_X12_95 (sp_Ref_in (by first | assumption | omega | (repeat (first | assumption | exact pv10 | exact pv11 | refine pv_o (by decide) (by decide) ?_ | exact upN_eq | refine upN_ne (by decide) ?_ | exact upA_eq | refine upA_ne (by first | decide | omega) ?_ | refine SV_at (by assumption) (by decide) ?_ | refine SA_at (by assumption) (by first | decide | (simp; omega)) ?_ | exact rfl))) (by first | assumption | omega | (repeat (first | assumption | exact pv10 | exact pv11 | refine pv_o (by decide) (by decide) ?_ | exact upN_eq | refine upN_ne (by decide) ?_ | exact upA_eq | refine upA_ne (by first | decide | omega) ?_ | refine SV_at (by assumption) (by decide) ?_ | refine SA_at (by assumption) (by first | decide | (simp; omega)) ?_ | exact rfl))) (by first | assumption | omega | (repeat (first | assumption | exact pv10 | exact pv11 | refine pv_o (by decide) (by decide) ?_ | exact upN_eq | refine upN_ne (by decide) ?_ | exact upA_eq | refine upA_ne (by first | decide | omega) ?_ | refine SV_at (by assumption) (by decide) ?_ | refine SA_at (by assumption) (by first | decide | (simp; omega)) ?_ | exact rfl)))) rfl rfl (by decide) (Nat.le_of_ble_eq_true rfl) ?_
            first | refine wp_ifb_eq (pc := 34) 57 dX12_number_34 (by decide) (fun c34 => ?_) (fun c34 => ?_) | refine wp_if_eq (pc := 34) 57 dX12_number_34 (by decide) (by first | omega | exact TI.i5 (by assumption) | exact TI.i3 (by assumption) | exact TI.i2 (by assumption) | exact TI.i1 (by assumption) | exact TI.i0 (by assumption) | exact TI.i4 (by assumption) | exact TI.i6 (by assumption) | exact TI.i7 (by assumption)) (fun c34 => ?_) (fun c34 => ?_)
            ·
              first
              | (exfalso; omega)
              | skip
                have e : nmb (hr l tp) (3 - i) p v = (p, v) := by
                  by_cases z : i = 3
                  · rw [z]; rfl
                  · rw [show 3 - i = (3 - i - 1) + 1 by omega]; unfold nmb; rw [if_neg (by first | omega | (exfalso; omega))]
                rw [e]
                refine wp_iload_n (pc := 57) dX12_number_57 rfl ?_
                exact wp_ir (pc := 58) dX12_number_58 rfl (by decide) (by decide) (by first | rfl | omega) (by first | exact ⟨K, O⟩ | rfl)
            ·
              first
              | (exfalso; omega)
              | skip
                have hq := hr_lt (l := l) (tp := tp) (p := p) (by omega)
                have e : nmb (hr l tp) (3 - i) p v = nmb (hr l tp) (3 - (i + 1)) (p + 1) (v * 10 + hr l tp p - 48) := by rw [show 3 - i = (3 - (i + 1)) + 1 by omega]; show (if _ then _ else _) = _; rw [if_pos (by omega)]
                rw [e]
                refine wp_bipush (pc := 37) (y := 10) dX12_number_37 (by decide) ?_
                refine wp_iload_n (pc := 39) dX12_number_39 rfl ?_
                refine wp_imul (pc := 40) dX12_number_40 ?_
                refine wp_aload_n (pc := 41) dX12_number_41 rfl ?_
                refine wp_bipush (pc := 42) (y := 48) dX12_number_42 (by decide) ?_
                refine wp_bipush (pc := 44) (y := 10) dX12_number_44 (by decide) ?_
                refine wp_Vs (pc := 46) dX12_number_46 cl_X12_141 (sp_Ref_oneOf (by first | assumption | omega | (repeat (first | assumption | exact pv10 | exact pv11 | refine pv_o (by decide) (by decide) ?_ | exact upN_eq | refine upN_ne (by decide) ?_ | exact upA_eq | refine upA_ne (by first | decide | omega) ?_ | refine SV_at (by assumption) (by decide) ?_ | refine SA_at (by assumption) (by first | decide | (simp; omega)) ?_ | exact rfl))) (by first | assumption | omega | (repeat (first | assumption | exact pv10 | exact pv11 | refine pv_o (by decide) (by decide) ?_ | exact upN_eq | refine upN_ne (by decide) ?_ | exact upA_eq | refine upA_ne (by first | decide | omega) ?_ | refine SV_at (by assumption) (by decide) ?_ | refine SA_at (by assumption) (by first | decide | (simp; omega)) ?_ | exact rfl))) (by first | assumption | omega | (repeat (first | assumption | exact pv10 | exact pv11 | refine pv_o (by decide) (by decide) ?_ | exact upN_eq | refine upN_ne (by decide) ?_ | exact upA_eq | refine upA_ne (by first | decide | omega) ?_ | refine SV_at (by assumption) (by decide) ?_ | refine SA_at (by assumption) (by first | decide | (simp; omega)) ?_ | exact rfl))) (by first | assumption | omega | (repeat (first | assumption | exact pv10 | exact pv11 | refine pv_o (by decide) (by decide) ?_ | exact upN_eq | refine upN_ne (by decide) ?_ | exact upA_eq | refine upA_ne (by first | decide | omega) ?_ | refine SV_at (by assumption) (by decide) ?_ | refine SA_at (by assumption) (by first | decide | (simp; omega)) ?_ | exact rfl))) (by first | assumption | omega | (repeat (first | assumption | exact pv10 | exact pv11 | refine pv_o (by decide) (by decide) ?_ | exact upN_eq | refine upN_ne (by decide) ?_ | exact upA_eq | refine upA_ne (by first | decide | omega) ?_ | refine SV_at (by assumption) (by decide) ?_ | refine SA_at (by assumption) (by first | decide | (simp; omega)) ?_ | exact rfl)))) rfl rfl K.1 (by rfl) (by decide) (Nat.le_of_ble_eq_true rfl) (fun hp46 e46 => ?_)
                obtain ⟨K, O1⟩ := e46
                replace O := SO.tr O O1
                have z1 : (-1 : Int) = -1 ∧ 48 ≤ hr l tp p ∧ hr l tp p < 48 + 10 := by omega
                have z2 : ¬ ((-1 : Int) = -1 ∧ ¬ (48 ≤ hr l tp p ∧ hr l tp p < 48 + 10)) := by omega
                rw [if_pos z1, if_neg z2] at K
                rw [if_pos z1]
                refine wp_iadd (pc := 49) dX12_number_49 ?_
                refine wp_istore_n (pc := 50) dX12_number_50 (by decide) ?_
                refine wp_iinc (pc := 51) dX12_number_51 rfl (by decide) ?_
                refine wp_goto (pc := 54) 11 dX12_number_54 (by decide) ?_
                refine wp_ls ?_ (ih (i + 1) (by omega) (by omega) _ (p + 1) (v * 10 + hr l tp p - 48) K O L (by omega))
                repeat' (first | exact LE_0 | refine LE_s rfl ?_ | refine LE_s (I_c (by first | omega | (simp only [sm]; omega))) ?_ | refine LE_s (J_c (by first | omega | exact Int.pow_succ _ _ | exact (Int.pow_succ _ _).symm | exact (Int.pow_zero _).symm | (simp only [sm]; omega))) ?_ | refine LE_n ?_)
theorem sp_Ref_number (K : ModAt hp q (pv V p (-1)) A rd rl) (L : RdL A V q rd l tp) (hpp : p ≤ 80) (hd : 48 ≤ hr l tp p ∧ hr l tp p ≤ 57) : Sp g MX12_number (rm 3 0 0) [.ref q, .int (I 3)] hp (Eff (.int (I (nmb (hr l tp) 3 p 0).2)) (fun hp2 => ModAt hp2 q (pv V (nmb (hr l tp) 3 p 0).1 (-1)) A rd rl ∧ SO hp hp2 q (q + 25))) := by
  have hq := hr_lt (l := l) (tp := tp) (p := p) (by omega)
  have hl := L.ll
  have e : nmb (hr l tp) 3 p 0 = nmb (hr l tp) 2 (p + 1) (hr l tp p - 48) := by show (if _ then _ else _) = _; rw [if_pos (by omega), Int.zero_mul, Int.zero_add]
  rw [e]
  refine Sp_mk rfl (Nat.le_of_ble_eq_true rfl) ?_
  show wp g _ _ _ 0 0 0 [some (.ref q), some (.int (I 3)), none, none] [] hp
  have O := SO.rf (hp := hp) (lo := q) (hi := q + 25)
  refine wp_aload_n (pc := 0) dX12_number_0 rfl ?_
  refine wp_bipush (pc := 1) (y := 48) dX12_number_1 (by decide) ?_
  refine wp_bipush (pc := 3) (y := 10) dX12_number_3 (by decide) ?_
  refine wp_Vs (pc := 5) dX12_number_5 cl_X12_141 (sp_Ref_oneOf (by first | assumption | omega | (repeat (first | assumption | exact pv10 | exact pv11 | refine pv_o (by decide) (by decide) ?_ | exact upN_eq | refine upN_ne (by decide) ?_ | exact upA_eq | refine upA_ne (by first | decide | omega) ?_ | refine SV_at (by assumption) (by decide) ?_ | refine SA_at (by assumption) (by first | decide | (simp; omega)) ?_ | exact rfl))) (by first | assumption | omega | (repeat (first | assumption | exact pv10 | exact pv11 | refine pv_o (by decide) (by decide) ?_ | exact upN_eq | refine upN_ne (by decide) ?_ | exact upA_eq | refine upA_ne (by first | decide | omega) ?_ | refine SV_at (by assumption) (by decide) ?_ | refine SA_at (by assumption) (by first | decide | (simp; omega)) ?_ | exact rfl))) (by first | assumption | omega | (repeat (first | assumption | exact pv10 | exact pv11 | refine pv_o (by decide) (by decide) ?_ | exact upN_eq | refine upN_ne (by decide) ?_ | exact upA_eq | refine upA_ne (by first | decide | omega) ?_ | refine SV_at (by assumption) (by decide) ?_ | refine SA_at (by assumption) (by first | decide | (simp; omega)) ?_ | exact rfl))) (by first | assumption | omega | (repeat (first | assumption | exact pv10 | exact pv11 | refine pv_o (by decide) (by decide) ?_ | exact upN_eq | refine upN_ne (by decide) ?_ | exact upA_eq | refine upA_ne (by first | decide | omega) ?_ | refine SV_at (by assumption) (by decide) ?_ | refine SA_at (by assumption) (by first | decide | (simp; omega)) ?_ | exact rfl))) (by first | assumption | omega | (repeat (first | assumption | exact pv10 | exact pv11 | refine pv_o (by decide) (by decide) ?_ | exact upN_eq | refine upN_ne (by decide) ?_ | exact upA_eq | refine upA_ne (by first | decide | omega) ?_ | refine SV_at (by assumption) (by decide) ?_ | refine SA_at (by assumption) (by first | decide | (simp; omega)) ?_ | exact rfl)))) rfl rfl K.1 (by rfl) (by decide) (Nat.le_of_ble_eq_true rfl) (fun hp5 e5 => ?_)
  obtain ⟨K, O1⟩ := e5
  replace O := SO.tr O O1
  have z1 : (-1 : Int) = -1 ∧ 48 ≤ hr l tp p ∧ hr l tp p < 48 + 10 := by omega
  have z2 : ¬ ((-1 : Int) = -1 ∧ ¬ (48 ≤ hr l tp p ∧ hr l tp p < 48 + 10)) := by omega
  rw [if_pos z1, if_neg z2] at K
  rw [if_pos z1]
  refine wp_istore_n (pc := 8) dX12_number_8 (by decide) ?_
  refine wp_iconst (pc := 9) dX12_number_9 ?_
  refine wp_istore_n (pc := 10) dX12_number_10 (by decide) ?_
  refine wp_ls ?_ (lp_Ref_number (V := V) 3 1 (by omega) (by omega) _ (p + 1) (hr l tp p - 48) K O L (by omega))
  repeat' (first | exact LE_0 | refine LE_s rfl ?_ | refine LE_s (I_c (by first | omega | (simp only [sm]; omega))) ?_ | refine LE_s (J_c (by first | omega | exact Int.pow_succ _ _ | exact (Int.pow_succ _ _).symm | exact (Int.pow_zero _).symm | (simp only [sm]; omega))) ?_ | refine LE_n ?_)
end MC

