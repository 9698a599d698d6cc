/-! the reference: small methods -/
section MB
variable {g : GT} {hp hp0 : Hp} {q N n a s k : Nat} {V V2 : Nat → Int} {A A2 : Nat → Int → Int} {rd rl : Value} {f : Int → Int} {i j x v b c y : Int} {T : Nat → Int → Int} {l : List Int} {L : List Nat}
def SV (L : List Nat) (V V2 : Nat → Int) : Prop := ∀ k, k ∉ L → V2 k = V k
def SA (L : List Nat) (A A2 : Nat → Int → Int) : Prop := ∀ k, k ∉ L → A2 k = A k
theorem SV_at (h : SV L V V2) (hk : k ∉ L) (e : V k = x) : V2 k = x := (h k hk).trans e
theorem SA_at (h : SA L A A2) (hk : k ∉ L) (e : A k = f) : A2 k = f := (h k hk).trans e
theorem SV.rf : SV L V V := fun _ _ => rfl
theorem SA.rf : SA L A A := fun _ _ => rfl
theorem SV.tr {V3 : Nat → Int} {L2 L3 : List Nat} (h : SV L V V2) (h2 : SV L2 V2 V3) (a : ∀ k ∈ L, k ∈ L3) (b : ∀ k ∈ L2, k ∈ L3) : SV L3 V V3 := fun k hk => (h2 k fun z => hk (b k z)).trans (h k fun z => hk (a k z))
theorem SA.tr {A3 : Nat → Int → Int} {L2 L3 : List Nat} (h : SA L A A2) (h2 : SA L2 A2 A3) (a : ∀ k ∈ L, k ∈ L3) (b : ∀ k ∈ L2, k ∈ L3) : SA L3 A A3 := fun k hk => (h2 k fun z => hk (b k z)).trans (h k fun z => hk (a k z))
theorem SV.up (h : SV L V V2) (hk : k ∈ L) : SV L V (upN V2 k x) := fun j hj => (if_neg fun e => hj (by rw [e]; exact hk)).trans (h j hj)
theorem SA.up (h : SA L A A2) (hk : k ∈ L) : SA L A (upA A2 k f) := fun j hj => (if_neg fun e => hj (by rw [e]; exact hk)).trans (h j hj)
theorem I_or0 {a : Nat} : I (a : Int) ||| I 0 = I (a : Int) := (I_or (a := a) (b := 0)).trans (by rw [Nat.or_zero])
theorem mty_n (ha : a = 1 ∨ a = 10) : mty a = (.int, 103) := by rcases ha with rfl | rfl <;> rfl
theorem mty_t (ha : a = 2 ∨ a = 5 ∨ a = 6) : ∃ n, mty a = (.byte, n) ∧ 40 ≤ n ∧ n ≤ 80 ∧ (a = 2 → n = 80) := by rcases ha with rfl | rfl | rfl <;> exact ⟨_, rfl, by decide, by decide, by decide⟩
theorem sp_Ref_thrown (K : ModAt hp q V A rd rl) (h6 : V 6 = x) : Sp g MX12_thrown (rm 0 0 0) [.ref q] hp (Pur (.int (I x)) hp) := by
  refine Sp_mk rfl (Nat.le_of_ble_eq_true rfl) ?_
  show wp g _ _ _ 0 0 0 [some (.ref q)] [] hp
  have O := SO.rf (hp := hp) (lo := q) (hi := q + 25)
  refine wp_aload_n (pc := 0) dX12_thrown_0 rfl ?_
  refine wm_gets dX12_thrown_1 gf_X12_85 K (by rfl) (by repeat (first | assumption | exact pv10 | exact pv11 | refine pv_o (by decide) (by decide) ?_ | exact upN_eq | refine upN_ne (by decide) ?_ | refine SV_at (by assumption) (by decide) ?_ | exact rfl)) ?_
  exact wp_ir (pc := 4) dX12_thrown_4 rfl (by decide) (by decide) (by first | rfl | omega) (by first | exact ⟨K, O⟩ | rfl)
theorem sp_Ref_in (rx : InR x) (rb : InR b) (rc : InR c) : Sp g MX12_in (rm 0 0 0) [.int (I x), .int (I b), .int (I c)] hp (Pur (.int (B (b ≤ x ∧ x ≤ c))) hp) := by
  refine Sp_mk rfl (Nat.le_of_ble_eq_true rfl) ?_
  show wp g _ _ _ 0 0 0 [some (.int (I x)), some (.int (I b)), some (.int (I c))] [] hp
  refine wp_iload_n (pc := 0) dX12_in_0 rfl ?_
  refine wp_iload_n (pc := 1) dX12_in_1 rfl ?_
  refine wp_icmp_lt (pc := 2) 14 dX12_in_2 (by decide) (by first | omega | exact TI.i5 (by assumption) | exact TI.i3 (by assumption) | exact TI.i2 (by assumption) | exact TI.i1 (by assumption) | exact TI.i0 (by assumption) | exact TI.i4 (by assumption) | exact TI.i6 (by assumption) | exact TI.i7 (by assumption)) (by first | omega | exact TI.i5 (by assumption) | exact TI.i3 (by assumption) | exact TI.i2 (by assumption) | exact TI.i1 (by assumption) | exact TI.i0 (by assumption) | exact TI.i4 (by assumption) | exact TI.i6 (by assumption) | exact TI.i7 (by assumption)) (fun c2 => ?_) (fun c2 => ?_)
  ·
    refine wp_iconst (pc := 14) dX12_in_14 ?_
    first | exact wp_z1 (pc := 15) dX12_in_15 rfl (by decide) (by decide) (by omega) (by first | exact ⟨K, O⟩ | rfl) | exact wp_z0 (pc := 15) dX12_in_15 rfl (by decide) (by decide) (by omega) (by first | exact ⟨K, O⟩ | rfl) | exact wp_zb (pc := 15) dX12_in_15 rfl (by decide) (by decide) Iff.rfl (by first | exact ⟨K, O⟩ | rfl)
  ·
    refine wp_iload_n (pc := 5) dX12_in_5 rfl ?_
    refine wp_iload_n (pc := 6) dX12_in_6 rfl ?_
    refine wp_icmp_gt (pc := 7) 14 dX12_in_7 (by decide) (by first | omega | exact TI.i5 (by assumption) | exact TI.i3 (by assumption) | exact TI.i2 (by assumption) | exact TI.i1 (by assumption) | exact TI.i0 (by assumption) | exact TI.i4 (by assumption) | exact TI.i6 (by assumption) | exact TI.i7 (by assumption)) (by first | omega | exact TI.i5 (by assumption) | exact TI.i3 (by assumption) | exact TI.i2 (by assumption) | exact TI.i1 (by assumption) | exact TI.i0 (by assumption) | exact TI.i4 (by assumption) | exact TI.i6 (by assumption) | exact TI.i7 (by assumption)) (fun c7 => ?_) (fun c7 => ?_)
    ·
      refine wp_iconst (pc := 14) dX12_in_14 ?_
      first | exact wp_z1 (pc := 15) dX12_in_15 rfl (by decide) (by decide) (by omega) (by first | exact ⟨K, O⟩ | rfl) | exact wp_z0 (pc := 15) dX12_in_15 rfl (by decide) (by decide) (by omega) (by first | exact ⟨K, O⟩ | rfl) | exact wp_zb (pc := 15) dX12_in_15 rfl (by decide) (by decide) Iff.rfl (by first | exact ⟨K, O⟩ | rfl)
    ·
      refine wp_iconst (pc := 10) dX12_in_10 ?_
      refine wp_goto (pc := 11) 15 dX12_in_11 (by decide) ?_
      first | exact wp_z1 (pc := 15) dX12_in_15 rfl (by decide) (by decide) (by omega) (by first | exact ⟨K, O⟩ | rfl) | exact wp_z0 (pc := 15) dX12_in_15 rfl (by decide) (by decide) (by omega) (by first | exact ⟨K, O⟩ | rfl) | exact wp_zb (pc := 15) dX12_in_15 rfl (by decide) (by decide) Iff.rfl (by first | exact ⟨K, O⟩ | rfl)
theorem sp_Ref_has (hs : s < 2147483648) (hk : k < 31) : Sp g MX12_has (rm 0 0 0) [.int (I (s : Int)), .int (I (k : Int))] hp (Pur (.int (B (s.testBit k = true))) hp) := by
  refine Sp_mk rfl (Nat.le_of_ble_eq_true rfl) ?_
  show wp g _ _ _ 0 0 0 [some (.int (I (s : Int))), some (.int (I (k : Int)))] [] hp
  refine wp_iload_n (pc := 0) dX12_has_0 rfl ?_
  refine wp_iload_n (pc := 1) dX12_has_1 rfl ?_
  refine wp_ishr (pc := 2) dX12_has_2 (I_shr (by omega) hk) ?_
  refine wp_iconst (pc := 3) dX12_has_3 ?_
  refine wp_iand (pc := 4) dX12_has_4 I_bit2 ?_
  refine wp_iconst (pc := 5) dX12_has_5 ?_
  refine wp_icmp_ne (pc := 6) 13 dX12_has_6 (by decide) (by first | omega | (split <;> omega)) (by first | omega | (split <;> omega)) (fun c6 => ?_) (fun c6 => ?_)
  ·
    have hz : ¬ s.testBit k = true := fun z => c6 (by rw [if_pos z]; rfl)
    refine wp_iconst (pc := 13) dX12_has_13 ?_
    first | exact wp_z1 (pc := 14) dX12_has_14 rfl (by decide) (by decide) hz (by first | exact ⟨K, O⟩ | rfl) | exact wp_z0 (pc := 14) dX12_has_14 rfl (by decide) (by decide) hz (by first | exact ⟨K, O⟩ | rfl) | exact wp_zb (pc := 14) dX12_has_14 rfl (by decide) (by decide) Iff.rfl (by first | exact ⟨K, O⟩ | rfl)
  ·
    have hz : s.testBit k = true := Classical.byContradiction fun z => by rw [if_neg z] at c6; exact absurd c6 (by decide)
    refine wp_iconst (pc := 9) dX12_has_9 ?_
    refine wp_goto (pc := 10) 14 dX12_has_10 (by decide) ?_
    first | exact wp_z1 (pc := 14) dX12_has_14 rfl (by decide) (by decide) hz (by first | exact ⟨K, O⟩ | rfl) | exact wp_z0 (pc := 14) dX12_has_14 rfl (by decide) (by decide) hz (by first | exact ⟨K, O⟩ | rfl) | exact wp_zb (pc := 14) dX12_has_14 rfl (by decide) (by decide) Iff.rfl (by first | exact ⟨K, O⟩ | rfl)
theorem sp_Ref_lost (K : ModAt hp q V A rd rl) : Sp g MX12_lost (rm 0 0 0) [.ref q] hp (Eff (.int (I 0)) (fun hp2 => ModAt hp2 q (upN V 6 1) A rd rl ∧ SO hp hp2 q (q + 25))) := by
  refine Sp_mk rfl (Nat.le_of_ble_eq_true rfl) ?_
  show wp g _ _ _ 0 0 0 [some (.ref q)] [] hp
  have O := SO.rf (hp := hp) (lo := q) (hi := q + 25)
  refine wp_aload_n (pc := 0) dX12_lost_0 rfl ?_
  refine wp_iconst (pc := 1) dX12_lost_1 ?_
  refine wm_put dX12_lost_2 pf_X12_85 K O (by decide) mset_6 rfl rfl (fun hp K O => ?_)
  refine wp_iconst (pc := 5) dX12_lost_5 ?_
  exact wp_ir (pc := 6) dX12_lost_6 rfl (by decide) (by decide) (by first | rfl | omega) (by first | exact ⟨K, O⟩ | rfl)
theorem sp_Ref_tell (K : ModAt hp q V A rd rl) (h5 : V 5 = (n : Int)) (hn : n < 16) : Sp g MX12_tell (rm 0 0 0) [.ref q, .long (J x)] hp (Vod (fun hp2 => ModAt hp2 q (upN V 5 (n + 1)) (upA A 3 (updI (A 3) n x)) rd rl ∧ SO hp hp2 q (q + 25))) := by
  refine Sp_mk rfl (Nat.le_of_ble_eq_true rfl) ?_
  show wp g _ _ _ 0 0 0 [some (.ref q), some (.long (J x)), none] [] hp
  have O := SO.rf (hp := hp) (lo := q) (hi := q + 25)
  refine wp_aload_n (pc := 0) dX12_tell_0 rfl ?_
  refine wm_get dX12_tell_1 gf_X12_17 K (by rfl) ?_
  refine wp_aload_n (pc := 4) dX12_tell_4 rfl ?_
  refine wm_gets dX12_tell_5 gf_X12_89 K (by rfl) (by repeat (first | assumption | exact pv10 | exact pv11 | refine pv_o (by decide) (by decide) ?_ | exact upN_eq | refine upN_ne (by decide) ?_ | refine SV_at (by assumption) (by decide) ?_ | exact rfl)) ?_
  refine wp_lload_n (pc := 8) dX12_tell_8 rfl ?_
  refine wm_last dX12_tell_9 K O (by first | rfl | assumption) (by first | decide | omega) (by first | decide | omega) (by decide) (by omega) (by omega) (by repeat (first | assumption | exact upA_eq | refine upA_ne (by first | decide | omega) ?_ | refine SA_at (by assumption) (by first | decide | (simp; omega)) ?_ | exact rfl)) (by first | exact flatw5 (by omega) (by omega) | exact flatw3 (by omega) (by omega) | exact flatw2 (by omega) (by omega) | exact flatw6 (by omega) (by omega) | exact flatw4 (by omega) (by omega) | exact flatw1 (by omega) (by omega) | exact flatw0 (by omega) (by omega) | exact flatw7 | exact rfl) (fun hp K O => ?_)
  refine wp_aload_n (pc := 10) dX12_tell_10 rfl ?_
  refine wp_dup (pc := 11) dX12_tell_11 rfl ?_
  refine wm_gets dX12_tell_12 gf_X12_89 K (by rfl) (by repeat (first | assumption | exact pv10 | exact pv11 | refine pv_o (by decide) (by decide) ?_ | exact upN_eq | refine upN_ne (by decide) ?_ | refine SV_at (by assumption) (by decide) ?_ | exact rfl)) ?_
  refine wp_iconst (pc := 15) dX12_tell_15 ?_
  refine wp_iadd (pc := 16) dX12_tell_16 ?_
  refine wm_put dX12_tell_17 pf_X12_89 K O (by decide) mset_5 rfl rfl (fun hp K O => ?_)
  exact wp_vr (pc := 20) dX12_tell_20 rfl (by decide) (by decide) (by first | exact ⟨K, O⟩ | rfl)
theorem sp_Ref_isMan (K : ModAt hp q V A rd rl) (h1 : V 1 = (N : Int)) (hN : N ≤ 6) (rx : InR x) : Sp g MX12_isMan (rm 1 0 0) [.ref q, .int (I x)] hp (Pur (.int (B (0 ≤ x ∧ x < N))) hp) := by
  refine Sp_mk rfl (Nat.le_of_ble_eq_true rfl) ?_
  show wp g _ _ _ 0 0 0 [some (.ref q), some (.int (I x))] [] hp
  have O := SO.rf (hp := hp) (lo := q) (hi := q + 25)
  refine wp_iload_n (pc := 0) dX12_isMan_0 rfl ?_
  refine wp_iconst (pc := 1) dX12_isMan_1 ?_
  refine wp_aload_n (pc := 2) dX12_isMan_2 rfl ?_
  refine wm_gets dX12_isMan_3 gf_X12_92 K (by rfl) (by repeat (first | assumption | exact pv10 | exact pv11 | refine pv_o (by decide) (by decide) ?_ | exact upN_eq | refine upN_ne (by decide) ?_ | refine SV_at (by assumption) (by decide) ?_ | exact rfl)) ?_
  refine wp_iconst (pc := 6) dX12_isMan_6 ?_
  refine wp_isub (pc := 7) dX12_isMan_7 ?_
  refine wp_Sp (pc := 8) dX12_isMan_8 cl_X12_95 (sp_Ref_in (by first | assumption | omega | (repeat (first | assumption | exact pv10 | exact pv11 | refine pv_o (by decide) (by decide) ?_ | exact upN_eq | refine upN_ne (by decide) ?_ | exact upA_eq | refine upA_ne (by first | decide | omega) ?_ | refine SV_at (by assumption) (by decide) ?_ | refine SA_at (by assumption) (by first | decide | (simp; omega)) ?_ | exact rfl))) (by first | assumption | omega | (repeat (first | assumption | exact pv10 | exact pv11 | refine pv_o (by decide) (by decide) ?_ | exact upN_eq | refine upN_ne (by decide) ?_ | exact upA_eq | refine upA_ne (by first | decide | omega) ?_ | refine SV_at (by assumption) (by decide) ?_ | refine SA_at (by assumption) (by first | decide | (simp; omega)) ?_ | exact rfl))) (by first | assumption | omega | (repeat (first | assumption | exact pv10 | exact pv11 | refine pv_o (by decide) (by decide) ?_ | exact upN_eq | refine upN_ne (by decide) ?_ | exact upA_eq | refine upA_ne (by first | decide | omega) ?_ | refine SV_at (by assumption) (by decide) ?_ | refine SA_at (by assumption) (by first | decide | (simp; omega)) ?_ | exact rfl)))) rfl rfl (by decide) (Nat.le_of_ble_eq_true rfl) ?_
  first | exact wp_z1 (pc := 11) dX12_isMan_11 rfl (by decide) (by decide) (by omega) (by first | exact ⟨K, O⟩ | rfl) | exact wp_z0 (pc := 11) dX12_isMan_11 rfl (by decide) (by decide) (by omega) (by first | exact ⟨K, O⟩ | rfl) | exact wp_zb (pc := 11) dX12_isMan_11 rfl (by decide) (by decide) (by omega) (by first | exact ⟨K, O⟩ | rfl)
theorem sp_Ref_areTwo (K : ModAt hp q V A rd rl) (h1 : V 1 = (N : Int)) (hN : N ≤ 6) (rx : InR x) (ry : InR y) : Sp g MX12_areTwo (rm 2 0 0) [.ref q, .int (I x), .int (I y)] hp (Pur (.int (B (0 ≤ x ∧ x < N ∧ 0 ≤ y ∧ y < N ∧ x ≠ y))) hp) := by
  refine Sp_mk rfl (Nat.le_of_ble_eq_true rfl) ?_
  show wp g _ _ _ 0 0 0 [some (.ref q), some (.int (I x)), some (.int (I y))] [] hp
  have O := SO.rf (hp := hp) (lo := q) (hi := q + 25)
  refine wp_aload_n (pc := 0) dX12_areTwo_0 rfl ?_
  refine wp_iload_n (pc := 1) dX12_areTwo_1 rfl ?_
  refine wp_Vp (pc := 2) dX12_areTwo_2 cl_X12_99 (sp_Ref_isMan (by first | assumption | omega | (repeat (first | assumption | exact pv10 | exact pv11 | refine pv_o (by decide) (by decide) ?_ | exact upN_eq | refine upN_ne (by decide) ?_ | exact upA_eq | refine upA_ne (by first | decide | omega) ?_ | refine SV_at (by assumption) (by decide) ?_ | refine SA_at (by assumption) (by first | decide | (simp; omega)) ?_ | exact rfl))) (by first | assumption | omega | (repeat (first | assumption | exact pv10 | exact pv11 | refine pv_o (by decide) (by decide) ?_ | exact upN_eq | refine upN_ne (by decide) ?_ | exact upA_eq | refine upA_ne (by first | decide | omega) ?_ | refine SV_at (by assumption) (by decide) ?_ | refine SA_at (by assumption) (by first | decide | (simp; omega)) ?_ | exact rfl))) (by first | assumption | omega | (repeat (first | assumption | exact pv10 | exact pv11 | refine pv_o (by decide) (by decide) ?_ | exact upN_eq | refine upN_ne (by decide) ?_ | exact upA_eq | refine upA_ne (by first | decide | omega) ?_ | refine SV_at (by assumption) (by decide) ?_ | refine SA_at (by assumption) (by first | decide | (simp; omega)) ?_ | exact rfl))) (by first | assumption | omega | (repeat (first | assumption | exact pv10 | exact pv11 | refine pv_o (by decide) (by decide) ?_ | exact upN_eq | refine upN_ne (by decide) ?_ | exact upA_eq | refine upA_ne (by first | decide | omega) ?_ | refine SV_at (by assumption) (by decide) ?_ | refine SA_at (by assumption) (by first | decide | (simp; omega)) ?_ | exact rfl)))) rfl rfl K.1 (by rfl) (by decide) (Nat.le_of_ble_eq_true rfl) ?_
  first | refine wp_ifb_eq (pc := 5) 25 dX12_areTwo_5 (by decide) (fun c5 => ?_) (fun c5 => ?_) | refine wp_if_eq (pc := 5) 25 dX12_areTwo_5 (by decide) (by first | omega | exact TI.i5 (by assumption) | exact TI.i3 (by assumption) | exact TI.i2 (by assumption) | exact TI.i1 (by assumption) | exact TI.i0 (by assumption) | exact TI.i4 (by assumption) | exact TI.i6 (by assumption) | exact TI.i7 (by assumption)) (fun c5 => ?_) (fun c5 => ?_)
  ·
    refine wp_iconst (pc := 25) dX12_areTwo_25 ?_
    first | exact wp_z1 (pc := 26) dX12_areTwo_26 rfl (by decide) (by decide) (by omega) (by first | exact ⟨K, O⟩ | rfl) | exact wp_z0 (pc := 26) dX12_areTwo_26 rfl (by decide) (by decide) (by omega) (by first | exact ⟨K, O⟩ | rfl) | exact wp_zb (pc := 26) dX12_areTwo_26 rfl (by decide) (by decide) Iff.rfl (by first | exact ⟨K, O⟩ | rfl)
  ·
    refine wp_aload_n (pc := 8) dX12_areTwo_8 rfl ?_
    refine wp_iload_n (pc := 9) dX12_areTwo_9 rfl ?_
    refine wp_Vp (pc := 10) dX12_areTwo_10 cl_X12_99 (sp_Ref_isMan (by first | assumption | omega | (repeat (first | assumption | exact pv10 | exact pv11 | refine pv_o (by decide) (by decide) ?_ | exact upN_eq | refine upN_ne (by decide) ?_ | exact upA_eq | refine upA_ne (by first | decide | omega) ?_ | refine SV_at (by assumption) (by decide) ?_ | refine SA_at (by assumption) (by first | decide | (simp; omega)) ?_ | exact rfl))) (by first | assumption | omega | (repeat (first | assumption | exact pv10 | exact pv11 | refine pv_o (by decide) (by decide) ?_ | exact upN_eq | refine upN_ne (by decide) ?_ | exact upA_eq | refine upA_ne (by first | decide | omega) ?_ | refine SV_at (by assumption) (by decide) ?_ | refine SA_at (by assumption) (by first | decide | (simp; omega)) ?_ | exact rfl))) (by first | assumption | omega | (repeat (first | assumption | exact pv10 | exact pv11 | refine pv_o (by decide) (by decide) ?_ | exact upN_eq | refine upN_ne (by decide) ?_ | exact upA_eq | refine upA_ne (by first | decide | omega) ?_ | refine SV_at (by assumption) (by decide) ?_ | refine SA_at (by assumption) (by first | decide | (simp; omega)) ?_ | exact rfl))) (by first | assumption | omega | (repeat (first | assumption | exact pv10 | exact pv11 | refine pv_o (by decide) (by decide) ?_ | exact upN_eq | refine upN_ne (by decide) ?_ | exact upA_eq | refine upA_ne (by first | decide | omega) ?_ | refine SV_at (by assumption) (by decide) ?_ | refine SA_at (by assumption) (by first | decide | (simp; omega)) ?_ | exact rfl)))) rfl rfl K.1 (by rfl) (by decide) (Nat.le_of_ble_eq_true rfl) ?_
    first | refine wp_ifb_eq (pc := 13) 25 dX12_areTwo_13 (by decide) (fun c13 => ?_) (fun c13 => ?_) | refine wp_if_eq (pc := 13) 25 dX12_areTwo_13 (by decide) (by first | omega | exact TI.i5 (by assumption) | exact TI.i3 (by assumption) | exact TI.i2 (by assumption) | exact TI.i1 (by assumption) | exact TI.i0 (by assumption) | exact TI.i4 (by assumption) | exact TI.i6 (by assumption) | exact TI.i7 (by assumption)) (fun c13 => ?_) (fun c13 => ?_)
    ·
      refine wp_iconst (pc := 25) dX12_areTwo_25 ?_
      first | exact wp_z1 (pc := 26) dX12_areTwo_26 rfl (by decide) (by decide) (by omega) (by first | exact ⟨K, O⟩ | rfl) | exact wp_z0 (pc := 26) dX12_areTwo_26 rfl (by decide) (by decide) (by omega) (by first | exact ⟨K, O⟩ | rfl) | exact wp_zb (pc := 26) dX12_areTwo_26 rfl (by decide) (by decide) Iff.rfl (by first | exact ⟨K, O⟩ | rfl)
    ·
      refine wp_iload_n (pc := 16) dX12_areTwo_16 rfl ?_
      refine wp_iload_n (pc := 17) dX12_areTwo_17 rfl ?_
      refine wp_icmp_eq (pc := 18) 25 dX12_areTwo_18 (by decide) (by first | omega | exact TI.i5 (by assumption) | exact TI.i3 (by assumption) | exact TI.i2 (by assumption) | exact TI.i1 (by assumption) | exact TI.i0 (by assumption) | exact TI.i4 (by assumption) | exact TI.i6 (by assumption) | exact TI.i7 (by assumption)) (by first | omega | exact TI.i5 (by assumption) | exact TI.i3 (by assumption) | exact TI.i2 (by assumption) | exact TI.i1 (by assumption) | exact TI.i0 (by assumption) | exact TI.i4 (by assumption) | exact TI.i6 (by assumption) | exact TI.i7 (by assumption)) (fun c18 => ?_) (fun c18 => ?_)
      ·
        refine wp_iconst (pc := 25) dX12_areTwo_25 ?_
        first | exact wp_z1 (pc := 26) dX12_areTwo_26 rfl (by decide) (by decide) (by omega) (by first | exact ⟨K, O⟩ | rfl) | exact wp_z0 (pc := 26) dX12_areTwo_26 rfl (by decide) (by decide) (by omega) (by first | exact ⟨K, O⟩ | rfl) | exact wp_zb (pc := 26) dX12_areTwo_26 rfl (by decide) (by decide) Iff.rfl (by first | exact ⟨K, O⟩ | rfl)
      ·
        refine wp_iconst (pc := 21) dX12_areTwo_21 ?_
        refine wp_goto (pc := 22) 26 dX12_areTwo_22 (by decide) ?_
        first | exact wp_z1 (pc := 26) dX12_areTwo_26 rfl (by decide) (by decide) (by omega) (by first | exact ⟨K, O⟩ | rfl) | exact wp_z0 (pc := 26) dX12_areTwo_26 rfl (by decide) (by decide) (by omega) (by first | exact ⟨K, O⟩ | rfl) | exact wp_zb (pc := 26) dX12_areTwo_26 rfl (by decide) (by decide) Iff.rfl (by first | exact ⟨K, O⟩ | rfl)
theorem pow64 (hN : N ≤ 6) : 1 ≤ 2 ^ N ∧ 2 ^ N ≤ 64 := ⟨Nat.one_le_two_pow, Nat.pow_le_pow_right (by decide) hN⟩
theorem sp_Ref_all (K : ModAt hp q V A rd rl) (h1 : V 1 = (N : Int)) (hN : N ≤ 6) : Sp g MX12_all (rm 0 0 0) [.ref q] hp (Pur (.int (I ((2 ^ N - 1 : Nat) : Int))) hp) := by
  have hp6 := pow64 hN
  refine Sp_mk rfl (Nat.le_of_ble_eq_true rfl) ?_
  show wp g _ _ _ 0 0 0 [some (.ref q)] [] hp
  have O := SO.rf (hp := hp) (lo := q) (hi := q + 25)
  refine wp_iconst (pc := 0) dX12_all_0 ?_
  refine wp_aload_n (pc := 1) dX12_all_1 rfl ?_
  refine wm_gets dX12_all_2 gf_X12_92 K (by rfl) (by repeat (first | assumption | exact pv10 | exact pv11 | refine pv_o (by decide) (by decide) ?_ | exact upN_eq | refine upN_ne (by decide) ?_ | refine SV_at (by assumption) (by decide) ?_ | exact rfl)) ?_
  refine wp_ishl (pc := 5) dX12_all_5 (I_shl (by omega)) ?_
  refine wp_iconst (pc := 6) dX12_all_6 ?_
  refine wp_isub (pc := 7) dX12_all_7 ?_
  exact wp_ir (pc := 8) dX12_all_8 rfl (by decide) (by decide) (by omega) (by first | exact ⟨K, O⟩ | rfl)
theorem sp_Ref_pair  : Sp g MX12_pair (rm 0 0 0) [.int (I x), .int (I y)] hp (Pur (.int (I (6 * x + y))) hp) := by
  refine Sp_mk rfl (Nat.le_of_ble_eq_true rfl) ?_
  show wp g _ _ _ 0 0 0 [some (.int (I x)), some (.int (I y))] [] hp
  refine wp_bipush (pc := 0) (y := 6) dX12_pair_0 (by decide) ?_
  refine wp_iload_n (pc := 2) dX12_pair_2 rfl ?_
  refine wp_imul (pc := 3) dX12_pair_3 ?_
  refine wp_iload_n (pc := 4) dX12_pair_4 rfl ?_
  refine wp_iadd (pc := 5) dX12_pair_5 ?_
  exact wp_ir (pc := 6) dX12_pair_6 rfl (by decide) (by decide) (by first | rfl | omega) (by first | exact ⟨K, O⟩ | rfl)
theorem lp_Ref_sumOf (K : ModAt hp q V A rd rl) (h1 : V 1 = (N : Int)) (hN : N ≤ 6) (ha : a = 1 ∨ a = 10) (hA : A a = f) (hk : k + 6 ≤ 103) : ∀ (m i : Nat), N < i + m → i ≤ N → wp g MX12_sumOf (rm 0 0 0) (Pur (.int (I (sm (fun j => f (k + j)) N))) hp) 0 0 5 [some (.ref q), some (.ref (q + a)), some (.int (I (k : Int))), some (.int (I (sm (fun j => f (k + j)) i))), some (.int (I (i : Int)))] [] hp := by
  intro m
  induction m with
  | zero => intro i h1 h2; exact absurd h1 (by omega)
  | succ m ih =>
    intro i h1 h2
    have hm := mty_n ha
    refine wp_iload (pc := 5) dX12_sumOf_5 rfl ?_
    refine wp_aload_n (pc := 7) dX12_sumOf_7 rfl ?_
    refine wm_gets dX12_sumOf_8 gf_X12_92 K (by rfl) (by repeat (first | assumption | exact pv10 | exact pv11 | refine pv_o (by decide) (by decide) ?_ | exact upN_eq | refine upN_ne (by decide) ?_ | refine SV_at (by assumption) (by decide) ?_ | exact rfl)) ?_
    refine wp_icmp_ge (pc := 11) 29 dX12_sumOf_11 (by decide) (by first | omega | exact TI.i5 (by assumption) | exact TI.i3 (by assumption) | exact TI.i2 (by assumption) | exact TI.i1 (by assumption) | exact TI.i0 (by assumption) | exact TI.i4 (by assumption) | exact TI.i6 (by assumption) | exact TI.i7 (by assumption)) (by first | omega | exact TI.i5 (by assumption) | exact TI.i3 (by assumption) | exact TI.i2 (by assumption) | exact TI.i1 (by assumption) | exact TI.i0 (by assumption) | exact TI.i4 (by assumption) | exact TI.i6 (by assumption) | exact TI.i7 (by assumption)) (fun c11 => ?_) (fun c11 => ?_)
    ·
      have e : i = N := by omega
      subst e -- go
      refine wp_iload_n (pc := 29) dX12_sumOf_29 rfl ?_
      exact wp_ir (pc := 30) dX12_sumOf_30 rfl (by decide) (by decide) (by first | rfl | omega) (by first | exact ⟨K, O⟩ | rfl)
    ·
      refine wp_iload_n (pc := 14) dX12_sumOf_14 rfl ?_
      refine wp_aload_n (pc := 15) dX12_sumOf_15 rfl ?_
      refine wp_iload_n (pc := 16) dX12_sumOf_16 rfl ?_
      refine wp_iload (pc := 17) dX12_sumOf_17 rfl ?_
      refine wp_iadd (pc := 19) dX12_sumOf_19 ?_
      refine wm_iald dX12_sumOf_20 K (by first | rfl | assumption) (by first | decide | omega) (by first | decide | omega) (by decide) (by omega) (by omega) (by repeat (first | assumption | exact upA_eq | refine upA_ne (by first | decide | omega) ?_ | refine SA_at (by assumption) (by first | decide | (simp; omega)) ?_ | exact rfl)) (by first | exact flat5 (by omega) (by omega) | exact flat3 (by omega) (by omega) | exact flat2 (by omega) (by omega) | exact flat6 (by omega) (by omega) | exact flat4 (by omega) (by omega) | exact flat1 (by omega) (by omega) | exact flat0 (by omega) (by omega) | exact flat7 | exact rfl) ?_
      refine wp_iadd (pc := 21) dX12_sumOf_21 ?_
      refine wp_istore_n (pc := 22) dX12_sumOf_22 (by decide) ?_
      refine wp_iinc (pc := 23) dX12_sumOf_23 rfl (by decide) ?_
      refine wp_goto (pc := 26) 5 dX12_sumOf_26 (by decide) ?_
      refine wp_ls ?_ (ih (i + 1) (by omega) (by omega))
      · repeat' (first | exact LE_0 | refine LE_s rfl ?_ | refine LE_s (I_c (by first | omega | (simp only [sm]; omega))) ?_ | refine LE_s (J_c (by first | omega | exact Int.pow_succ _ _ | exact (Int.pow_succ _ _).symm | exact (Int.pow_zero _).symm | (simp only [sm]; omega))) ?_ | refine LE_n ?_)
theorem sp_Ref_sumOf (K : ModAt hp q V A rd rl) (h1 : V 1 = (N : Int)) (hN : N ≤ 6) (ha : a = 1 ∨ a = 10) (hA : A a = f) (hk : k + 6 ≤ 103) : Sp g MX12_sumOf (rm 0 0 0) [.ref q, .ref (q + a), .int (I (k : Int))] hp (Pur (.int (I (sm (fun j => f (k + j)) N))) hp) := by
  refine Sp_mk rfl (Nat.le_of_ble_eq_true rfl) ?_
  show wp g _ _ _ 0 0 0 [some (.ref q), some (.ref (q + a)), some (.int (I (k : Int))), none, none] [] hp
  have O := SO.rf (hp := hp) (lo := q) (hi := q + 25)
  refine wp_iconst (pc := 0) dX12_sumOf_0 ?_
  refine wp_istore_n (pc := 1) dX12_sumOf_1 (by decide) ?_
  refine wp_iconst (pc := 2) dX12_sumOf_2 ?_
  refine wp_istore (pc := 3) dX12_sumOf_3 (by decide) ?_
  exact lp_Ref_sumOf K h1 hN ha hA hk (N + 1) 0 (by omega) (by omega)
theorem lp_Ref_owesAll (K : ModAt hp q V A rd rl) (h1 : V 1 = (N : Int)) (hN : N ≤ 6) (ha : a = 1 ∨ a = 10) (hA : A a = flat T) (hx : 0 ≤ x ∧ x < 6) : ∀ (m i : Nat), N < i + m → i ≤ N → wp g MX12_owesAll (rm 1 0 0) (Pur (.int (I (oby T x N))) hp) 0 0 5 [some (.ref q), some (.ref (q + a)), some (.int (I x)), some (.int (I (oby T x i))), some (.int (I (i : Int)))] [] hp := by
  intro m
  induction m with
  | zero => intro i h1 h2; exact absurd h1 (by omega)
  | succ m ih =>
    intro i h1 h2
    have hm := mty_n ha
    refine wp_iload (pc := 5) dX12_owesAll_5 rfl ?_
    refine wp_aload_n (pc := 7) dX12_owesAll_7 rfl ?_
    refine wm_gets dX12_owesAll_8 gf_X12_92 K (by rfl) (by repeat (first | assumption | exact pv10 | exact pv11 | refine pv_o (by decide) (by decide) ?_ | exact upN_eq | refine upN_ne (by decide) ?_ | refine SV_at (by assumption) (by decide) ?_ | exact rfl)) ?_
    refine wp_icmp_ge (pc := 11) 34 dX12_owesAll_11 (by decide) (by first | omega | exact TI.i5 (by assumption) | exact TI.i3 (by assumption) | exact TI.i2 (by assumption) | exact TI.i1 (by assumption) | exact TI.i0 (by assumption) | exact TI.i4 (by assumption) | exact TI.i6 (by assumption) | exact TI.i7 (by assumption)) (by first | omega | exact TI.i5 (by assumption) | exact TI.i3 (by assumption) | exact TI.i2 (by assumption) | exact TI.i1 (by assumption) | exact TI.i0 (by assumption) | exact TI.i4 (by assumption) | exact TI.i6 (by assumption) | exact TI.i7 (by assumption)) (fun c11 => ?_) (fun c11 => ?_)
    ·
      have e : i = N := by omega
      subst e -- go
      refine wp_iload_n (pc := 34) dX12_owesAll_34 rfl ?_
      exact wp_ir (pc := 35) dX12_owesAll_35 rfl (by decide) (by decide) (by first | rfl | omega) (by first | exact ⟨K, O⟩ | rfl)
    ·
      refine wp_iload_n (pc := 14) dX12_owesAll_14 rfl ?_
      refine wp_aload_n (pc := 15) dX12_owesAll_15 rfl ?_
      refine wp_bipush (pc := 16) (y := 66) dX12_owesAll_16 (by decide) ?_
      refine wp_iload_n (pc := 18) dX12_owesAll_18 rfl ?_
      refine wp_iload (pc := 19) dX12_owesAll_19 rfl ?_
      refine wp_Sp (pc := 21) dX12_owesAll_21 cl_X12_151 sp_Ref_pair rfl rfl (by decide) (Nat.le_of_ble_eq_true rfl) ?_
      refine wp_iadd (pc := 24) dX12_owesAll_24 ?_
      refine wm_iald dX12_owesAll_25 K (by first | rfl | assumption) (by first | decide | omega) (by first | decide | omega) (by decide) (by omega) (by omega) (by repeat (first | assumption | exact upA_eq | refine upA_ne (by first | decide | omega) ?_ | refine SA_at (by assumption) (by first | decide | (simp; omega)) ?_ | exact rfl)) (by first | exact flat5 (by omega) (by omega) | exact flat3 (by omega) (by omega) | exact flat2 (by omega) (by omega) | exact flat6 (by omega) (by omega) | exact flat4 (by omega) (by omega) | exact flat1 (by omega) (by omega) | exact flat0 (by omega) (by omega) | exact flat7 | exact rfl) ?_
      refine wp_iadd (pc := 26) dX12_owesAll_26 ?_
      refine wp_istore_n (pc := 27) dX12_owesAll_27 (by decide) ?_
      refine wp_iinc (pc := 28) dX12_owesAll_28 rfl (by decide) ?_
      refine wp_goto (pc := 31) 5 dX12_owesAll_31 (by decide) ?_
      refine wp_ls ?_ (ih (i + 1) (by omega) (by omega))
      repeat' (first | exact LE_0 | refine LE_s rfl ?_ | refine LE_s (I_c (by first | omega | (simp only [oby, sm]))) ?_ | refine LE_n ?_)
theorem sp_Ref_owesAll (K : ModAt hp q V A rd rl) (h1 : V 1 = (N : Int)) (hN : N ≤ 6) (ha : a = 1 ∨ a = 10) (hA : A a = flat T) (hx : 0 ≤ x ∧ x < 6) : Sp g MX12_owesAll (rm 1 0 0) [.ref q, .ref (q + a), .int (I x)] hp (Pur (.int (I (oby T x N))) hp) := by
  refine Sp_mk rfl (Nat.le_of_ble_eq_true rfl) ?_
  show wp g _ _ _ 0 0 0 [some (.ref q), some (.ref (q + a)), some (.int (I x)), none, none] [] hp
  have O := SO.rf (hp := hp) (lo := q) (hi := q + 25)
  refine wp_iconst (pc := 0) dX12_owesAll_0 ?_
  refine wp_istore_n (pc := 1) dX12_owesAll_1 (by decide) ?_
  refine wp_iconst (pc := 2) dX12_owesAll_2 ?_
  refine wp_istore (pc := 3) dX12_owesAll_3 (by decide) ?_
  exact lp_Ref_owesAll K h1 hN ha hA hx (N + 1) 0 (by omega) (by omega)
theorem lp_Ref_owedAll (K : ModAt hp q V A rd rl) (h1 : V 1 = (N : Int)) (hN : N ≤ 6) (ha : a = 1 ∨ a = 10) (hA : A a = flat T) (hx : 0 ≤ x ∧ x < 6) : ∀ (m i : Nat), N < i + m → i ≤ N → wp g MX12_owedAll (rm 1 0 0) (Pur (.int (I (oto T x N))) hp) 0 0 5 [some (.ref q), some (.ref (q + a)), some (.int (I x)), some (.int (I (oto T x i))), some (.int (I (i : Int)))] [] hp := by
  intro m
  induction m with
  | zero => intro i h1 h2; exact absurd h1 (by omega)
  | succ m ih =>
    intro i h1 h2
    have hm := mty_n ha
    refine wp_iload (pc := 5) dX12_owedAll_5 rfl ?_
    refine wp_aload_n (pc := 7) dX12_owedAll_7 rfl ?_
    refine wm_gets dX12_owedAll_8 gf_X12_92 K (by rfl) (by repeat (first | assumption | exact pv10 | exact pv11 | refine pv_o (by decide) (by decide) ?_ | exact upN_eq | refine upN_ne (by decide) ?_ | refine SV_at (by assumption) (by decide) ?_ | exact rfl)) ?_
    refine wp_icmp_ge (pc := 11) 34 dX12_owedAll_11 (by decide) (by first | omega | exact TI.i5 (by assumption) | exact TI.i3 (by assumption) | exact TI.i2 (by assumption) | exact TI.i1 (by assumption) | exact TI.i0 (by assumption) | exact TI.i4 (by assumption) | exact TI.i6 (by assumption) | exact TI.i7 (by assumption)) (by first | omega | exact TI.i5 (by assumption) | exact TI.i3 (by assumption) | exact TI.i2 (by assumption) | exact TI.i1 (by assumption) | exact TI.i0 (by assumption) | exact TI.i4 (by assumption) | exact TI.i6 (by assumption) | exact TI.i7 (by assumption)) (fun c11 => ?_) (fun c11 => ?_)
    ·
      have e : i = N := by omega
      subst e -- go
      refine wp_iload_n (pc := 34) dX12_owedAll_34 rfl ?_
      exact wp_ir (pc := 35) dX12_owedAll_35 rfl (by decide) (by decide) (by first | rfl | omega) (by first | exact ⟨K, O⟩ | rfl)
    ·
      refine wp_iload_n (pc := 14) dX12_owedAll_14 rfl ?_
      refine wp_aload_n (pc := 15) dX12_owedAll_15 rfl ?_
      refine wp_bipush (pc := 16) (y := 66) dX12_owedAll_16 (by decide) ?_
      refine wp_iload (pc := 18) dX12_owedAll_18 rfl ?_
      refine wp_iload_n (pc := 20) dX12_owedAll_20 rfl ?_
      refine wp_Sp (pc := 21) dX12_owedAll_21 cl_X12_151 sp_Ref_pair rfl rfl (by decide) (Nat.le_of_ble_eq_true rfl) ?_
      refine wp_iadd (pc := 24) dX12_owedAll_24 ?_
      refine wm_iald dX12_owedAll_25 K (by first | rfl | assumption) (by first | decide | omega) (by first | decide | omega) (by decide) (by omega) (by omega) (by repeat (first | assumption | exact upA_eq | refine upA_ne (by first | decide | omega) ?_ | refine SA_at (by assumption) (by first | decide | (simp; omega)) ?_ | exact rfl)) (by first | exact flat5 (by omega) (by omega) | exact flat3 (by omega) (by omega) | exact flat2 (by omega) (by omega) | exact flat6 (by omega) (by omega) | exact flat4 (by omega) (by omega) | exact flat1 (by omega) (by omega) | exact flat0 (by omega) (by omega) | exact flat7 | exact rfl) ?_
      refine wp_iadd (pc := 26) dX12_owedAll_26 ?_
      refine wp_istore_n (pc := 27) dX12_owedAll_27 (by decide) ?_
      refine wp_iinc (pc := 28) dX12_owedAll_28 rfl (by decide) ?_
      refine wp_goto (pc := 31) 5 dX12_owedAll_31 (by decide) ?_
      refine wp_ls ?_ (ih (i + 1) (by omega) (by omega))
      repeat' (first | exact LE_0 | refine LE_s rfl ?_ | refine LE_s (I_c (by first | omega | (simp only [oto, sm]))) ?_ | refine LE_n ?_)
theorem sp_Ref_owedAll (K : ModAt hp q V A rd rl) (h1 : V 1 = (N : Int)) (hN : N ≤ 6) (ha : a = 1 ∨ a = 10) (hA : A a = flat T) (hx : 0 ≤ x ∧ x < 6) : Sp g MX12_owedAll (rm 1 0 0) [.ref q, .ref (q + a), .int (I x)] hp (Pur (.int (I (oto T x N))) hp) := by
  refine Sp_mk rfl (Nat.le_of_ble_eq_true rfl) ?_
  show wp g _ _ _ 0 0 0 [some (.ref q), some (.ref (q + a)), some (.int (I x)), none, none] [] hp
  have O := SO.rf (hp := hp) (lo := q) (hi := q + 25)
  refine wp_iconst (pc := 0) dX12_owedAll_0 ?_
  refine wp_istore_n (pc := 1) dX12_owedAll_1 (by decide) ?_
  refine wp_iconst (pc := 2) dX12_owedAll_2 ?_
  refine wp_istore (pc := 3) dX12_owedAll_3 (by decide) ?_
  exact lp_Ref_owedAll K h1 hN ha hA hx (N + 1) 0 (by omega) (by omega)
/-- the dead as bits -/
def ddb (T : Nat → Int → Int) : Nat → Bool := fun i => !(lv T i)
theorem lp_Ref_deadOnes (K : ModAt hp q V A rd rl) (h1 : V 1 = (N : Int)) (hI : TI T N) (ha : a = 1 ∨ a = 10) (hA : A a = flat T) : ∀ (m i : Nat), N < i + m → i ≤ N → wp g MX12_deadOnes (rm 0 0 0) (Pur (.int (I (bits (ddb T) N : Nat))) hp) 0 0 4 [some (.ref q), some (.ref (q + a)), some (.int (I (bits (ddb T) i : Nat))), some (.int (I (i : Int)))] [] hp := by
  intro m
  induction m with
  | zero => intro i h1 h2; exact absurd h1 (by omega)
  | succ m ih =>
    intro i h1 h2
    have hm := mty_n ha
    have hN := hI.men.2
    have hd := hI.r5 (i : Int)
    refine wp_iload_n (pc := 4) dX12_deadOnes_4 rfl ?_
    refine wp_aload_n (pc := 5) dX12_deadOnes_5 rfl ?_
    refine wm_gets dX12_deadOnes_6 gf_X12_92 K (by rfl) (by repeat (first | assumption | exact pv10 | exact pv11 | refine pv_o (by decide) (by decide) ?_ | exact upN_eq | refine upN_ne (by decide) ?_ | refine SV_at (by assumption) (by decide) ?_ | exact rfl)) ?_
    refine wp_icmp_ge (pc := 9) 37 dX12_deadOnes_9 (by decide) (by first | omega | exact TI.i5 (by assumption) | exact TI.i3 (by assumption) | exact TI.i2 (by assumption) | exact TI.i1 (by assumption) | exact TI.i0 (by assumption) | exact TI.i4 (by assumption) | exact TI.i6 (by assumption) | exact TI.i7 (by assumption)) (by first | omega | exact TI.i5 (by assumption) | exact TI.i3 (by assumption) | exact TI.i2 (by assumption) | exact TI.i1 (by assumption) | exact TI.i0 (by assumption) | exact TI.i4 (by assumption) | exact TI.i6 (by assumption) | exact TI.i7 (by assumption)) (fun c9 => ?_) (fun c9 => ?_)
    ·
      have e : i = N := by omega
      subst e -- go
      refine wp_iload_n (pc := 37) dX12_deadOnes_37 rfl ?_
      exact wp_ir (pc := 38) dX12_deadOnes_38 rfl (by decide) (by decide) (by first | rfl | omega) (by first | exact ⟨K, O⟩ | rfl)
    ·
      refine wp_iload_n (pc := 12) dX12_deadOnes_12 rfl ?_
      refine wp_aload_n (pc := 13) dX12_deadOnes_13 rfl ?_
      refine wp_bipush (pc := 14) (y := 54) dX12_deadOnes_14 (by decide) ?_
      refine wp_iload_n (pc := 16) dX12_deadOnes_16 rfl ?_
      refine wp_iadd (pc := 17) dX12_deadOnes_17 ?_
      refine wm_iald dX12_deadOnes_18 K (by first | rfl | assumption) (by first | decide | omega) (by first | decide | omega) (by decide) (by omega) (by omega) (by repeat (first | assumption | exact upA_eq | refine upA_ne (by first | decide | omega) ?_ | refine SA_at (by assumption) (by first | decide | (simp; omega)) ?_ | exact rfl)) (by first | exact flat5 (by omega) (by omega) | exact flat3 (by omega) (by omega) | exact flat2 (by omega) (by omega) | exact flat6 (by omega) (by omega) | exact flat4 (by omega) (by omega) | exact flat1 (by omega) (by omega) | exact flat0 (by omega) (by omega) | exact flat7 | exact rfl) ?_
      refine wp_if_le (pc := 19) 28 dX12_deadOnes_19 (by decide) (by first | omega | exact TI.i5 (by assumption) | exact TI.i3 (by assumption) | exact TI.i2 (by assumption) | exact TI.i1 (by assumption) | exact TI.i0 (by assumption) | exact TI.i4 (by assumption) | exact TI.i6 (by assumption) | exact TI.i7 (by assumption)) (fun c19 => ?_) (fun c19 => ?_)
      ·
        have e : bits (ddb T) (i + 1) = bits (ddb T) i := by show _ ||| _ = _; rw [if_neg (by simp [ddb, lv]; omega), Nat.or_zero]
        skip -- go
        refine wp_iconst (pc := 28) dX12_deadOnes_28 ?_
        first | refine wp_ior (pc := 29) dX12_deadOnes_29 I_or0 ?_ | refine wp_ior (pc := 29) dX12_deadOnes_29 I_or ?_
        rw [← e]
        refine wp_istore_n (pc := 30) dX12_deadOnes_30 (by decide) ?_
        refine wp_iinc (pc := 31) dX12_deadOnes_31 rfl (by decide) ?_
        refine wp_goto (pc := 34) 4 dX12_deadOnes_34 (by decide) ?_
        refine wp_ls ?_ (ih (i + 1) (by omega) (by omega))
        · repeat' (first | exact LE_0 | refine LE_s rfl ?_ | refine LE_s (I_c (by first | omega | (simp only [sm]; omega))) ?_ | refine LE_s (J_c (by first | omega | exact Int.pow_succ _ _ | exact (Int.pow_succ _ _).symm | exact (Int.pow_zero _).symm | (simp only [sm]; omega))) ?_ | refine LE_n ?_)
      ·
        have e : bits (ddb T) (i + 1) = bits (ddb T) i ||| 2 ^ i := by show _ ||| _ = _; rw [if_pos (by simp [ddb, lv]; omega)]
        skip -- go
        refine wp_iconst (pc := 22) dX12_deadOnes_22 ?_
        refine wp_iload_n (pc := 23) dX12_deadOnes_23 rfl ?_
        refine wp_ishl (pc := 24) dX12_deadOnes_24 (I_shl (by omega)) ?_
        refine wp_goto (pc := 25) 29 dX12_deadOnes_25 (by decide) ?_
        first | refine wp_ior (pc := 29) dX12_deadOnes_29 I_or0 ?_ | refine wp_ior (pc := 29) dX12_deadOnes_29 I_or ?_
        rw [← e]
        refine wp_istore_n (pc := 30) dX12_deadOnes_30 (by decide) ?_
        refine wp_iinc (pc := 31) dX12_deadOnes_31 rfl (by decide) ?_
        refine wp_goto (pc := 34) 4 dX12_deadOnes_34 (by decide) ?_
        refine wp_ls ?_ (ih (i + 1) (by omega) (by omega))
        · repeat' (first | exact LE_0 | refine LE_s rfl ?_ | refine LE_s (I_c (by first | omega | (simp only [sm]; omega))) ?_ | refine LE_s (J_c (by first | omega | exact Int.pow_succ _ _ | exact (Int.pow_succ _ _).symm | exact (Int.pow_zero _).symm | (simp only [sm]; omega))) ?_ | refine LE_n ?_)
theorem sp_Ref_deadOnes (K : ModAt hp q V A rd rl) (h1 : V 1 = (N : Int)) (hI : TI T N) (ha : a = 1 ∨ a = 10) (hA : A a = flat T) : Sp g MX12_deadOnes (rm 0 0 0) [.ref q, .ref (q + a)] hp (Pur (.int (I (bits (ddb T) N : Nat))) hp) := by
  refine Sp_mk rfl (Nat.le_of_ble_eq_true rfl) ?_
  show wp g _ _ _ 0 0 0 [some (.ref q), some (.ref (q + a)), none, none] [] hp
  have O := SO.rf (hp := hp) (lo := q) (hi := q + 25)
  refine wp_iconst (pc := 0) dX12_deadOnes_0 ?_
  refine wp_istore_n (pc := 1) dX12_deadOnes_1 (by decide) ?_
  refine wp_iconst (pc := 2) dX12_deadOnes_2 ?_
  refine wp_istore_n (pc := 3) dX12_deadOnes_3 (by decide) ?_
  exact lp_Ref_deadOnes K h1 hI ha hA (N + 1) 0 (by omega) (by omega)
end MB

