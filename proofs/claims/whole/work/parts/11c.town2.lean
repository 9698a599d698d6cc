section TX
variable {g : GT} {hp hp2 : Hp} {h h2 N L A : Nat} {T T' : Nat → Int → Int} {f : Int → Int} {p q a b n : Int} {s : Nat}
theorem bits64 {P : Nat → Bool} (hN : N ≤ 6) : bits P N < 64 := by
  have h1 := bits_lt P N
  have h2 : 2 ^ N ≤ 2 ^ 6 := Nat.pow_le_pow_right (by decide) hN
  omega
theorem updI_all {P : Int → Prop} {j v : Int} (hf : ∀ i, P (f i)) (hv : P v) : ∀ i, P (updI f j v i) := by
  intro i
  unfold updI
  split
  · exact hv
  · exact hf i
theorem TI.u0 (hI : TI T N) (hv : 0 ≤ b ∧ b ≤ 9) : TI (up T 0 a b) N := by
  obtain ⟨i8, iN, i0, i1, i2, i3, i4, i5, i6, i7⟩ := hI
  exact ⟨i8, iN, updI_all (P := fun x => 0 ≤ x ∧ x ≤ 9) i0 hv, i1, i2, i3, i4, i5, i6, i7⟩
theorem TI.u1 (hI : TI T N) (hv : 0 ≤ b ∧ b ≤ 99) : TI (up T 1 a b) N := by
  obtain ⟨i8, iN, i0, i1, i2, i3, i4, i5, i6, i7⟩ := hI
  exact ⟨i8, iN, i0, updI_all (P := fun x => 0 ≤ x ∧ x ≤ 99) i1 hv, i2, i3, i4, i5, i6, i7⟩
theorem TI.u2 (hI : TI T N) (hv : 0 ≤ b ∧ b ≤ 99) : TI (up T 2 a b) N := by
  obtain ⟨i8, iN, i0, i1, i2, i3, i4, i5, i6, i7⟩ := hI
  exact ⟨i8, iN, i0, i1, updI_all (P := fun x => 0 ≤ x ∧ x ≤ 99) i2 hv, i3, i4, i5, i6, i7⟩
theorem TI.u3 (hI : TI T N) (hv : 0 ≤ b ∧ b ≤ 9999) : TI (up T 3 a b) N := by
  obtain ⟨i8, iN, i0, i1, i2, i3, i4, i5, i6, i7⟩ := hI
  exact ⟨i8, iN, i0, i1, i2, updI_all (P := fun x => 0 ≤ x ∧ x ≤ 9999) i3 hv, i4, i5, i6, i7⟩
theorem TI.u4 (hI : TI T N) (hv : 0 ≤ b ∧ b ≤ 99) : TI (up T 4 a b) N := by
  obtain ⟨i8, iN, i0, i1, i2, i3, i4, i5, i6, i7⟩ := hI
  exact ⟨i8, iN, i0, i1, i2, i3, updI_all (P := fun x => 0 ≤ x ∧ x ≤ 99) i4 hv, i5, i6, i7⟩
theorem TI.u5 (hI : TI T N) (hv : 0 ≤ b ∧ b ≤ 9) : TI (up T 5 a b) N := by
  obtain ⟨i8, iN, i0, i1, i2, i3, i4, i5, i6, i7⟩ := hI
  exact ⟨i8, iN, i0, i1, i2, i3, i4, updI_all (P := fun x => 0 ≤ x ∧ x ≤ 9) i5 hv, i6, i7⟩
theorem TI.u6 (hI : TI T N) (hv : 0 ≤ b ∧ b < 64) : TI (up T 6 a b) N := by
  obtain ⟨i8, iN, i0, i1, i2, i3, i4, i5, i6, i7⟩ := hI
  exact ⟨i8, iN, i0, i1, i2, i3, i4, i5, updI_all (P := fun x => 0 ≤ x ∧ x < 64) i6 hv, i7⟩
/-- how many are dead -/
def dct (T : Nat → Int → Int) (N : Nat) : Int := (N : Int) - (cnt (lv T) N : Nat)
theorem sp_Town_deadCount (hT : TownAt hp h T) (hI : TI T N) : Sp g MX10_deadCount (rm 2 0 0) [.ref h] hp (Pur (.int (I (dct T N))) hp) := by
  have hI' := hI
  obtain ⟨i8, iN, i0, i1, i2, i3, i4, i5, i6, i7⟩ := hI
  have hT' := hT
  obtain ⟨t0, t1, t2, t3, t4, t5, t6, t7⟩ := hT
  refine Sp_mk rfl (Nat.le_of_ble_eq_true rfl) ?_
  show wp g _ _ _ 0 0 0 [some (.ref h)] [] hp
  refine wp_aload_n (pc := 0) dX10_deadCount_0 rfl ?_
  refine wp_getf (pc := 1) dX10_deadCount_1 gf_X10_43 (by repeat (first | assumption | exact hset_eq | refine hset_at (by omega) ?_)) (by rfl) ?_
  refine wp_aload_n (pc := 4) dX10_deadCount_4 rfl ?_
  refine wp_Vp (pc := 5) dX10_deadCount_5 cl_X10_53 (sp_Town_livingSet (by first | assumption | omega) (by first | assumption | omega)) rfl rfl (by repeat (first | assumption | exact hset_eq | refine hset_at (by omega) ?_)) (by rfl) (by decide) (Nat.le_of_ble_eq_true rfl) ?_
  refine wp_Sp (pc := 8) dX10_deadCount_8 cl_X10_57 (sp_Integer_bitCount (bits64 iN)) rfl rfl (by decide) (Nat.le_of_ble_eq_true rfl) ?_
  refine wp_isub (pc := 11) dX10_deadCount_11 ?_
  exact wp_ir (pc := 12) dX10_deadCount_12 rfl (by decide) (by decide) (by rw [popc_bits _ (by omega), i8]; rfl) rfl
theorem lp_Town_sum (hT : TownAt hp h T) (hI : TI T N) (ha : hp.2 A = some (.inl (.int, L, f))) (hL : N ≤ L) (hL2 : L < 1000) : ∀ (m i : Nat), N < i + m → i ≤ N → wp g MX10_sum (rm 0 0 0) (Pur (.int (I (sm f N))) hp) 0 0 4 [some (.ref h), some (.ref A), some (.int (I (sm f i))), some (.int (I (i : Int)))] [] hp := by
  intro m
  induction m with
  | zero => intro i h1 h2; exact absurd h1 (by omega)
  | succ m ih =>
    intro i h1 h2
    obtain ⟨i8, iN, i0, i1, i2, i3, i4, i5, i6, i7⟩ := hI
    obtain ⟨t0, t1, t2, t3, t4, t5, t6, t7⟩ := hT
    refine wp_iload_n (pc := 4) dX10_sum_4 rfl ?_
    refine wp_aload_n (pc := 5) dX10_sum_5 rfl ?_
    refine wp_getf (pc := 6) dX10_sum_6 gf_X10_43 (by repeat (first | assumption | exact hset_eq | refine hset_at (by omega) ?_)) (by rfl) ?_
    refine wp_icmp_ge (pc := 9) 30 dX10_sum_9 (by decide) (by omega) (by omega) (fun c9 => ?_) (fun c9 => ?_)
    ·
      have e : i = N := by omega
      subst e -- go
      refine wp_iload_n (pc := 30) dX10_sum_30 rfl ?_
      exact wp_ir (pc := 31) dX10_sum_31 rfl (by decide) (by decide) (by first | rfl | omega) rfl
    ·
      refine wp_iload_n (pc := 12) dX10_sum_12 rfl ?_
      refine wp_aload_n (pc := 13) dX10_sum_13 rfl ?_
      refine wp_alen (pc := 14) dX10_sum_14 ha ?_
      refine wp_icmp_ge (pc := 15) 30 dX10_sum_15 (by decide) (by omega) (by omega) (fun c15 => ?_) (fun c15 => ?_)
      ·
        omega
      ·
        refine wp_iload_n (pc := 18) dX10_sum_18 rfl ?_
        refine wp_aload_n (pc := 19) dX10_sum_19 rfl ?_
        refine wp_iload_n (pc := 20) dX10_sum_20 rfl ?_
        refine wp_iald (pc := 21) dX10_sum_21 ha (by omega) (by omega) (by omega) ?_
        refine wp_iadd (pc := 22) dX10_sum_22 ?_
        refine wp_istore_n (pc := 23) dX10_sum_23 (by decide) ?_
        refine wp_iinc (pc := 24) dX10_sum_24 rfl (by decide) ?_
        refine wp_goto (pc := 27) 4 dX10_sum_27 (by decide) ?_
        refine wp_ls ?_ (ih (i + 1) (by omega) (by omega))
        · repeat' (first | exact LE_0 | refine LE_s rfl ?_ | refine LE_s (I_c (by first | omega | (simp only [sm]; omega))) ?_ | refine LE_s (J_c (by first | omega | exact Int.pow_succ _ _ | exact (Int.pow_succ _ _).symm | (simp only [sm]; omega))) ?_ | refine LE_n ?_)
theorem sp_Town_sum (hT : TownAt hp h T) (hI : TI T N) (ha : hp.2 A = some (.inl (.int, L, f))) (hL : N ≤ L) (hL2 : L < 1000) : Sp g MX10_sum (rm 0 0 0) [.ref h, .ref A] hp (Pur (.int (I (sm f N))) hp) := by
  refine Sp_mk rfl (Nat.le_of_ble_eq_true rfl) ?_
  show wp g _ _ _ 0 0 0 [some (.ref h), some (.ref A), none, none] [] hp
  refine wp_iconst (pc := 0) dX10_sum_0 ?_
  refine wp_istore_n (pc := 1) dX10_sum_1 (by decide) ?_
  refine wp_iconst (pc := 2) dX10_sum_2 ?_
  refine wp_istore_n (pc := 3) dX10_sum_3 (by decide) ?_
  exact lp_Town_sum hT hI ha hL hL2 (N + 1) 0 (by omega) (by omega)
def oby (T : Nat → Int → Int) (p : Int) (n : Nat) : Int := sm (fun i => T 1 (p * 6 + i)) n
def oto (T : Nat → Int → Int) (p : Int) (n : Nat) : Int := sm (fun i => T 1 (i * 6 + p)) n
theorem lp_Town_owedBy (hT : TownAt hp h T) (hI : TI T N) (h0 : 0 ≤ p) (h6 : p < 6) : ∀ (m i : Nat), N < i + m → i ≤ N → wp g MX10_owedBy (rm 1 0 0) (Pur (.int (I (oby T p N))) hp) 0 0 4 [some (.ref h), some (.int (I p)), some (.int (I (oby T p i))), some (.int (I (i : Int)))] [] hp := by
  intro m
  induction m with
  | zero => intro i h1 h2; exact absurd h1 (by omega)
  | succ m ih =>
    intro i h1 h2
    obtain ⟨i8, iN, i0, i1, i2, i3, i4, i5, i6, i7⟩ := hI
    obtain ⟨t0, t1, t2, t3, t4, t5, t6, t7⟩ := hT
    refine wp_iload_n (pc := 4) dX10_owedBy_4 rfl ?_
    refine wp_aload_n (pc := 5) dX10_owedBy_5 rfl ?_
    refine wp_getf (pc := 6) dX10_owedBy_6 gf_X10_43 (by repeat (first | assumption | exact hset_eq | refine hset_at (by omega) ?_)) (by rfl) ?_
    refine wp_icmp_ge (pc := 9) 31 dX10_owedBy_9 (by decide) (by omega) (by omega) (fun c9 => ?_) (fun c9 => ?_)
    ·
      have e : i = N := by omega
      subst e -- go
      refine wp_iload_n (pc := 31) dX10_owedBy_31 rfl ?_
      exact wp_ir (pc := 32) dX10_owedBy_32 rfl (by decide) (by decide) (by first | rfl | omega) rfl
    ·
      refine wp_iload_n (pc := 12) dX10_owedBy_12 rfl ?_
      refine wp_aload_n (pc := 13) dX10_owedBy_13 rfl ?_
      refine wp_getf (pc := 14) dX10_owedBy_14 gf_X10_15 (by repeat (first | assumption | exact hset_eq | refine hset_at (by omega) ?_)) (by rfl) ?_
      refine wp_iload_n (pc := 17) dX10_owedBy_17 rfl ?_
      refine wp_iload_n (pc := 18) dX10_owedBy_18 rfl ?_
      refine wp_Sp (pc := 19) dX10_owedBy_19 cl_X10_63 sp_D_pair rfl rfl (by decide) (Nat.le_of_ble_eq_true rfl) ?_
      refine wp_iald (pc := 22) dX10_owedBy_22 (by repeat (first | assumption | exact hset_eq | refine hset_at (by omega) ?_)) (by omega) (by omega) (by decide) ?_
      refine wp_iadd (pc := 23) dX10_owedBy_23 ?_
      refine wp_istore_n (pc := 24) dX10_owedBy_24 (by decide) ?_
      refine wp_iinc (pc := 25) dX10_owedBy_25 rfl (by decide) ?_
      refine wp_goto (pc := 28) 4 dX10_owedBy_28 (by decide) ?_
      refine wp_ls ?_ (ih (i + 1) (by omega) (by omega))
      · repeat' (first | exact LE_0 | refine LE_s rfl ?_ | refine LE_s (I_c (by first | omega | (simp only [sm]; omega))) ?_ | refine LE_s (J_c (by first | omega | exact Int.pow_succ _ _ | exact (Int.pow_succ _ _).symm | (simp only [sm]; omega))) ?_ | refine LE_n ?_)
theorem sp_Town_owedBy (hT : TownAt hp h T) (hI : TI T N) (h0 : 0 ≤ p) (h6 : p < 6) : Sp g MX10_owedBy (rm 1 0 0) [.ref h, .int (I p)] hp (Pur (.int (I (oby T p N))) hp) := by
  refine Sp_mk rfl (Nat.le_of_ble_eq_true rfl) ?_
  show wp g _ _ _ 0 0 0 [some (.ref h), some (.int (I p)), none, none] [] hp
  refine wp_iconst (pc := 0) dX10_owedBy_0 ?_
  refine wp_istore_n (pc := 1) dX10_owedBy_1 (by decide) ?_
  refine wp_iconst (pc := 2) dX10_owedBy_2 ?_
  refine wp_istore_n (pc := 3) dX10_owedBy_3 (by decide) ?_
  exact lp_Town_owedBy hT hI h0 h6 (N + 1) 0 (by omega) (by omega)
theorem lp_Town_owedTo (hT : TownAt hp h T) (hI : TI T N) (h0 : 0 ≤ p) (h6 : p < 6) : ∀ (m i : Nat), N < i + m → i ≤ N → wp g MX10_owedTo (rm 1 0 0) (Pur (.int (I (oto T p N))) hp) 0 0 4 [some (.ref h), some (.int (I p)), some (.int (I (oto T p i))), some (.int (I (i : Int)))] [] hp := by
  intro m
  induction m with
  | zero => intro i h1 h2; exact absurd h1 (by omega)
  | succ m ih =>
    intro i h1 h2
    obtain ⟨i8, iN, i0, i1, i2, i3, i4, i5, i6, i7⟩ := hI
    obtain ⟨t0, t1, t2, t3, t4, t5, t6, t7⟩ := hT
    refine wp_iload_n (pc := 4) dX10_owedTo_4 rfl ?_
    refine wp_aload_n (pc := 5) dX10_owedTo_5 rfl ?_
    refine wp_getf (pc := 6) dX10_owedTo_6 gf_X10_43 (by repeat (first | assumption | exact hset_eq | refine hset_at (by omega) ?_)) (by rfl) ?_
    refine wp_icmp_ge (pc := 9) 31 dX10_owedTo_9 (by decide) (by omega) (by omega) (fun c9 => ?_) (fun c9 => ?_)
    ·
      have e : i = N := by omega
      subst e -- go
      refine wp_iload_n (pc := 31) dX10_owedTo_31 rfl ?_
      exact wp_ir (pc := 32) dX10_owedTo_32 rfl (by decide) (by decide) (by first | rfl | omega) rfl
    ·
      refine wp_iload_n (pc := 12) dX10_owedTo_12 rfl ?_
      refine wp_aload_n (pc := 13) dX10_owedTo_13 rfl ?_
      refine wp_getf (pc := 14) dX10_owedTo_14 gf_X10_15 (by repeat (first | assumption | exact hset_eq | refine hset_at (by omega) ?_)) (by rfl) ?_
      refine wp_iload_n (pc := 17) dX10_owedTo_17 rfl ?_
      refine wp_iload_n (pc := 18) dX10_owedTo_18 rfl ?_
      refine wp_Sp (pc := 19) dX10_owedTo_19 cl_X10_63 sp_D_pair rfl rfl (by decide) (Nat.le_of_ble_eq_true rfl) ?_
      refine wp_iald (pc := 22) dX10_owedTo_22 (by repeat (first | assumption | exact hset_eq | refine hset_at (by omega) ?_)) (by omega) (by omega) (by decide) ?_
      refine wp_iadd (pc := 23) dX10_owedTo_23 ?_
      refine wp_istore_n (pc := 24) dX10_owedTo_24 (by decide) ?_
      refine wp_iinc (pc := 25) dX10_owedTo_25 rfl (by decide) ?_
      refine wp_goto (pc := 28) 4 dX10_owedTo_28 (by decide) ?_
      refine wp_ls ?_ (ih (i + 1) (by omega) (by omega))
      · repeat' (first | exact LE_0 | refine LE_s rfl ?_ | refine LE_s (I_c (by first | omega | (simp only [sm]; omega))) ?_ | refine LE_s (J_c (by first | omega | exact Int.pow_succ _ _ | exact (Int.pow_succ _ _).symm | (simp only [sm]; omega))) ?_ | refine LE_n ?_)
theorem sp_Town_owedTo (hT : TownAt hp h T) (hI : TI T N) (h0 : 0 ≤ p) (h6 : p < 6) : Sp g MX10_owedTo (rm 1 0 0) [.ref h, .int (I p)] hp (Pur (.int (I (oto T p N))) hp) := by
  refine Sp_mk rfl (Nat.le_of_ble_eq_true rfl) ?_
  show wp g _ _ _ 0 0 0 [some (.ref h), some (.int (I p)), none, none] [] hp
  refine wp_iconst (pc := 0) dX10_owedTo_0 ?_
  refine wp_istore_n (pc := 1) dX10_owedTo_1 (by decide) ?_
  refine wp_iconst (pc := 2) dX10_owedTo_2 ?_
  refine wp_istore_n (pc := 3) dX10_owedTo_3 (by decide) ?_
  exact lp_Town_owedTo hT hI h0 h6 (N + 1) 0 (by omega) (by omega)
def bal (T : Nat → Int → Int) (p : Int) (N : Nat) : Int := oto T p N - oby T p N
theorem sp_Town_balance (hT : TownAt hp h T) (hI : TI T N) (h0 : 0 ≤ p) (h6 : p < 6) : Sp g MX10_balance (rm 2 0 0) [.ref h, .int (I p)] hp (Pur (.int (I (bal T p N))) hp) := by
  have hT' := hT
  obtain ⟨t0, t1, t2, t3, t4, t5, t6, t7⟩ := hT
  refine Sp_mk rfl (Nat.le_of_ble_eq_true rfl) ?_
  show wp g _ _ _ 0 0 0 [some (.ref h), some (.int (I p))] [] hp
  refine wp_aload_n (pc := 0) dX10_balance_0 rfl ?_
  refine wp_iload_n (pc := 1) dX10_balance_1 rfl ?_
  refine wp_Vp (pc := 2) dX10_balance_2 cl_X10_67 (sp_Town_owedTo (by first | assumption | omega) (by first | assumption | omega) (by first | assumption | omega) (by first | assumption | omega)) rfl rfl (by repeat (first | assumption | exact hset_eq | refine hset_at (by omega) ?_)) (by rfl) (by decide) (Nat.le_of_ble_eq_true rfl) ?_
  refine wp_aload_n (pc := 5) dX10_balance_5 rfl ?_
  refine wp_iload_n (pc := 6) dX10_balance_6 rfl ?_
  refine wp_Vp (pc := 7) dX10_balance_7 cl_X10_70 (sp_Town_owedBy (by first | assumption | omega) (by first | assumption | omega) (by first | assumption | omega) (by first | assumption | omega)) rfl rfl (by repeat (first | assumption | exact hset_eq | refine hset_at (by omega) ?_)) (by rfl) (by decide) (Nat.le_of_ble_eq_true rfl) ?_
  refine wp_isub (pc := 10) dX10_balance_10 ?_
  exact wp_ir (pc := 11) dX10_balance_11 rfl (by decide) (by decide) (by first | rfl | omega) rfl
theorem sp_Town_worth (hT : TownAt hp h T) (hI : TI T N) (h0 : 0 ≤ p) (h6 : p < 6) : Sp g MX10_worth (rm 3 0 0) [.ref h, .int (I p)] hp (Pur (.int (I (T 2 p + bal T p N))) hp) := by
  have hT' := hT
  obtain ⟨t0, t1, t2, t3, t4, t5, t6, t7⟩ := hT
  refine Sp_mk rfl (Nat.le_of_ble_eq_true rfl) ?_
  show wp g _ _ _ 0 0 0 [some (.ref h), some (.int (I p))] [] hp
  refine wp_aload_n (pc := 0) dX10_worth_0 rfl ?_
  refine wp_getf (pc := 1) dX10_worth_1 gf_X10_18 (by repeat (first | assumption | exact hset_eq | refine hset_at (by omega) ?_)) (by rfl) ?_
  refine wp_iload_n (pc := 4) dX10_worth_4 rfl ?_
  refine wp_iald (pc := 5) dX10_worth_5 (by repeat (first | assumption | exact hset_eq | refine hset_at (by omega) ?_)) (by omega) (by omega) (by decide) ?_
  refine wp_aload_n (pc := 6) dX10_worth_6 rfl ?_
  refine wp_iload_n (pc := 7) dX10_worth_7 rfl ?_
  refine wp_Vp (pc := 8) dX10_worth_8 cl_X10_73 (sp_Town_balance (by first | assumption | omega) (by first | assumption | omega) (by first | assumption | omega) (by first | assumption | omega)) rfl rfl (by repeat (first | assumption | exact hset_eq | refine hset_at (by omega) ?_)) (by rfl) (by decide) (Nat.le_of_ble_eq_true rfl) ?_
  refine wp_iadd (pc := 11) dX10_worth_11 ?_
  exact wp_ir (pc := 12) dX10_worth_12 rfl (by decide) (by decide) (by first | rfl | omega) rfl
def rcn (T : Nat → Int → Int) (s : Nat) (a : Int) (n : Nat) : Nat := cnt (fun i => s.testBit i && decide (a ≤ T 2 (i : Int))) n
theorem lp_Town_richIn (hT : TownAt hp h T) (hI : TI T N) (hs : s < 2147483648) (ra : InR a) : ∀ (m i : Nat), N < i + m → i ≤ N → wp g MX10_richIn (rm 1 0 0) (Pur (.int (I (rcn T s a N : Nat))) hp) 0 0 5 [some (.ref h), some (.int (I (s : Int))), some (.int (I a)), some (.int (I (rcn T s a i : Nat))), some (.int (I (i : Int)))] [] hp := by
  intro m
  induction m with
  | zero => intro i h1 h2; exact absurd h1 (by omega)
  | succ m ih =>
    intro i h1 h2
    obtain ⟨i8, iN, i0, i1, i2, i3, i4, i5, i6, i7⟩ := hI
    obtain ⟨t0, t1, t2, t3, t4, t5, t6, t7⟩ := hT
    have := i2 (i : Int)
    refine wp_iload (pc := 5) dX10_richIn_5 rfl ?_
    refine wp_aload_n (pc := 7) dX10_richIn_7 rfl ?_
    refine wp_getf (pc := 8) dX10_richIn_8 gf_X10_43 (by repeat (first | assumption | exact hset_eq | refine hset_at (by omega) ?_)) (by rfl) ?_
    refine wp_icmp_ge (pc := 11) 43 dX10_richIn_11 (by decide) (by omega) (by omega) (fun c11 => ?_) (fun c11 => ?_)
    ·
      have e : i = N := by omega
      subst e -- go
      refine wp_iload_n (pc := 43) dX10_richIn_43 rfl ?_
      exact wp_ir (pc := 44) dX10_richIn_44 rfl (by decide) (by decide) (by first | rfl | omega) rfl
    ·
      refine wp_iload (pc := 14) dX10_richIn_14 rfl ?_
      refine wp_iload_n (pc := 16) dX10_richIn_16 rfl ?_
      refine wp_Sp (pc := 17) dX10_richIn_17 cl_X10_76 (sp_D_isIn (by first | assumption | omega) (by first | assumption | omega)) rfl rfl (by decide) (Nat.le_of_ble_eq_true rfl) ?_
      first | refine wp_ifb_eq (pc := 20) 37 dX10_richIn_20 (by decide) (fun c20 => ?_) (fun c20 => ?_) | refine wp_if_eq (pc := 20) 37 dX10_richIn_20 (by decide) (by omega) (fun c20 => ?_) (fun c20 => ?_)
      ·
        have e : rcn T s a (i + 1) = rcn T s a i := by show _ + _ = _; rw [if_neg (by simp [c20])]; rfl
        rw [← e] -- go
        first | (rw [show ((rcn T s a i : Nat) : Int) + 1 = (rcn T s a (i + 1) : Nat) by rw [e]; rfl]) | skip
        refine wp_iinc (pc := 37) dX10_richIn_37 rfl (by decide) ?_
        refine wp_goto (pc := 40) 5 dX10_richIn_40 (by decide) ?_
        refine wp_ls ?_ (ih (i + 1) (by omega) (by omega))
        · repeat' (first | exact LE_0 | refine LE_s rfl ?_ | refine LE_s (I_c (by first | omega | (simp only [sm]; omega))) ?_ | refine LE_s (J_c (by first | omega | exact Int.pow_succ _ _ | exact (Int.pow_succ _ _).symm | (simp only [sm]; omega))) ?_ | refine LE_n ?_)
      ·
        refine wp_aload_n (pc := 23) dX10_richIn_23 rfl ?_
        refine wp_getf (pc := 24) dX10_richIn_24 gf_X10_18 (by repeat (first | assumption | exact hset_eq | refine hset_at (by omega) ?_)) (by rfl) ?_
        refine wp_iload (pc := 27) dX10_richIn_27 rfl ?_
        refine wp_iald (pc := 29) dX10_richIn_29 (by repeat (first | assumption | exact hset_eq | refine hset_at (by omega) ?_)) (by omega) (by omega) (by decide) ?_
        refine wp_iload_n (pc := 30) dX10_richIn_30 rfl ?_
        refine wp_icmp_lt (pc := 31) 37 dX10_richIn_31 (by decide) (by omega) (by omega) (fun c31 => ?_) (fun c31 => ?_)
        ·
          have e : rcn T s a (i + 1) = rcn T s a i := by show _ + _ = _; rw [if_neg (by simp [show ¬ a ≤ T 2 (i : Int) by omega])]; rfl
          rw [← e] -- go
          first | (rw [show ((rcn T s a i : Nat) : Int) + 1 = (rcn T s a (i + 1) : Nat) by rw [e]; rfl]) | skip
          refine wp_iinc (pc := 37) dX10_richIn_37 rfl (by decide) ?_
          refine wp_goto (pc := 40) 5 dX10_richIn_40 (by decide) ?_
          refine wp_ls ?_ (ih (i + 1) (by omega) (by omega))
          · repeat' (first | exact LE_0 | refine LE_s rfl ?_ | refine LE_s (I_c (by first | omega | (simp only [sm]; omega))) ?_ | refine LE_s (J_c (by first | omega | exact Int.pow_succ _ _ | exact (Int.pow_succ _ _).symm | (simp only [sm]; omega))) ?_ | refine LE_n ?_)
        ·
          have e : rcn T s a (i + 1) = rcn T s a i + 1 := by show _ + _ = _; rw [if_pos (by simp [c20, show a ≤ T 2 (i : Int) by omega])]; rfl
          skip -- go
          refine wp_iinc (pc := 34) dX10_richIn_34 rfl (by decide) ?_
          first | (rw [show ((rcn T s a i : Nat) : Int) + 1 = (rcn T s a (i + 1) : Nat) by rw [e]; rfl]) | skip
          refine wp_iinc (pc := 37) dX10_richIn_37 rfl (by decide) ?_
          refine wp_goto (pc := 40) 5 dX10_richIn_40 (by decide) ?_
          refine wp_ls ?_ (ih (i + 1) (by omega) (by omega))
          · repeat' (first | exact LE_0 | refine LE_s rfl ?_ | refine LE_s (I_c (by first | omega | (simp only [sm]; omega))) ?_ | refine LE_s (J_c (by first | omega | exact Int.pow_succ _ _ | exact (Int.pow_succ _ _).symm | (simp only [sm]; omega))) ?_ | refine LE_n ?_)
theorem sp_Town_richIn (hT : TownAt hp h T) (hI : TI T N) (hs : s < 2147483648) (ra : InR a) : Sp g MX10_richIn (rm 1 0 0) [.ref h, .int (I (s : Int)), .int (I a)] hp (Pur (.int (I (rcn T s a N : Nat))) hp) := by
  refine Sp_mk rfl (Nat.le_of_ble_eq_true rfl) ?_
  show wp g _ _ _ 0 0 0 [some (.ref h), some (.int (I (s : Int))), some (.int (I a)), none, none] [] hp
  refine wp_iconst (pc := 0) dX10_richIn_0 ?_
  refine wp_istore_n (pc := 1) dX10_richIn_1 (by decide) ?_
  refine wp_iconst (pc := 2) dX10_richIn_2 ?_
  refine wp_istore (pc := 3) dX10_richIn_3 (by decide) ?_
  exact lp_Town_richIn hT hI hs ra (N + 1) 0 (by omega) (by omega)
/-- a sum over pairs of two -/
def spr (f : Int → Int) (N : Nat) : Nat → Int := sm (fun i => sm (fun j => if i = j then 0 else f (i * 6 + j)) N)
theorem lp_Town_sumOfPairs2 (hT : TownAt hp h T) (hI : TI T N) (ha : hp.2 A = some (.inl (.int, 36, f))) {Q : Option Value → Hp → Prop} {i0 : Nat} (hi0 : i0 < N) (K : wp g MX10_sumOfPairs (rm 1 0 0) Q 0 0 4 [some (.ref h), some (.ref A), some (.int (I (spr f N (i0 + 1)))), some (.int (I ((i0 + 1 : Nat) : Int))), none, none] [] hp) : ∀ (m i : Nat), N < i + m → i ≤ N → wp g MX10_sumOfPairs (rm 1 0 0) Q 0 0 15 [some (.ref h), some (.ref A), some (.int (I (spr f N i0 + sm (fun j => if (i0 : Int) = j then 0 else f ((i0 : Int) * 6 + j)) i))), some (.int (I (i0 : Int))), some (.int (I (i : Int))), none] [] hp := by
  intro m
  induction m with
  | zero => intro i h1 h2; exact absurd h1 (by omega)
  | succ m ih =>
    intro i h1 h2
    obtain ⟨i8, iN, j0, i1, i2, i3, i4, i5, i6, i7⟩ := hI
    obtain ⟨t0, t1, t2, t3, t4, t5, t6, t7⟩ := hT
    refine wp_iload (pc := 15) dX10_sumOfPairs_15 rfl ?_
    refine wp_aload_n (pc := 17) dX10_sumOfPairs_17 rfl ?_
    refine wp_getf (pc := 18) dX10_sumOfPairs_18 gf_X10_43 (by repeat (first | assumption | exact hset_eq | refine hset_at (by omega) ?_)) (by rfl) ?_
    refine wp_icmp_ge (pc := 21) 62 dX10_sumOfPairs_21 (by decide) (by omega) (by omega) (fun c21 => ?_) (fun c21 => ?_)
    ·
      have e : i = N := by omega
      subst e -- go
      refine wp_iinc (pc := 62) dX10_sumOfPairs_62 rfl (by decide) ?_
      refine wp_goto (pc := 65) 4 dX10_sumOfPairs_65 (by decide) ?_
      refine wp_ls ?_ K
      · repeat' (first | exact LE_0 | refine LE_s rfl ?_ | refine LE_s (I_c (by first | omega | (simp only [sm]; omega))) ?_ | refine LE_s (J_c (by first | omega | exact Int.pow_succ _ _ | exact (Int.pow_succ _ _).symm | (simp only [sm]; omega))) ?_ | refine LE_n ?_)
    ·
      refine wp_iload_n (pc := 24) dX10_sumOfPairs_24 rfl ?_
      refine wp_iload (pc := 25) dX10_sumOfPairs_25 rfl ?_
      refine wp_Sp (pc := 27) dX10_sumOfPairs_27 cl_X10_63 sp_D_pair rfl rfl (by decide) (Nat.le_of_ble_eq_true rfl) ?_
      refine wp_istore (pc := 30) dX10_sumOfPairs_30 (by decide) ?_
      refine wp_iload_n (pc := 32) dX10_sumOfPairs_32 rfl ?_
      refine wp_iload_n (pc := 33) dX10_sumOfPairs_33 rfl ?_
      refine wp_iload (pc := 34) dX10_sumOfPairs_34 rfl ?_
      refine wp_icmp_eq (pc := 36) 46 dX10_sumOfPairs_36 (by decide) (by omega) (by omega) (fun c36 => ?_) (fun c36 => ?_)
      ·
        have e : (0 : Int) = if (i0 : Int) = i then 0 else f ((i0 : Int) * 6 + i) := by rw [if_pos c36]
        skip -- go
        refine wp_iconst (pc := 46) dX10_sumOfPairs_46 ?_
        refine wp_topE e ?_
        refine wp_goto (pc := 47) 54 dX10_sumOfPairs_47 (by decide) ?_
        refine wp_iadd (pc := 54) dX10_sumOfPairs_54 ?_
        refine wp_istore_n (pc := 55) dX10_sumOfPairs_55 (by decide) ?_
        refine wp_iinc (pc := 56) dX10_sumOfPairs_56 rfl (by decide) ?_
        refine wp_goto (pc := 59) 15 dX10_sumOfPairs_59 (by decide) ?_
        refine wp_ls ?_ (ih (i + 1) (by omega) (by omega))
        · repeat' (first | exact LE_0 | refine LE_s rfl ?_ | refine LE_s (I_c (by first | omega | (simp only [sm]; omega))) ?_ | refine LE_s (J_c (by first | omega | exact Int.pow_succ _ _ | exact (Int.pow_succ _ _).symm | (simp only [sm]; omega))) ?_ | refine LE_n ?_)
      ·
        refine wp_iload (pc := 39) dX10_sumOfPairs_39 rfl ?_
        refine wp_aload_n (pc := 41) dX10_sumOfPairs_41 rfl ?_
        refine wp_alen (pc := 42) dX10_sumOfPairs_42 ha ?_
        refine wp_icmp_lt (pc := 43) 50 dX10_sumOfPairs_43 (by decide) (by omega) (by omega) (fun c43 => ?_) (fun c43 => ?_)
        ·
          have e : f ((i0 : Int) * 6 + i) = if (i0 : Int) = i then 0 else f ((i0 : Int) * 6 + i) := by rw [if_neg c36]
          skip -- go
          refine wp_aload_n (pc := 50) dX10_sumOfPairs_50 rfl ?_
          refine wp_iload (pc := 51) dX10_sumOfPairs_51 rfl ?_
          refine wp_iald (pc := 53) dX10_sumOfPairs_53 ha (by omega) (by omega) (by decide) ?_
          refine wp_topE e ?_
          refine wp_iadd (pc := 54) dX10_sumOfPairs_54 ?_
          refine wp_istore_n (pc := 55) dX10_sumOfPairs_55 (by decide) ?_
          refine wp_iinc (pc := 56) dX10_sumOfPairs_56 rfl (by decide) ?_
          refine wp_goto (pc := 59) 15 dX10_sumOfPairs_59 (by decide) ?_
          refine wp_ls ?_ (ih (i + 1) (by omega) (by omega))
          · repeat' (first | exact LE_0 | refine LE_s rfl ?_ | refine LE_s (I_c (by first | omega | (simp only [sm]; omega))) ?_ | refine LE_s (J_c (by first | omega | exact Int.pow_succ _ _ | exact (Int.pow_succ _ _).symm | (simp only [sm]; omega))) ?_ | refine LE_n ?_)
        ·
          omega
theorem lp_Town_sumOfPairs (hT : TownAt hp h T) (hI : TI T N) (ha : hp.2 A = some (.inl (.int, 36, f))) : ∀ (m i : Nat), N < i + m → i ≤ N → wp g MX10_sumOfPairs (rm 1 0 0) (Pur (.int (I (spr f N N))) hp) 0 0 4 [some (.ref h), some (.ref A), some (.int (I (spr f N i))), some (.int (I (i : Int))), none, none] [] hp := by
  intro m
  induction m with
  | zero => intro i h1 h2; exact absurd h1 (by omega)
  | succ m ih =>
    intro i h1 h2
    have hI' := hI
    obtain ⟨i8, iN, i0, i1, i2, i3, i4, i5, i6, i7⟩ := hI
    have hT' := hT
    obtain ⟨t0, t1, t2, t3, t4, t5, t6, t7⟩ := hT
    refine wp_iload_n (pc := 4) dX10_sumOfPairs_4 rfl ?_
    refine wp_aload_n (pc := 5) dX10_sumOfPairs_5 rfl ?_
    refine wp_getf (pc := 6) dX10_sumOfPairs_6 gf_X10_43 (by repeat (first | assumption | exact hset_eq | refine hset_at (by omega) ?_)) (by rfl) ?_
    refine wp_icmp_ge (pc := 9) 68 dX10_sumOfPairs_9 (by decide) (by omega) (by omega) (fun c9 => ?_) (fun c9 => ?_)
    ·
      have e : i = N := by omega
      subst e -- go
      refine wp_iload_n (pc := 68) dX10_sumOfPairs_68 rfl ?_
      exact wp_ir (pc := 69) dX10_sumOfPairs_69 rfl (by decide) (by decide) (by first | rfl | omega) rfl
    ·
      refine wp_iconst (pc := 12) dX10_sumOfPairs_12 ?_
      refine wp_istore (pc := 13) dX10_sumOfPairs_13 (by decide) ?_
      refine wp_ls ?_ (lp_Town_sumOfPairs2 hT' hI' ha (i0 := i) (by omega) (ih (i + 1) (by omega) (by omega)) (N + 1) 0 (by omega) (by omega))
      · repeat' (first | exact LE_0 | refine LE_s rfl ?_ | refine LE_s (I_c (by first | omega | (simp only [sm]; omega))) ?_ | refine LE_s (J_c (by first | omega | exact Int.pow_succ _ _ | exact (Int.pow_succ _ _).symm | (simp only [sm]; omega))) ?_ | refine LE_n ?_)
theorem sp_Town_sumOfPairs (hT : TownAt hp h T) (hI : TI T N) (ha : hp.2 A = some (.inl (.int, 36, f))) : Sp g MX10_sumOfPairs (rm 1 0 0) [.ref h, .ref A] hp (Pur (.int (I (spr f N N))) hp) := by
  refine Sp_mk rfl (Nat.le_of_ble_eq_true rfl) ?_
  show wp g _ _ _ 0 0 0 [some (.ref h), some (.ref A), none, none, none, none] [] hp
  refine wp_iconst (pc := 0) dX10_sumOfPairs_0 ?_
  refine wp_istore_n (pc := 1) dX10_sumOfPairs_1 (by decide) ?_
  refine wp_iconst (pc := 2) dX10_sumOfPairs_2 ?_
  refine wp_istore_n (pc := 3) dX10_sumOfPairs_3 (by decide) ?_
  exact lp_Town_sumOfPairs hT hI ha (N + 1) 0 (by omega) (by omega)
end TX

