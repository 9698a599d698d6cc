/-! Town -/
section TW
variable {g : GT} {hp hp2 : Hp} {h N L A : Nat} {T T' : Nat → Int → Int} {f : Int → Int} {p q a b n : Int} {s : Nat}
/-- a Town's eight cells, one behind another: the arrays 0 .. 6 hold T 0 .. T 6, hour T 7 0, people T 8 0 -/
def TownAt (hp : Hp) (h : Nat) (T : Nat → Int → Int) : Prop :=
  hp.2 h = some (.inr (.inr (10, [.ref (h + 1), .ref (h + 2), .ref (h + 3), .ref (h + 4), .ref (h + 5), .ref (h + 6), .ref (h + 7), .int (I (T 7 0)), .int (I (T 8 0))]))) ∧
  hp.2 (h + 1) = some (.inl (.int, 36, T 0)) ∧ hp.2 (h + 2) = some (.inl (.int, 36, T 1)) ∧ hp.2 (h + 3) = some (.inl (.int, 6, T 2)) ∧ hp.2 (h + 4) = some (.inl (.int, 6, T 3)) ∧
  hp.2 (h + 5) = some (.inl (.int, 6, T 4)) ∧ hp.2 (h + 6) = some (.inl (.int, 6, T 5)) ∧ hp.2 (h + 7) = some (.inl (.int, 6, T 6))
/-- a town's numbers are where they belong; N people -/
def TI (T : Nat → Int → Int) (N : Nat) : Prop := T 8 0 = (N : Int) ∧ N ≤ 6 ∧ (∀ i, 0 ≤ T 0 i ∧ T 0 i ≤ 9) ∧ (∀ i, 0 ≤ T 1 i ∧ T 1 i ≤ 99) ∧ (∀ i, 0 ≤ T 2 i ∧ T 2 i ≤ 99) ∧ (∀ i, 0 ≤ T 3 i ∧ T 3 i ≤ 9999) ∧ (∀ i, 0 ≤ T 4 i ∧ T 4 i ≤ 99) ∧ (∀ i, 0 ≤ T 5 i ∧ T 5 i ≤ 9) ∧ (∀ i, 0 ≤ T 6 i ∧ T 6 i < 64) ∧ 0 ≤ T 7 0 ∧ T 7 0 < 2000000000
def up (T : Nat → Int → Int) (k : Nat) (j v : Int) : Nat → Int → Int := fun x => if x = k then updI (T k) j v else T x
theorem TownAt.off (hT : TownAt hp h T) (hS : ∀ x, h ≤ x → x < h + 8 → hp2.2 x = hp.2 x) : TownAt hp2 h T := by
  obtain ⟨t0, t1, t2, t3, t4, t5, t6, t7⟩ := hT
  exact ⟨(hS _ (by omega) (by omega)).trans t0, (hS _ (by omega) (by omega)).trans t1, (hS _ (by omega) (by omega)).trans t2, (hS _ (by omega) (by omega)).trans t3, (hS _ (by omega) (by omega)).trans t4, (hS _ (by omega) (by omega)).trans t5, (hS _ (by omega) (by omega)).trans t6, (hS _ (by omega) (by omega)).trans t7⟩
theorem TownAt.fr (hT : TownAt hp h T) {lo hi : Nat} (hS : SO hp hp2 lo hi) (hd : hi ≤ h ∨ h + 8 ≤ lo) : TownAt hp2 h T := hT.off fun x _ _ => hS.2 x (by omega)
theorem TownAt.s0 (hT : TownAt hp h T) : TownAt (hset hp (h + 1) (.inl (.int, 36, updI (T 0) a b))) h (up T 0 a b) := by
  obtain ⟨t0, t1, t2, t3, t4, t5, t6, t7⟩ := hT
  exact ⟨hset_at (by omega) t0, hset_eq, hset_at (by omega) t2, hset_at (by omega) t3, hset_at (by omega) t4, hset_at (by omega) t5, hset_at (by omega) t6, hset_at (by omega) t7⟩
theorem TownAt.s1 (hT : TownAt hp h T) : TownAt (hset hp (h + 2) (.inl (.int, 36, updI (T 1) a b))) h (up T 1 a b) := by
  obtain ⟨t0, t1, t2, t3, t4, t5, t6, t7⟩ := hT
  exact ⟨hset_at (by omega) t0, hset_at (by omega) t1, hset_eq, hset_at (by omega) t3, hset_at (by omega) t4, hset_at (by omega) t5, hset_at (by omega) t6, hset_at (by omega) t7⟩
theorem TownAt.s2 (hT : TownAt hp h T) : TownAt (hset hp (h + 3) (.inl (.int, 6, updI (T 2) a b))) h (up T 2 a b) := by
  obtain ⟨t0, t1, t2, t3, t4, t5, t6, t7⟩ := hT
  exact ⟨hset_at (by omega) t0, hset_at (by omega) t1, hset_at (by omega) t2, hset_eq, hset_at (by omega) t4, hset_at (by omega) t5, hset_at (by omega) t6, hset_at (by omega) t7⟩
theorem TownAt.s3 (hT : TownAt hp h T) : TownAt (hset hp (h + 4) (.inl (.int, 6, updI (T 3) a b))) h (up T 3 a b) := by
  obtain ⟨t0, t1, t2, t3, t4, t5, t6, t7⟩ := hT
  exact ⟨hset_at (by omega) t0, hset_at (by omega) t1, hset_at (by omega) t2, hset_at (by omega) t3, hset_eq, hset_at (by omega) t5, hset_at (by omega) t6, hset_at (by omega) t7⟩
theorem TownAt.s4 (hT : TownAt hp h T) : TownAt (hset hp (h + 5) (.inl (.int, 6, updI (T 4) a b))) h (up T 4 a b) := by
  obtain ⟨t0, t1, t2, t3, t4, t5, t6, t7⟩ := hT
  exact ⟨hset_at (by omega) t0, hset_at (by omega) t1, hset_at (by omega) t2, hset_at (by omega) t3, hset_at (by omega) t4, hset_eq, hset_at (by omega) t6, hset_at (by omega) t7⟩
theorem TownAt.s5 (hT : TownAt hp h T) : TownAt (hset hp (h + 6) (.inl (.int, 6, updI (T 5) a b))) h (up T 5 a b) := by
  obtain ⟨t0, t1, t2, t3, t4, t5, t6, t7⟩ := hT
  exact ⟨hset_at (by omega) t0, hset_at (by omega) t1, hset_at (by omega) t2, hset_at (by omega) t3, hset_at (by omega) t4, hset_at (by omega) t5, hset_eq, hset_at (by omega) t7⟩
theorem TownAt.s6 (hT : TownAt hp h T) : TownAt (hset hp (h + 7) (.inl (.int, 6, updI (T 6) a b))) h (up T 6 a b) := by
  obtain ⟨t0, t1, t2, t3, t4, t5, t6, t7⟩ := hT
  exact ⟨hset_at (by omega) t0, hset_at (by omega) t1, hset_at (by omega) t2, hset_at (by omega) t3, hset_at (by omega) t4, hset_at (by omega) t5, hset_at (by omega) t6, hset_eq⟩
theorem sp_Town_has (hT : TownAt hp h T) (hI : TI T N) (rp : InR p) : Sp g MX10_has (rm 0 0 0) [.ref h, .int (I p)] hp (Pur (.int (B (0 ≤ p ∧ p < N))) hp) := by
  obtain ⟨i8, iN, i0, i1, i2, i3, i4, i5, i6, i7⟩ := hI
  have hT' := hT
  obtain ⟨t0, t1, t2, t3, t4, t5, t6, t7⟩ := hT
  refine Sp_mk rfl (Nat.le_of_ble_eq_true rfl) ?_
  show wp g _ _ _ 0 0 0 [some (.ref h), some (.int (I p))] [] hp
  refine wp_iload_n (pc := 0) dX10_has_0 rfl ?_
  refine wp_if_lt (pc := 1) 16 dX10_has_1 (by decide) (by omega) (fun c1 => ?_) (fun c1 => ?_)
  ·
    refine wp_iconst (pc := 16) dX10_has_16 ?_
    first | exact wp_z1 (pc := 17) dX10_has_17 rfl (by decide) (by decide) (by omega) rfl | exact wp_z0 (pc := 17) dX10_has_17 rfl (by decide) (by decide) (by omega) rfl | exact wp_zb (pc := 17) dX10_has_17 rfl (by decide) (by decide) Iff.rfl rfl
  ·
    refine wp_iload_n (pc := 4) dX10_has_4 rfl ?_
    refine wp_aload_n (pc := 5) dX10_has_5 rfl ?_
    refine wp_getf (pc := 6) dX10_has_6 gf_X10_43 (by repeat (first | assumption | exact hset_eq | refine hset_at (by omega) ?_)) (by rfl) ?_
    refine wp_icmp_ge (pc := 9) 16 dX10_has_9 (by decide) (by omega) (by omega) (fun c9 => ?_) (fun c9 => ?_)
    ·
      refine wp_iconst (pc := 16) dX10_has_16 ?_
      first | exact wp_z1 (pc := 17) dX10_has_17 rfl (by decide) (by decide) (by omega) rfl | exact wp_z0 (pc := 17) dX10_has_17 rfl (by decide) (by decide) (by omega) rfl | exact wp_zb (pc := 17) dX10_has_17 rfl (by decide) (by decide) Iff.rfl rfl
    ·
      refine wp_iconst (pc := 12) dX10_has_12 ?_
      refine wp_goto (pc := 13) 17 dX10_has_13 (by decide) ?_
      first | exact wp_z1 (pc := 17) dX10_has_17 rfl (by decide) (by decide) (by omega) rfl | exact wp_z0 (pc := 17) dX10_has_17 rfl (by decide) (by decide) (by omega) rfl | exact wp_zb (pc := 17) dX10_has_17 rfl (by decide) (by decide) Iff.rfl rfl
theorem sp_Town_hasTwo (hT : TownAt hp h T) (hI : TI T N) (rp : InR p) (rq : InR q) : Sp g MX10_hasTwo (rm 1 0 0) [.ref h, .int (I p), .int (I q)] hp (Pur (.int (B (0 ≤ p ∧ p < N ∧ 0 ≤ q ∧ q < N ∧ p ≠ q))) hp) := by
  have hT' := hT
  obtain ⟨t0, t1, t2, t3, t4, t5, t6, t7⟩ := hT
  refine Sp_mk rfl (Nat.le_of_ble_eq_true rfl) ?_
  show wp g _ _ _ 0 0 0 [some (.ref h), some (.int (I p)), some (.int (I q))] [] hp
  refine wp_aload_n (pc := 0) dX10_hasTwo_0 rfl ?_
  refine wp_iload_n (pc := 1) dX10_hasTwo_1 rfl ?_
  refine wp_Vp (pc := 2) dX10_hasTwo_2 cl_X10_46 (sp_Town_has (by first | assumption | omega) (by first | assumption | omega) (by first | assumption | omega)) rfl rfl (by repeat (first | assumption | exact hset_eq | refine hset_at (by omega) ?_)) (by rfl) (by decide) (Nat.le_of_ble_eq_true rfl) ?_
  first | refine wp_ifb_eq (pc := 5) 25 dX10_hasTwo_5 (by decide) (fun c5 => ?_) (fun c5 => ?_) | refine wp_if_eq (pc := 5) 25 dX10_hasTwo_5 (by decide) (by omega) (fun c5 => ?_) (fun c5 => ?_)
  ·
    refine wp_iconst (pc := 25) dX10_hasTwo_25 ?_
    first | exact wp_z1 (pc := 26) dX10_hasTwo_26 rfl (by decide) (by decide) (by omega) rfl | exact wp_z0 (pc := 26) dX10_hasTwo_26 rfl (by decide) (by decide) (by omega) rfl | exact wp_zb (pc := 26) dX10_hasTwo_26 rfl (by decide) (by decide) Iff.rfl rfl
  ·
    refine wp_aload_n (pc := 8) dX10_hasTwo_8 rfl ?_
    refine wp_iload_n (pc := 9) dX10_hasTwo_9 rfl ?_
    refine wp_Vp (pc := 10) dX10_hasTwo_10 cl_X10_46 (sp_Town_has (by first | assumption | omega) (by first | assumption | omega) (by first | assumption | omega)) rfl rfl (by repeat (first | assumption | exact hset_eq | refine hset_at (by omega) ?_)) (by rfl) (by decide) (Nat.le_of_ble_eq_true rfl) ?_
    first | refine wp_ifb_eq (pc := 13) 25 dX10_hasTwo_13 (by decide) (fun c13 => ?_) (fun c13 => ?_) | refine wp_if_eq (pc := 13) 25 dX10_hasTwo_13 (by decide) (by omega) (fun c13 => ?_) (fun c13 => ?_)
    ·
      refine wp_iconst (pc := 25) dX10_hasTwo_25 ?_
      first | exact wp_z1 (pc := 26) dX10_hasTwo_26 rfl (by decide) (by decide) (by omega) rfl | exact wp_z0 (pc := 26) dX10_hasTwo_26 rfl (by decide) (by decide) (by omega) rfl | exact wp_zb (pc := 26) dX10_hasTwo_26 rfl (by decide) (by decide) Iff.rfl rfl
    ·
      refine wp_iload_n (pc := 16) dX10_hasTwo_16 rfl ?_
      refine wp_iload_n (pc := 17) dX10_hasTwo_17 rfl ?_
      refine wp_icmp_eq (pc := 18) 25 dX10_hasTwo_18 (by decide) (by omega) (by omega) (fun c18 => ?_) (fun c18 => ?_)
      ·
        refine wp_iconst (pc := 25) dX10_hasTwo_25 ?_
        first | exact wp_z1 (pc := 26) dX10_hasTwo_26 rfl (by decide) (by decide) (by omega) rfl | exact wp_z0 (pc := 26) dX10_hasTwo_26 rfl (by decide) (by decide) (by omega) rfl | exact wp_zb (pc := 26) dX10_hasTwo_26 rfl (by decide) (by decide) Iff.rfl rfl
      ·
        refine wp_iconst (pc := 21) dX10_hasTwo_21 ?_
        refine wp_goto (pc := 22) 26 dX10_hasTwo_22 (by decide) ?_
        first | exact wp_z1 (pc := 26) dX10_hasTwo_26 rfl (by decide) (by decide) (by omega) rfl | exact wp_z0 (pc := 26) dX10_hasTwo_26 rfl (by decide) (by decide) (by omega) rfl | exact wp_zb (pc := 26) dX10_hasTwo_26 rfl (by decide) (by decide) Iff.rfl rfl
theorem sp_Town_lives (hT : TownAt hp h T) (hI : TI T N) (h0 : 0 ≤ p) (h6 : p < 6) : Sp g MX10_lives (rm 0 0 0) [.ref h, .int (I p)] hp (Pur (.int (B (T 5 p = 0))) hp) := by
  obtain ⟨i8, iN, i0, i1, i2, i3, i4, i5, i6, i7⟩ := hI
  obtain ⟨t0, t1, t2, t3, t4, t5, t6, t7⟩ := hT
  have := i5 p
  refine Sp_mk rfl (Nat.le_of_ble_eq_true rfl) ?_
  show wp g _ _ _ 0 0 0 [some (.ref h), some (.int (I p))] [] hp
  refine wp_aload_n (pc := 0) dX10_lives_0 rfl ?_
  refine wp_getf (pc := 1) dX10_lives_1 gf_X10_27 (by repeat (first | assumption | exact hset_eq | refine hset_at (by omega) ?_)) (by rfl) ?_
  refine wp_iload_n (pc := 4) dX10_lives_4 rfl ?_
  refine wp_iald (pc := 5) dX10_lives_5 (by repeat (first | assumption | exact hset_eq | refine hset_at (by omega) ?_)) (by omega) (by omega) (by decide) ?_
  first | refine wp_ifb_ne (pc := 6) 13 dX10_lives_6 (by decide) (fun c6 => ?_) (fun c6 => ?_) | refine wp_if_ne (pc := 6) 13 dX10_lives_6 (by decide) (by omega) (fun c6 => ?_) (fun c6 => ?_)
  ·
    refine wp_iconst (pc := 13) dX10_lives_13 ?_
    first | exact wp_z1 (pc := 14) dX10_lives_14 rfl (by decide) (by decide) (by omega) rfl | exact wp_z0 (pc := 14) dX10_lives_14 rfl (by decide) (by decide) (by omega) rfl | exact wp_zb (pc := 14) dX10_lives_14 rfl (by decide) (by decide) Iff.rfl rfl
  ·
    refine wp_iconst (pc := 9) dX10_lives_9 ?_
    refine wp_goto (pc := 10) 14 dX10_lives_10 (by decide) ?_
    first | exact wp_z1 (pc := 14) dX10_lives_14 rfl (by decide) (by decide) (by omega) rfl | exact wp_z0 (pc := 14) dX10_lives_14 rfl (by decide) (by decide) (by omega) rfl | exact wp_zb (pc := 14) dX10_lives_14 rfl (by decide) (by decide) Iff.rfl rfl
def lv (T : Nat → Int → Int) : Nat → Bool := fun i => decide (T 5 (i : Int) = 0)
theorem lp_Town_livingSet (hT : TownAt hp h T) (hI : TI T N) : ∀ (m i : Nat), N < i + m → i ≤ N → wp g MX10_livingSet (rm 1 0 0) (Pur (.int (I (bits (lv T) N : Nat))) hp) 0 0 4 [some (.ref h), some (.int (I (bits (lv T) i : Nat))), some (.int (I (i : Int)))] [] hp := by
  intro m
  induction m with
  | zero => intro i h1 h2; exact absurd h1 (by omega)
  | succ m ih =>
    intro i h1 h2
    have hI' := hI
    obtain ⟨i8, iN, i0, i1, i2, i3, i4, i5, i6, i7⟩ := hI
    have hT' := hT
    obtain ⟨t0, t1, t2, t3, t4, t5, t6, t7⟩ := hT
    refine wp_iload_n (pc := 4) dX10_livingSet_4 rfl ?_
    refine wp_aload_n (pc := 5) dX10_livingSet_5 rfl ?_
    refine wp_getf (pc := 6) dX10_livingSet_6 gf_X10_43 (by repeat (first | assumption | exact hset_eq | refine hset_at (by omega) ?_)) (by rfl) ?_
    refine wp_icmp_ge (pc := 9) 32 dX10_livingSet_9 (by decide) (by omega) (by omega) (fun c9 => ?_) (fun c9 => ?_)
    ·
      have e : i = N := by omega
      subst e -- go
      refine wp_iload_n (pc := 32) dX10_livingSet_32 rfl ?_
      exact wp_ir (pc := 33) dX10_livingSet_33 rfl (by decide) (by decide) (by first | rfl | omega) rfl
    ·
      refine wp_aload_n (pc := 12) dX10_livingSet_12 rfl ?_
      refine wp_iload_n (pc := 13) dX10_livingSet_13 rfl ?_
      refine wp_Vp (pc := 14) dX10_livingSet_14 cl_X10_50 (sp_Town_lives (by first | assumption | omega) (by first | assumption | omega) (by first | assumption | omega) (by first | assumption | omega)) rfl rfl (by repeat (first | assumption | exact hset_eq | refine hset_at (by omega) ?_)) (by rfl) (by decide) (Nat.le_of_ble_eq_true rfl) ?_
      first | refine wp_ifb_eq (pc := 17) 26 dX10_livingSet_17 (by decide) (fun c17 => ?_) (fun c17 => ?_) | refine wp_if_eq (pc := 17) 26 dX10_livingSet_17 (by decide) (by omega) (fun c17 => ?_) (fun c17 => ?_)
      ·
        have e : bits (lv T) (i + 1) = bits (lv T) i := by show _ ||| _ = _; rw [if_neg (by simp [lv, c17]), Nat.or_zero]
        rw [← e] -- go
        refine wp_iinc (pc := 26) dX10_livingSet_26 rfl (by decide) ?_
        refine wp_goto (pc := 29) 4 dX10_livingSet_29 (by decide) ?_
        refine wp_ls ?_ (ih (i + 1) (by omega) (by omega))
        · repeat' (first | exact LE_0 | refine LE_s rfl ?_ | refine LE_s (I_c (by first | omega | (simp only [sm]; omega))) ?_ | refine LE_s (J_c (by first | omega | exact Int.pow_succ _ _ | exact (Int.pow_succ _ _).symm | (simp only [sm]; omega))) ?_ | refine LE_n ?_)
      ·
        have e : bits (lv T) (i + 1) = bits (lv T) i ||| 2 ^ i := by show _ ||| _ = _; rw [if_pos (by simp [lv, c17])]
        skip -- go
        refine wp_iload_n (pc := 20) dX10_livingSet_20 rfl ?_
        refine wp_iconst (pc := 21) dX10_livingSet_21 ?_
        refine wp_iload_n (pc := 22) dX10_livingSet_22 rfl ?_
        refine wp_ishl (pc := 23) dX10_livingSet_23 (I_shl (by omega)) ?_
        refine wp_ior (pc := 24) dX10_livingSet_24 I_or ?_
        rw [← e]
        refine wp_istore_n (pc := 25) dX10_livingSet_25 (by decide) ?_
        refine wp_iinc (pc := 26) dX10_livingSet_26 rfl (by decide) ?_
        refine wp_goto (pc := 29) 4 dX10_livingSet_29 (by decide) ?_
        refine wp_ls ?_ (ih (i + 1) (by omega) (by omega))
        · repeat' (first | exact LE_0 | refine LE_s rfl ?_ | refine LE_s (I_c (by first | omega | (simp only [sm]; omega))) ?_ | refine LE_s (J_c (by first | omega | exact Int.pow_succ _ _ | exact (Int.pow_succ _ _).symm | (simp only [sm]; omega))) ?_ | refine LE_n ?_)
theorem sp_Town_livingSet (hT : TownAt hp h T) (hI : TI T N) : Sp g MX10_livingSet (rm 1 0 0) [.ref h] hp (Pur (.int (I (bits (lv T) N : Nat))) hp) := by
  refine Sp_mk rfl (Nat.le_of_ble_eq_true rfl) ?_
  show wp g _ _ _ 0 0 0 [some (.ref h), none, none] [] hp
  refine wp_iconst (pc := 0) dX10_livingSet_0 ?_
  refine wp_istore_n (pc := 1) dX10_livingSet_1 (by decide) ?_
  refine wp_iconst (pc := 2) dX10_livingSet_2 ?_
  refine wp_istore_n (pc := 3) dX10_livingSet_3 (by decide) ?_
  exact lp_Town_livingSet hT hI (N + 1) 0 (by omega) (by omega)
end TW

