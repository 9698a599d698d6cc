/-! small static methods -/
section SS
variable {g : GT} {hp hp2 : Hp} {h : Nat} {p q a b n : Int} {k s v : Nat}
theorem sp_D_pair  : Sp g MX11_pair (rm 0 0 0) [.int (I a), .int (I b)] hp (Pur (.int (I (a * 6 + b))) hp) := by
  refine Sp_mk rfl (Nat.le_of_ble_eq_true rfl) ?_
  show wp g _ _ _ 0 0 0 [some (.int (I a)), some (.int (I b))] [] hp
  refine wp_iload_n (pc := 0) dX11_pair_0 rfl ?_
  refine wp_bipush (pc := 1) (y := 6) dX11_pair_1 (by decide) ?_
  refine wp_imul (pc := 3) dX11_pair_3 ?_
  refine wp_iload_n (pc := 4) dX11_pair_4 rfl ?_
  refine wp_iadd (pc := 5) dX11_pair_5 ?_
  exact wp_ir (pc := 6) dX11_pair_6 rfl (by decide) (by decide) (by first | rfl | omega) rfl
theorem I_bit2 {a k : Nat} : I ((a >>> k : Nat) : Int) &&& I 1 = I ((if a.testBit k then 1 else 0 : Nat) : Int) := by
  rw [show I 1 = I ((1 : Nat) : Int) from rfl, I_and]
  congr 2
  rw [Nat.and_one_is_mod, Nat.testBit_eq_decide_div_mod_eq, Nat.shiftRight_eq_div_pow]
  by_cases e : a / 2 ^ k % 2 = 1
  · simp [e]
  · simp [show a / 2 ^ k % 2 = 0 by omega]
theorem sp_D_isIn (hs : s < 2147483648) (hk : k < 31) : Sp g MX11_isIn (rm 0 0 0) [.int (I (k : Int)), .int (I (s : Int))] hp (Pur (.int (B (s.testBit k = true))) hp) := by
  refine Sp_mk rfl (Nat.le_of_ble_eq_true rfl) ?_
  show wp g _ _ _ 0 0 0 [some (.int (I (k : Int))), some (.int (I (s : Int)))] [] hp
  refine wp_iload_n (pc := 0) dX11_isIn_0 rfl ?_
  refine wp_iload_n (pc := 1) dX11_isIn_1 rfl ?_
  refine wp_ishr (pc := 2) dX11_isIn_2 (I_shr (by omega) hk) ?_
  refine wp_iconst (pc := 3) dX11_isIn_3 ?_
  refine wp_iand (pc := 4) dX11_isIn_4 I_bit2 ?_
  refine wp_iconst (pc := 5) dX11_isIn_5 ?_
  refine wp_icmp_ne (pc := 6) 13 dX11_isIn_6 (by decide) (by first | omega | (split <;> omega)) (by first | omega | (split <;> omega)) (fun c6 => ?_) (fun c6 => ?_)
  ·
    have hz : ¬ s.testBit k = true := fun z => c6 (by rw [if_pos z]; rfl)
    refine wp_iconst (pc := 13) dX11_isIn_13 ?_
    first | exact wp_z1 (pc := 14) dX11_isIn_14 rfl (by decide) (by decide) hz rfl | exact wp_z0 (pc := 14) dX11_isIn_14 rfl (by decide) (by decide) hz rfl | exact wp_zb (pc := 14) dX11_isIn_14 rfl (by decide) (by decide) Iff.rfl rfl
  ·
    have hz : s.testBit k = true := Classical.byContradiction fun z => by rw [if_neg z] at c6; exact absurd c6 (by decide)
    refine wp_iconst (pc := 9) dX11_isIn_9 ?_
    refine wp_goto (pc := 10) 14 dX11_isIn_10 (by decide) ?_
    first | exact wp_z1 (pc := 14) dX11_isIn_14 rfl (by decide) (by decide) hz rfl | exact wp_z0 (pc := 14) dX11_isIn_14 rfl (by decide) (by decide) hz rfl | exact wp_zb (pc := 14) dX11_isIn_14 rfl (by decide) (by decide) Iff.rfl rfl
theorem sp_D_isDigit (ra : InR a) : Sp g MX11_isDigit (rm 0 0 0) [.int (I a)] hp (Pur (.int (B (48 ≤ a ∧ a ≤ 57))) hp) := by
  refine Sp_mk rfl (Nat.le_of_ble_eq_true rfl) ?_
  show wp g _ _ _ 0 0 0 [some (.int (I a))] [] hp
  refine wp_iload_n (pc := 0) dX11_isDigit_0 rfl ?_
  refine wp_bipush (pc := 1) (y := 48) dX11_isDigit_1 (by decide) ?_
  refine wp_icmp_lt (pc := 3) 16 dX11_isDigit_3 (by decide) (by omega) (by omega) (fun c3 => ?_) (fun c3 => ?_)
  ·
    refine wp_iconst (pc := 16) dX11_isDigit_16 ?_
    first | exact wp_z1 (pc := 17) dX11_isDigit_17 rfl (by decide) (by decide) (by omega) rfl | exact wp_z0 (pc := 17) dX11_isDigit_17 rfl (by decide) (by decide) (by omega) rfl | exact wp_zb (pc := 17) dX11_isDigit_17 rfl (by decide) (by decide) Iff.rfl rfl
  ·
    refine wp_iload_n (pc := 6) dX11_isDigit_6 rfl ?_
    refine wp_bipush (pc := 7) (y := 57) dX11_isDigit_7 (by decide) ?_
    refine wp_icmp_gt (pc := 9) 16 dX11_isDigit_9 (by decide) (by omega) (by omega) (fun c9 => ?_) (fun c9 => ?_)
    ·
      refine wp_iconst (pc := 16) dX11_isDigit_16 ?_
      first | exact wp_z1 (pc := 17) dX11_isDigit_17 rfl (by decide) (by decide) (by omega) rfl | exact wp_z0 (pc := 17) dX11_isDigit_17 rfl (by decide) (by decide) (by omega) rfl | exact wp_zb (pc := 17) dX11_isDigit_17 rfl (by decide) (by decide) Iff.rfl rfl
    ·
      refine wp_iconst (pc := 12) dX11_isDigit_12 ?_
      refine wp_goto (pc := 13) 17 dX11_isDigit_13 (by decide) ?_
      first | exact wp_z1 (pc := 17) dX11_isDigit_17 rfl (by decide) (by decide) (by omega) rfl | exact wp_z0 (pc := 17) dX11_isDigit_17 rfl (by decide) (by decide) (by omega) rfl | exact wp_zb (pc := 17) dX11_isDigit_17 rfl (by decide) (by decide) Iff.rfl rfl
theorem sp_D_within (ra : InR a) (rb : InR b) : Sp g MX11_within (rm 1 0 0) [.int (I a), .int (I b)] hp (Pur (.int (I (mx 0 (mi b a)))) hp) := by
  have rm1 : InR (mi b a) := by unfold mi; split <;> omega
  refine Sp_mk rfl (Nat.le_of_ble_eq_true rfl) ?_
  show wp g _ _ _ 0 0 0 [some (.int (I a)), some (.int (I b))] [] hp
  refine wp_iconst (pc := 0) dX11_within_0 ?_
  refine wp_iload_n (pc := 1) dX11_within_1 rfl ?_
  refine wp_iload_n (pc := 2) dX11_within_2 rfl ?_
  refine wp_min (pc := 3) dX11_within_3 ml_X11_385 ma_min_s ma_ini ma_min_c (by decide) (by decide) (by decide) (by decide) (Nat.le_of_ble_eq_true rfl) (by omega) (by omega) ?_
  refine wp_max (pc := 6) dX11_within_6 ml_X11_325 ma_max_s ma_ini ma_max_c (by decide) (by decide) (by decide) (by decide) (Nat.le_of_ble_eq_true rfl) (by omega) (by omega) ?_
  exact wp_ir (pc := 9) dX11_within_9 rfl (by decide) (by decide) (by first | rfl | omega) rfl
theorem sp_D_isAhead (ra : InR a) : Sp g MX11_isAhead (rm 0 0 0) [.int (I a)] hp (Pur (.int (B (0 ≤ a ∧ a ≤ 99))) hp) := by
  refine Sp_mk rfl (Nat.le_of_ble_eq_true rfl) ?_
  show wp g _ _ _ 0 0 0 [some (.int (I a))] [] hp
  refine wp_iload_n (pc := 0) dX11_isAhead_0 rfl ?_
  refine wp_if_lt (pc := 1) 14 dX11_isAhead_1 (by decide) (by omega) (fun c1 => ?_) (fun c1 => ?_)
  ·
    refine wp_iconst (pc := 14) dX11_isAhead_14 ?_
    first | exact wp_z1 (pc := 15) dX11_isAhead_15 rfl (by decide) (by decide) (by omega) rfl | exact wp_z0 (pc := 15) dX11_isAhead_15 rfl (by decide) (by decide) (by omega) rfl | exact wp_zb (pc := 15) dX11_isAhead_15 rfl (by decide) (by decide) Iff.rfl rfl
  ·
    refine wp_iload_n (pc := 4) dX11_isAhead_4 rfl ?_
    refine wp_bipush (pc := 5) (y := 99) dX11_isAhead_5 (by decide) ?_
    refine wp_icmp_gt (pc := 7) 14 dX11_isAhead_7 (by decide) (by omega) (by omega) (fun c7 => ?_) (fun c7 => ?_)
    ·
      refine wp_iconst (pc := 14) dX11_isAhead_14 ?_
      first | exact wp_z1 (pc := 15) dX11_isAhead_15 rfl (by decide) (by decide) (by omega) rfl | exact wp_z0 (pc := 15) dX11_isAhead_15 rfl (by decide) (by decide) (by omega) rfl | exact wp_zb (pc := 15) dX11_isAhead_15 rfl (by decide) (by decide) Iff.rfl rfl
    ·
      refine wp_iconst (pc := 10) dX11_isAhead_10 ?_
      refine wp_goto (pc := 11) 15 dX11_isAhead_11 (by decide) ?_
      first | exact wp_z1 (pc := 15) dX11_isAhead_15 rfl (by decide) (by decide) (by omega) rfl | exact wp_z0 (pc := 15) dX11_isAhead_15 rfl (by decide) (by decide) (by omega) rfl | exact wp_zb (pc := 15) dX11_isAhead_15 rfl (by decide) (by decide) Iff.rfl rfl
theorem sp_D_isDeath (ra : InR a) : Sp g MX11_isDeath (rm 0 0 0) [.int (I a)] hp (Pur (.int (B (1 ≤ a ∧ a ≤ 9))) hp) := by
  refine Sp_mk rfl (Nat.le_of_ble_eq_true rfl) ?_
  show wp g _ _ _ 0 0 0 [some (.int (I a))] [] hp
  refine wp_iload_n (pc := 0) dX11_isDeath_0 rfl ?_
  refine wp_iconst (pc := 1) dX11_isDeath_1 ?_
  refine wp_icmp_lt (pc := 2) 15 dX11_isDeath_2 (by decide) (by omega) (by omega) (fun c2 => ?_) (fun c2 => ?_)
  ·
    refine wp_iconst (pc := 15) dX11_isDeath_15 ?_
    first | exact wp_z1 (pc := 16) dX11_isDeath_16 rfl (by decide) (by decide) (by omega) rfl | exact wp_z0 (pc := 16) dX11_isDeath_16 rfl (by decide) (by decide) (by omega) rfl | exact wp_zb (pc := 16) dX11_isDeath_16 rfl (by decide) (by decide) Iff.rfl rfl
  ·
    refine wp_iload_n (pc := 5) dX11_isDeath_5 rfl ?_
    refine wp_bipush (pc := 6) (y := 9) dX11_isDeath_6 (by decide) ?_
    refine wp_icmp_gt (pc := 8) 15 dX11_isDeath_8 (by decide) (by omega) (by omega) (fun c8 => ?_) (fun c8 => ?_)
    ·
      refine wp_iconst (pc := 15) dX11_isDeath_15 ?_
      first | exact wp_z1 (pc := 16) dX11_isDeath_16 rfl (by decide) (by decide) (by omega) rfl | exact wp_z0 (pc := 16) dX11_isDeath_16 rfl (by decide) (by decide) (by omega) rfl | exact wp_zb (pc := 16) dX11_isDeath_16 rfl (by decide) (by decide) Iff.rfl rfl
    ·
      refine wp_iconst (pc := 11) dX11_isDeath_11 ?_
      refine wp_goto (pc := 12) 16 dX11_isDeath_12 (by decide) ?_
      first | exact wp_z1 (pc := 16) dX11_isDeath_16 rfl (by decide) (by decide) (by omega) rfl | exact wp_z0 (pc := 16) dX11_isDeath_16 rfl (by decide) (by decide) (by omega) rfl | exact wp_zb (pc := 16) dX11_isDeath_16 rfl (by decide) (by decide) Iff.rfl rfl
def cmp (a b : Int) : Int := if a < b then -1 else if a = b then 0 else 1
theorem sp_Integer_compare (ra : InR a) (rb : InR b) : Sp g MJ6_compare_7cf53 (rm 0 0 0) [.int (I a), .int (I b)] hp (Pur (.int (I (cmp a b))) hp) := by
  refine Sp_mk rfl (Nat.le_of_ble_eq_true rfl) ?_
  show wp g _ _ _ 0 0 0 [some (.int (I a)), some (.int (I b))] [] hp
  refine wp_iload_n (pc := 0) dJ6_compare_7cf53_0 rfl ?_
  refine wp_iload_n (pc := 1) dJ6_compare_7cf53_1 rfl ?_
  refine wp_icmp_ge (pc := 2) 9 dJ6_compare_7cf53_2 (by decide) (by omega) (by omega) (fun c2 => ?_) (fun c2 => ?_)
  ·
    refine wp_iload_n (pc := 9) dJ6_compare_7cf53_9 rfl ?_
    refine wp_iload_n (pc := 10) dJ6_compare_7cf53_10 rfl ?_
    refine wp_icmp_ne (pc := 11) 18 dJ6_compare_7cf53_11 (by decide) (by omega) (by omega) (fun c11 => ?_) (fun c11 => ?_)
    ·
      refine wp_iconst (pc := 18) dJ6_compare_7cf53_18 ?_
      exact wp_ir (pc := 19) dJ6_compare_7cf53_19 rfl (by decide) (by decide) (by unfold cmp; repeat' split <;> omega) rfl
    ·
      refine wp_iconst (pc := 14) dJ6_compare_7cf53_14 ?_
      refine wp_goto (pc := 15) 19 dJ6_compare_7cf53_15 (by decide) ?_
      exact wp_ir (pc := 19) dJ6_compare_7cf53_19 rfl (by decide) (by decide) (by unfold cmp; repeat' split <;> omega) rfl
  ·
    refine wp_iconst (pc := 5) dJ6_compare_7cf53_5 ?_
    refine wp_goto (pc := 6) 19 dJ6_compare_7cf53_6 (by decide) ?_
    exact wp_ir (pc := 19) dJ6_compare_7cf53_19 rfl (by decide) (by decide) (by unfold cmp; repeat' split <;> omega) rfl
theorem sp_Integer_bitCount (hv : v < 64) : Sp g MJ6_bitCount_0f7a4 (rm 0 0 0) [.int (I (v : Int))] hp (Pur (.int (I ((popc v : Nat) : Int))) hp) := by
  refine Sp_mk rfl (Nat.le_of_ble_eq_true rfl) ?_
  show wp g _ _ _ 0 0 0 [some (.int (I (v : Int)))] [] hp
  refine wp_iload_n (pc := 0) dJ6_bitCount_0f7a4_0 rfl ?_
  refine wp_iload_n (pc := 1) dJ6_bitCount_0f7a4_1 rfl ?_
  refine wp_iconst (pc := 2) dJ6_bitCount_0f7a4_2 ?_
  refine wp_iushr (pc := 3) dJ6_bitCount_0f7a4_3 (I_of _) ?_
  refine wp_ldcw (pc := 4) dJ6_bitCount_0f7a4_4 kc_J6_265 ?_
  refine wp_iand (pc := 7) dJ6_bitCount_0f7a4_7 (I_of _) ?_
  refine wp_isub (pc := 8) dJ6_bitCount_0f7a4_8 ?_
  refine wp_istore_n (pc := 9) dJ6_bitCount_0f7a4_9 (by decide) ?_
  refine wp_iload_n (pc := 10) dJ6_bitCount_0f7a4_10 rfl ?_
  refine wp_ldcw (pc := 11) dJ6_bitCount_0f7a4_11 kc_J6_266 ?_
  refine wp_iand (pc := 14) dJ6_bitCount_0f7a4_14 (I_of _) ?_
  refine wp_iload_n (pc := 15) dJ6_bitCount_0f7a4_15 rfl ?_
  refine wp_iconst (pc := 16) dJ6_bitCount_0f7a4_16 ?_
  refine wp_iushr (pc := 17) dJ6_bitCount_0f7a4_17 (I_of _) ?_
  refine wp_ldcw (pc := 18) dJ6_bitCount_0f7a4_18 kc_J6_266 ?_
  refine wp_iand (pc := 21) dJ6_bitCount_0f7a4_21 (I_of _) ?_
  refine wp_iadd (pc := 22) dJ6_bitCount_0f7a4_22 ?_
  refine wp_istore_n (pc := 23) dJ6_bitCount_0f7a4_23 (by decide) ?_
  refine wp_iload_n (pc := 24) dJ6_bitCount_0f7a4_24 rfl ?_
  refine wp_iload_n (pc := 25) dJ6_bitCount_0f7a4_25 rfl ?_
  refine wp_iconst (pc := 26) dJ6_bitCount_0f7a4_26 ?_
  refine wp_iushr (pc := 27) dJ6_bitCount_0f7a4_27 (I_of _) ?_
  refine wp_iadd (pc := 28) dJ6_bitCount_0f7a4_28 ?_
  refine wp_ldcw (pc := 29) dJ6_bitCount_0f7a4_29 kc_J6_267 ?_
  refine wp_iand (pc := 32) dJ6_bitCount_0f7a4_32 (I_of _) ?_
  refine wp_istore_n (pc := 33) dJ6_bitCount_0f7a4_33 (by decide) ?_
  refine wp_iload_n (pc := 34) dJ6_bitCount_0f7a4_34 rfl ?_
  refine wp_iload_n (pc := 35) dJ6_bitCount_0f7a4_35 rfl ?_
  refine wp_bipush (pc := 36) (y := 8) dJ6_bitCount_0f7a4_36 (by decide) ?_
  refine wp_iushr (pc := 38) dJ6_bitCount_0f7a4_38 (I_of _) ?_
  refine wp_iadd (pc := 39) dJ6_bitCount_0f7a4_39 ?_
  refine wp_istore_n (pc := 40) dJ6_bitCount_0f7a4_40 (by decide) ?_
  refine wp_iload_n (pc := 41) dJ6_bitCount_0f7a4_41 rfl ?_
  refine wp_iload_n (pc := 42) dJ6_bitCount_0f7a4_42 rfl ?_
  refine wp_bipush (pc := 43) (y := 16) dJ6_bitCount_0f7a4_43 (by decide) ?_
  refine wp_iushr (pc := 45) dJ6_bitCount_0f7a4_45 (I_of _) ?_
  refine wp_iadd (pc := 46) dJ6_bitCount_0f7a4_46 ?_
  refine wp_istore_n (pc := 47) dJ6_bitCount_0f7a4_47 (by decide) ?_
  refine wp_iload_n (pc := 48) dJ6_bitCount_0f7a4_48 rfl ?_
  refine wp_bipush (pc := 49) (y := 63) dJ6_bitCount_0f7a4_49 (by decide) ?_
  refine wp_iand (pc := 51) dJ6_bitCount_0f7a4_51 (I_of _) ?_
  exact wp_ir (pc := 52) dJ6_bitCount_0f7a4_52 rfl (by decide) (by decide) (by revert hv; revert v; decide +kernel) rfl
end SS

