/-! Town -/
section TW
variable {g : GT} {hp hp2 : Hp} {h : Nat} {T : Nat → Int → Int} {p q a b n : Int}
/-- a Town's eight cells, one behind another: the arrays 0 .. 6 hold T 0 .. T 6, hour T 7 0, people T 8 0 -/
def TownAt (hp : Hp) (h : Nat) (T : Nat → Int → Int) : Prop :=
  hp.2 h = some (.inr (.inr (10, [.ref (h + 1), .ref (h + 2), .ref (h + 3), .ref (h + 4), .ref (h + 5), .ref (h + 6), .ref (h + 7), .int (I (T 7 0)), .int (I (T 8 0))]))) ∧
  hp.2 (h + 1) = some (.inl (.int, 36, T 0)) ∧ hp.2 (h + 2) = some (.inl (.int, 36, T 1)) ∧ hp.2 (h + 3) = some (.inl (.int, 6, T 2)) ∧ hp.2 (h + 4) = some (.inl (.int, 6, T 3)) ∧
  hp.2 (h + 5) = some (.inl (.int, 6, T 4)) ∧ hp.2 (h + 6) = some (.inl (.int, 6, T 5)) ∧ hp.2 (h + 7) = some (.inl (.int, 6, T 6))
theorem sp_Town_has (hT : TownAt hp h T) (rp : InR p) (rn : InR (T 8 0)) : Sp g MX10_has (rm 0 0 0) [.ref h, .int (I p)] hp (Pur (.int (B (0 ≤ p ∧ p < T 8 0))) hp) := by
  obtain ⟨t0, t1, t2, t3, t4, t5, t6, t7⟩ := hT
  refine Sp_mk rfl (Nat.le_of_ble_eq_true rfl) ?_
  show wp g _ _ _ 0 0 0 [some (.ref h), some (.int (I p))] [] hp
  refine wp_iload_n dX10_has_0 rfl ?_
  refine wp_if_lt 16 dX10_has_1 (by decide) (by omega) (fun c1 => ?_) (fun c1 => ?_)
  ·
    refine wp_iconst dX10_has_16 ?_
    first | exact wp_z1 dX10_has_17 rfl (by decide) (by decide) (by omega) rfl | exact wp_z0 dX10_has_17 rfl (by decide) (by decide) (by omega) rfl | exact wp_zb dX10_has_17 rfl (by decide) (by decide) Iff.rfl rfl
  ·
    refine wp_iload_n dX10_has_4 rfl ?_
    refine wp_aload_n dX10_has_5 rfl ?_
    refine wp_getf dX10_has_6 gf_X10_43 (by first | assumption | exact hset_eq | exact hset_at (by omega) (by first | assumption | exact hset_eq | exact hset_at (by omega) (by first | assumption | exact hset_eq | exact hset_at (by omega) (by first | assumption | exact hset_eq)))) (by rfl) ?_
    refine wp_icmp_ge 16 dX10_has_9 (by decide) (by omega) (by omega) (fun c9 => ?_) (fun c9 => ?_)
    ·
      refine wp_iconst dX10_has_16 ?_
      first | exact wp_z1 dX10_has_17 rfl (by decide) (by decide) (by omega) rfl | exact wp_z0 dX10_has_17 rfl (by decide) (by decide) (by omega) rfl | exact wp_zb dX10_has_17 rfl (by decide) (by decide) Iff.rfl rfl
    ·
      refine wp_iconst dX10_has_12 ?_
      refine wp_goto 17 dX10_has_13 (by decide) ?_
      first | exact wp_z1 dX10_has_17 rfl (by decide) (by decide) (by omega) rfl | exact wp_z0 dX10_has_17 rfl (by decide) (by decide) (by omega) rfl | exact wp_zb dX10_has_17 rfl (by decide) (by decide) Iff.rfl rfl
end TW

