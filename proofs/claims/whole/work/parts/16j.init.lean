/-! the reference, made -/
section MRa
variable {g : GT} {hp hp2 hp3 : Hp} {q b : Nat}
theorem wp_gen {M : MI} {R : Room} {Q : Option Value → Hp → Prop} {k n pc : Nat} {ls : List (Option Value)} {st : List Value} (h : ∀ hp', hp' = hp → wp g M R Q k n pc ls st hp') : wp g M R Q k n pc ls st hp := h hp rfl
theorem all24 {P : Nat → Prop} (g1 : P 1) (g2 : P 2) (g3 : P 3) (g4 : P 4) (g5 : P 5) (g6 : P 6) (g7 : P 7) (g8 : P 8) (g9 : P 9) (g10 : P 10) (g11 : P 11) (g12 : P 12) (g13 : P 13) (g14 : P 14) (g15 : P 15) (g16 : P 16) (g17 : P 17) (g18 : P 18) (g19 : P 19) (g20 : P 20) (g21 : P 21) (g22 : P 22) (g23 : P 23) (g24 : P 24) : ∀ j : Nat, 1 ≤ j → j ≤ 24 → P j := by
  intro j a b
  have hj : j = 1 ∨ j = 2 ∨ j = 3 ∨ j = 4 ∨ j = 5 ∨ j = 6 ∨ j = 7 ∨ j = 8 ∨ j = 9 ∨ j = 10 ∨ j = 11 ∨ j = 12 ∨ j = 13 ∨ j = 14 ∨ j = 15 ∨ j = 16 ∨ j = 17 ∨ j = 18 ∨ j = 19 ∨ j = 20 ∨ j = 21 ∨ j = 22 ∨ j = 23 ∨ j = 24 := by omega
  rcases hj with rfl | rfl | rfl | rfl | rfl | rfl | rfl | rfl | rfl | rfl | rfl | rfl | rfl | rfl | rfl | rfl | rfl | rfl | rfl | rfl | rfl | rfl | rfl | rfl <;> assumption
theorem sp_Ref_init (e0 : hp.1 + 4 = q + 1) (o0 : hp.2 q = some (.inr (.inr (12, [.null, .int (I 0), .null, .int (I 0), .null, .int (I 0), .int (I 0), .null, .int (I 0), .int (I 0), .int (I 0), .int (I 0), .null, .null, .null, .int (I 0), .int (I 0), .null, .null, .int (I 0), .null, .null, .null, .null, .null, .null, .null, .null, .int (I 0), .null, .null, .null, .int (I 0), .null, .null, .int (I 0), .int (I 0), .null, .null, .null])))) : Sp g MX12_init (rm 1 24 3314) [.ref q] hp (Vod (fun hp2 => ModAt hp2 q (fun _ => 0) (fun _ _ => 0) .null (.ref (q + 5)) ∧ NO hp hp2 q 24)) := by
  have n0 : NO hp hp q 0 := ⟨rfl, fun x hx => rfl⟩
  refine Sp_mk rfl (Nat.le_of_ble_eq_true rfl) ?_
  show wp g _ _ _ 0 0 0 [some (.ref q)] [] hp
  refine wp_aload_n (pc := 0) dX12_init_0 rfl ?_
  refine wp_obj (pc := 1) dX12_init_1 ol_X12_3 oi_inst oi_code (by decide) (by decide) (Nat.le_of_ble_eq_true rfl) ?_
  refine wp_aload_n (pc := 4) dX12_init_4 rfl ?_
  refine wp_bipush (pc := 5) (y := 103) dX12_init_5 (by decide) ?_
  refine wp_nwa (pc := 7) (b := q + 1) dX12_init_7 e0 rfl rfl (by decide) rfl (by decide) ar_int (by decide) (by decide) ?_
  refine wp_putf (pc := 9) dX12_init_9 pf_X12_9 (hnw_at (by omega) o0) (by first | decide | exact Nat.lt_of_sub_pos (by decide) | simp) rfl rfl (by first | decide | intro h; cases h) ?_
  refine wp_gen (fun hp1x hh => ?_)
  have o1 : hp1x.2 q = some (.inr (.inr (12, [.ref (q + 1), .int (I 0), .null, .int (I 0), .null, .int (I 0), .int (I 0), .null, .int (I 0), .int (I 0), .int (I 0), .int (I 0), .null, .null, .null, .int (I 0), .int (I 0), .null, .null, .int (I 0), .null, .null, .null, .null, .null, .null, .null, .null, .int (I 0), .null, .null, .null, .int (I 0), .null, .null, .int (I 0), .int (I 0), .null, .null, .null]))) := by rw [hh]; exact hset_eq
  have e1 : hp1x.1 + 4 = q + 2 := by rw [hh]; show hp.1 + 1 + 4 = _; omega
  have a1 : hp1x.2 (q + 1) = some (.inl (.int, 103, fun _ => 0)) := by rw [hh]; exact hset_at (by omega) hnw_eq
  have n1 : NO hp hp1x q 1 := ⟨by rw [hh]; show hp.1 + 1 = _; have := n0.1; omega, fun x hx => by rw [hh]; exact (hset_ne (by omega)).trans ((hnw_ne (by omega)).trans (n0.2 x hx))⟩
  clear hh o0 e0 n0
  refine wp_aload_n (pc := 12) dX12_init_12 rfl ?_
  refine wp_bipush (pc := 13) (y := 80) dX12_init_13 (by decide) ?_
  refine wp_nwa (pc := 15) (b := q + 2) dX12_init_15 e1 rfl rfl (by decide) rfl (by decide) ar_byte (by decide) (by decide) ?_
  refine wp_putf (pc := 17) dX12_init_17 pf_X12_13 (hnw_at (by omega) o1) (by first | decide | exact Nat.lt_of_sub_pos (by decide) | simp) rfl rfl (by first | decide | intro h; cases h) ?_
  refine wp_gen (fun hp2x hh => ?_)
  have o2 : hp2x.2 q = some (.inr (.inr (12, [.ref (q + 1), .int (I 0), .ref (q + 2), .int (I 0), .null, .int (I 0), .int (I 0), .null, .int (I 0), .int (I 0), .int (I 0), .int (I 0), .null, .null, .null, .int (I 0), .int (I 0), .null, .null, .int (I 0), .null, .null, .null, .null, .null, .null, .null, .null, .int (I 0), .null, .null, .null, .int (I 0), .null, .null, .int (I 0), .int (I 0), .null, .null, .null]))) := by rw [hh]; exact hset_eq
  have e2 : hp2x.1 + 4 = q + 3 := by rw [hh]; show hp1x.1 + 1 + 4 = _; omega
  replace a1 : hp2x.2 (q + 1) = some (.inl (.int, 103, fun _ => 0)) := by rw [hh]; exact hset_at (by omega) (hnw_at (by omega) a1)
  have a2 : hp2x.2 (q + 2) = some (.inl (.byte, 80, fun _ => 0)) := by rw [hh]; exact hset_at (by omega) hnw_eq
  have n2 : NO hp hp2x q 2 := ⟨by rw [hh]; show hp1x.1 + 1 = _; have := n1.1; omega, fun x hx => by rw [hh]; exact (hset_ne (by omega)).trans ((hnw_ne (by omega)).trans (n1.2 x hx))⟩
  clear hh o1 e1 n1
  refine wp_aload_n (pc := 20) dX12_init_20 rfl ?_
  refine wp_bipush (pc := 21) (y := 16) dX12_init_21 (by decide) ?_
  refine wp_nwa (pc := 23) (b := q + 3) dX12_init_23 e2 rfl rfl (by decide) rfl (by decide) ar_long (by decide) (by decide) ?_
  refine wp_putf (pc := 25) dX12_init_25 pf_X12_17 (hnw_at (by omega) o2) (by first | decide | exact Nat.lt_of_sub_pos (by decide) | simp) rfl rfl (by first | decide | intro h; cases h) ?_
  refine wp_gen (fun hp3x hh => ?_)
  have o3 : hp3x.2 q = some (.inr (.inr (12, [.ref (q + 1), .int (I 0), .ref (q + 2), .int (I 0), .ref (q + 3), .int (I 0), .int (I 0), .null, .int (I 0), .int (I 0), .int (I 0), .int (I 0), .null, .null, .null, .int (I 0), .int (I 0), .null, .null, .int (I 0), .null, .null, .null, .null, .null, .null, .null, .null, .int (I 0), .null, .null, .null, .int (I 0), .null, .null, .int (I 0), .int (I 0), .null, .null, .null]))) := by rw [hh]; exact hset_eq
  have e3 : hp3x.1 + 4 = q + 4 := by rw [hh]; show hp2x.1 + 1 + 4 = _; omega
  replace a1 : hp3x.2 (q + 1) = some (.inl (.int, 103, fun _ => 0)) := by rw [hh]; exact hset_at (by omega) (hnw_at (by omega) a1)
  replace a2 : hp3x.2 (q + 2) = some (.inl (.byte, 80, fun _ => 0)) := by rw [hh]; exact hset_at (by omega) (hnw_at (by omega) a2)
  have a3 : hp3x.2 (q + 3) = some (.inl (.long, 16, fun _ => 0)) := by rw [hh]; exact hset_at (by omega) hnw_eq
  have n3 : NO hp hp3x q 3 := ⟨by rw [hh]; show hp2x.1 + 1 = _; have := n2.1; omega, fun x hx => by rw [hh]; exact (hset_ne (by omega)).trans ((hnw_ne (by omega)).trans (n2.2 x hx))⟩
  clear hh o2 e2 n2
  refine wp_aload_n (pc := 28) dX12_init_28 rfl ?_
  refine wp_bipush (pc := 29) (y := 42) dX12_init_29 (by decide) ?_
  refine wp_nwa (pc := 31) (b := q + 4) dX12_init_31 e3 rfl rfl (by decide) rfl (by decide) ar_int (by decide) (by decide) ?_
  refine wp_putf (pc := 33) dX12_init_33 pf_X12_21 (hnw_at (by omega) o3) (by first | decide | exact Nat.lt_of_sub_pos (by decide) | simp) rfl rfl (by first | decide | intro h; cases h) ?_
  refine wp_gen (fun hp4x hh => ?_)
  have o4 : hp4x.2 q = some (.inr (.inr (12, [.ref (q + 1), .int (I 0), .ref (q + 2), .int (I 0), .ref (q + 3), .int (I 0), .int (I 0), .null, .int (I 0), .int (I 0), .int (I 0), .int (I 0), .ref (q + 4), .null, .null, .int (I 0), .int (I 0), .null, .null, .int (I 0), .null, .null, .null, .null, .null, .null, .null, .null, .int (I 0), .null, .null, .null, .int (I 0), .null, .null, .int (I 0), .int (I 0), .null, .null, .null]))) := by rw [hh]; exact hset_eq
  have e4 : hp4x.1 + 4 = q + 5 := by rw [hh]; show hp3x.1 + 1 + 4 = _; omega
  replace a1 : hp4x.2 (q + 1) = some (.inl (.int, 103, fun _ => 0)) := by rw [hh]; exact hset_at (by omega) (hnw_at (by omega) a1)
  replace a2 : hp4x.2 (q + 2) = some (.inl (.byte, 80, fun _ => 0)) := by rw [hh]; exact hset_at (by omega) (hnw_at (by omega) a2)
  replace a3 : hp4x.2 (q + 3) = some (.inl (.long, 16, fun _ => 0)) := by rw [hh]; exact hset_at (by omega) (hnw_at (by omega) a3)
  have a4 : hp4x.2 (q + 4) = some (.inl (.int, 42, fun _ => 0)) := by rw [hh]; exact hset_at (by omega) hnw_eq
  have n4 : NO hp hp4x q 4 := ⟨by rw [hh]; show hp3x.1 + 1 = _; have := n3.1; omega, fun x hx => by rw [hh]; exact (hset_ne (by omega)).trans ((hnw_ne (by omega)).trans (n3.2 x hx))⟩
  clear hh o3 e3 n3
  refine wp_aload_n (pc := 36) dX12_init_36 rfl ?_
  refine wp_bipush (pc := 37) (y := 40) dX12_init_37 (by decide) ?_
  refine wp_nwa (pc := 39) (b := q + 5) dX12_init_39 e4 rfl rfl (by decide) rfl (by decide) ar_byte (by decide) (by decide) ?_
  refine wp_putf (pc := 41) dX12_init_41 pf_X12_24 (hnw_at (by omega) o4) (by first | decide | exact Nat.lt_of_sub_pos (by decide) | simp) rfl rfl (by first | decide | intro h; cases h) ?_
  refine wp_gen (fun hp5x hh => ?_)
  have o5 : hp5x.2 q = some (.inr (.inr (12, [.ref (q + 1), .int (I 0), .ref (q + 2), .int (I 0), .ref (q + 3), .int (I 0), .int (I 0), .null, .int (I 0), .int (I 0), .int (I 0), .int (I 0), .ref (q + 4), .ref (q + 5), .null, .int (I 0), .int (I 0), .null, .null, .int (I 0), .null, .null, .null, .null, .null, .null, .null, .null, .int (I 0), .null, .null, .null, .int (I 0), .null, .null, .int (I 0), .int (I 0), .null, .null, .null]))) := by rw [hh]; exact hset_eq
  have e5 : hp5x.1 + 4 = q + 6 := by rw [hh]; show hp4x.1 + 1 + 4 = _; omega
  replace a1 : hp5x.2 (q + 1) = some (.inl (.int, 103, fun _ => 0)) := by rw [hh]; exact hset_at (by omega) (hnw_at (by omega) a1)
  replace a2 : hp5x.2 (q + 2) = some (.inl (.byte, 80, fun _ => 0)) := by rw [hh]; exact hset_at (by omega) (hnw_at (by omega) a2)
  replace a3 : hp5x.2 (q + 3) = some (.inl (.long, 16, fun _ => 0)) := by rw [hh]; exact hset_at (by omega) (hnw_at (by omega) a3)
  replace a4 : hp5x.2 (q + 4) = some (.inl (.int, 42, fun _ => 0)) := by rw [hh]; exact hset_at (by omega) (hnw_at (by omega) a4)
  have a5 : hp5x.2 (q + 5) = some (.inl (.byte, 40, fun _ => 0)) := by rw [hh]; exact hset_at (by omega) hnw_eq
  have n5 : NO hp hp5x q 5 := ⟨by rw [hh]; show hp4x.1 + 1 = _; have := n4.1; omega, fun x hx => by rw [hh]; exact (hset_ne (by omega)).trans ((hnw_ne (by omega)).trans (n4.2 x hx))⟩
  clear hh o4 e4 n4
  refine wp_aload_n (pc := 44) dX12_init_44 rfl ?_
  refine wp_bipush (pc := 45) (y := 40) dX12_init_45 (by decide) ?_
  refine wp_nwa (pc := 47) (b := q + 6) dX12_init_47 e5 rfl rfl (by decide) rfl (by decide) ar_byte (by decide) (by decide) ?_
  refine wp_putf (pc := 49) dX12_init_49 pf_X12_27 (hnw_at (by omega) o5) (by first | decide | exact Nat.lt_of_sub_pos (by decide) | simp) rfl rfl (by first | decide | intro h; cases h) ?_
  refine wp_gen (fun hp6x hh => ?_)
  have o6 : hp6x.2 q = some (.inr (.inr (12, [.ref (q + 1), .int (I 0), .ref (q + 2), .int (I 0), .ref (q + 3), .int (I 0), .int (I 0), .null, .int (I 0), .int (I 0), .int (I 0), .int (I 0), .ref (q + 4), .ref (q + 5), .ref (q + 6), .int (I 0), .int (I 0), .null, .null, .int (I 0), .null, .null, .null, .null, .null, .null, .null, .null, .int (I 0), .null, .null, .null, .int (I 0), .null, .null, .int (I 0), .int (I 0), .null, .null, .null]))) := by rw [hh]; exact hset_eq
  have e6 : hp6x.1 + 4 = q + 7 := by rw [hh]; show hp5x.1 + 1 + 4 = _; omega
  replace a1 : hp6x.2 (q + 1) = some (.inl (.int, 103, fun _ => 0)) := by rw [hh]; exact hset_at (by omega) (hnw_at (by omega) a1)
  replace a2 : hp6x.2 (q + 2) = some (.inl (.byte, 80, fun _ => 0)) := by rw [hh]; exact hset_at (by omega) (hnw_at (by omega) a2)
  replace a3 : hp6x.2 (q + 3) = some (.inl (.long, 16, fun _ => 0)) := by rw [hh]; exact hset_at (by omega) (hnw_at (by omega) a3)
  replace a4 : hp6x.2 (q + 4) = some (.inl (.int, 42, fun _ => 0)) := by rw [hh]; exact hset_at (by omega) (hnw_at (by omega) a4)
  replace a5 : hp6x.2 (q + 5) = some (.inl (.byte, 40, fun _ => 0)) := by rw [hh]; exact hset_at (by omega) (hnw_at (by omega) a5)
  have a6 : hp6x.2 (q + 6) = some (.inl (.byte, 40, fun _ => 0)) := by rw [hh]; exact hset_at (by omega) hnw_eq
  have n6 : NO hp hp6x q 6 := ⟨by rw [hh]; show hp5x.1 + 1 = _; have := n5.1; omega, fun x hx => by rw [hh]; exact (hset_ne (by omega)).trans ((hnw_ne (by omega)).trans (n5.2 x hx))⟩
  clear hh o5 e5 n5
  refine wp_aload_n (pc := 52) dX12_init_52 rfl ?_
  refine wp_bipush (pc := 53) (y := 6) dX12_init_53 (by decide) ?_
  refine wp_nwa (pc := 55) (b := q + 7) dX12_init_55 e6 rfl rfl (by decide) rfl (by decide) ar_int (by decide) (by decide) ?_
  refine wp_putf (pc := 57) dX12_init_57 pf_X12_30 (hnw_at (by omega) o6) (by first | decide | exact Nat.lt_of_sub_pos (by decide) | simp) rfl rfl (by first | decide | intro h; cases h) ?_
  refine wp_gen (fun hp7x hh => ?_)
  have o7 : hp7x.2 q = some (.inr (.inr (12, [.ref (q + 1), .int (I 0), .ref (q + 2), .int (I 0), .ref (q + 3), .int (I 0), .int (I 0), .null, .int (I 0), .int (I 0), .int (I 0), .int (I 0), .ref (q + 4), .ref (q + 5), .ref (q + 6), .int (I 0), .int (I 0), .ref (q + 7), .null, .int (I 0), .null, .null, .null, .null, .null, .null, .null, .null, .int (I 0), .null, .null, .null, .int (I 0), .null, .null, .int (I 0), .int (I 0), .null, .null, .null]))) := by rw [hh]; exact hset_eq
  have e7 : hp7x.1 + 4 = q + 8 := by rw [hh]; show hp6x.1 + 1 + 4 = _; omega
  replace a1 : hp7x.2 (q + 1) = some (.inl (.int, 103, fun _ => 0)) := by rw [hh]; exact hset_at (by omega) (hnw_at (by omega) a1)
  replace a2 : hp7x.2 (q + 2) = some (.inl (.byte, 80, fun _ => 0)) := by rw [hh]; exact hset_at (by omega) (hnw_at (by omega) a2)
  replace a3 : hp7x.2 (q + 3) = some (.inl (.long, 16, fun _ => 0)) := by rw [hh]; exact hset_at (by omega) (hnw_at (by omega) a3)
  replace a4 : hp7x.2 (q + 4) = some (.inl (.int, 42, fun _ => 0)) := by rw [hh]; exact hset_at (by omega) (hnw_at (by omega) a4)
  replace a5 : hp7x.2 (q + 5) = some (.inl (.byte, 40, fun _ => 0)) := by rw [hh]; exact hset_at (by omega) (hnw_at (by omega) a5)
  replace a6 : hp7x.2 (q + 6) = some (.inl (.byte, 40, fun _ => 0)) := by rw [hh]; exact hset_at (by omega) (hnw_at (by omega) a6)
  have a7 : hp7x.2 (q + 7) = some (.inl (.int, 6, fun _ => 0)) := by rw [hh]; exact hset_at (by omega) hnw_eq
  have n7 : NO hp hp7x q 7 := ⟨by rw [hh]; show hp6x.1 + 1 = _; have := n6.1; omega, fun x hx => by rw [hh]; exact (hset_ne (by omega)).trans ((hnw_ne (by omega)).trans (n6.2 x hx))⟩
  clear hh o6 e6 n6
  refine wp_aload_n (pc := 60) dX12_init_60 rfl ?_
  refine wp_sipush (pc := 61) (y := 1236) dX12_init_61 (by decide) ?_
  refine wp_nwa (pc := 64) (b := q + 8) dX12_init_64 e7 rfl rfl (by decide) rfl (by decide) ar_int (by decide) (by decide) ?_
  refine wp_putf (pc := 66) dX12_init_66 pf_X12_33 (hnw_at (by omega) o7) (by first | decide | exact Nat.lt_of_sub_pos (by decide) | simp) rfl rfl (by first | decide | intro h; cases h) ?_
  refine wp_gen (fun hp8x hh => ?_)
  have o8 : hp8x.2 q = some (.inr (.inr (12, [.ref (q + 1), .int (I 0), .ref (q + 2), .int (I 0), .ref (q + 3), .int (I 0), .int (I 0), .null, .int (I 0), .int (I 0), .int (I 0), .int (I 0), .ref (q + 4), .ref (q + 5), .ref (q + 6), .int (I 0), .int (I 0), .ref (q + 7), .ref (q + 8), .int (I 0), .null, .null, .null, .null, .null, .null, .null, .null, .int (I 0), .null, .null, .null, .int (I 0), .null, .null, .int (I 0), .int (I 0), .null, .null, .null]))) := by rw [hh]; exact hset_eq
  have e8 : hp8x.1 + 4 = q + 9 := by rw [hh]; show hp7x.1 + 1 + 4 = _; omega
  replace a1 : hp8x.2 (q + 1) = some (.inl (.int, 103, fun _ => 0)) := by rw [hh]; exact hset_at (by omega) (hnw_at (by omega) a1)
  replace a2 : hp8x.2 (q + 2) = some (.inl (.byte, 80, fun _ => 0)) := by rw [hh]; exact hset_at (by omega) (hnw_at (by omega) a2)
  replace a3 : hp8x.2 (q + 3) = some (.inl (.long, 16, fun _ => 0)) := by rw [hh]; exact hset_at (by omega) (hnw_at (by omega) a3)
  replace a4 : hp8x.2 (q + 4) = some (.inl (.int, 42, fun _ => 0)) := by rw [hh]; exact hset_at (by omega) (hnw_at (by omega) a4)
  replace a5 : hp8x.2 (q + 5) = some (.inl (.byte, 40, fun _ => 0)) := by rw [hh]; exact hset_at (by omega) (hnw_at (by omega) a5)
  replace a6 : hp8x.2 (q + 6) = some (.inl (.byte, 40, fun _ => 0)) := by rw [hh]; exact hset_at (by omega) (hnw_at (by omega) a6)
  replace a7 : hp8x.2 (q + 7) = some (.inl (.int, 6, fun _ => 0)) := by rw [hh]; exact hset_at (by omega) (hnw_at (by omega) a7)
  have a8 : hp8x.2 (q + 8) = some (.inl (.int, 1236, fun _ => 0)) := by rw [hh]; exact hset_at (by omega) hnw_eq
  have n8 : NO hp hp8x q 8 := ⟨by rw [hh]; show hp7x.1 + 1 = _; have := n7.1; omega, fun x hx => by rw [hh]; exact (hset_ne (by omega)).trans ((hnw_ne (by omega)).trans (n7.2 x hx))⟩
  clear hh o7 e7 n7
  refine wp_aload_n (pc := 69) dX12_init_69 rfl ?_
  refine wp_bipush (pc := 70) (y := 103) dX12_init_70 (by decide) ?_
  refine wp_nwa (pc := 72) (b := q + 9) dX12_init_72 e8 rfl rfl (by decide) rfl (by decide) ar_int (by decide) (by decide) ?_
  refine wp_putf (pc := 74) dX12_init_74 pf_X12_36 (hnw_at (by omega) o8) (by first | decide | exact Nat.lt_of_sub_pos (by decide) | simp) rfl rfl (by first | decide | intro h; cases h) ?_
  refine wp_gen (fun hp9x hh => ?_)
  have o9 : hp9x.2 q = some (.inr (.inr (12, [.ref (q + 1), .int (I 0), .ref (q + 2), .int (I 0), .ref (q + 3), .int (I 0), .int (I 0), .null, .int (I 0), .int (I 0), .int (I 0), .int (I 0), .ref (q + 4), .ref (q + 5), .ref (q + 6), .int (I 0), .int (I 0), .ref (q + 7), .ref (q + 8), .int (I 0), .ref (q + 9), .null, .null, .null, .null, .null, .null, .null, .int (I 0), .null, .null, .null, .int (I 0), .null, .null, .int (I 0), .int (I 0), .null, .null, .null]))) := by rw [hh]; exact hset_eq
  have e9 : hp9x.1 + 4 = q + 10 := by rw [hh]; show hp8x.1 + 1 + 4 = _; omega
  replace a1 : hp9x.2 (q + 1) = some (.inl (.int, 103, fun _ => 0)) := by rw [hh]; exact hset_at (by omega) (hnw_at (by omega) a1)
  replace a2 : hp9x.2 (q + 2) = some (.inl (.byte, 80, fun _ => 0)) := by rw [hh]; exact hset_at (by omega) (hnw_at (by omega) a2)
  replace a3 : hp9x.2 (q + 3) = some (.inl (.long, 16, fun _ => 0)) := by rw [hh]; exact hset_at (by omega) (hnw_at (by omega) a3)
  replace a4 : hp9x.2 (q + 4) = some (.inl (.int, 42, fun _ => 0)) := by rw [hh]; exact hset_at (by omega) (hnw_at (by omega) a4)
  replace a5 : hp9x.2 (q + 5) = some (.inl (.byte, 40, fun _ => 0)) := by rw [hh]; exact hset_at (by omega) (hnw_at (by omega) a5)
  replace a6 : hp9x.2 (q + 6) = some (.inl (.byte, 40, fun _ => 0)) := by rw [hh]; exact hset_at (by omega) (hnw_at (by omega) a6)
  replace a7 : hp9x.2 (q + 7) = some (.inl (.int, 6, fun _ => 0)) := by rw [hh]; exact hset_at (by omega) (hnw_at (by omega) a7)
  replace a8 : hp9x.2 (q + 8) = some (.inl (.int, 1236, fun _ => 0)) := by rw [hh]; exact hset_at (by omega) (hnw_at (by omega) a8)
  have a9 : hp9x.2 (q + 9) = some (.inl (.int, 103, fun _ => 0)) := by rw [hh]; exact hset_at (by omega) hnw_eq
  have n9 : NO hp hp9x q 9 := ⟨by rw [hh]; show hp8x.1 + 1 = _; have := n8.1; omega, fun x hx => by rw [hh]; exact (hset_ne (by omega)).trans ((hnw_ne (by omega)).trans (n8.2 x hx))⟩
  clear hh o8 e8 n8
  refine wp_aload_n (pc := 77) dX12_init_77 rfl ?_
  refine wp_bipush (pc := 78) (y := 103) dX12_init_78 (by decide) ?_
  refine wp_nwa (pc := 80) (b := q + 10) dX12_init_80 e9 rfl rfl (by decide) rfl (by decide) ar_int (by decide) (by decide) ?_
  refine wp_putf (pc := 82) dX12_init_82 pf_X12_39 (hnw_at (by omega) o9) (by first | decide | exact Nat.lt_of_sub_pos (by decide) | simp) rfl rfl (by first | decide | intro h; cases h) ?_
  refine wp_gen (fun hp10x hh => ?_)
  have o10 : hp10x.2 q = some (.inr (.inr (12, [.ref (q + 1), .int (I 0), .ref (q + 2), .int (I 0), .ref (q + 3), .int (I 0), .int (I 0), .null, .int (I 0), .int (I 0), .int (I 0), .int (I 0), .ref (q + 4), .ref (q + 5), .ref (q + 6), .int (I 0), .int (I 0), .ref (q + 7), .ref (q + 8), .int (I 0), .ref (q + 9), .ref (q + 10), .null, .null, .null, .null, .null, .null, .int (I 0), .null, .null, .null, .int (I 0), .null, .null, .int (I 0), .int (I 0), .null, .null, .null]))) := by rw [hh]; exact hset_eq
  have e10 : hp10x.1 + 4 = q + 11 := by rw [hh]; show hp9x.1 + 1 + 4 = _; omega
  replace a1 : hp10x.2 (q + 1) = some (.inl (.int, 103, fun _ => 0)) := by rw [hh]; exact hset_at (by omega) (hnw_at (by omega) a1)
  replace a2 : hp10x.2 (q + 2) = some (.inl (.byte, 80, fun _ => 0)) := by rw [hh]; exact hset_at (by omega) (hnw_at (by omega) a2)
  replace a3 : hp10x.2 (q + 3) = some (.inl (.long, 16, fun _ => 0)) := by rw [hh]; exact hset_at (by omega) (hnw_at (by omega) a3)
  replace a4 : hp10x.2 (q + 4) = some (.inl (.int, 42, fun _ => 0)) := by rw [hh]; exact hset_at (by omega) (hnw_at (by omega) a4)
  replace a5 : hp10x.2 (q + 5) = some (.inl (.byte, 40, fun _ => 0)) := by rw [hh]; exact hset_at (by omega) (hnw_at (by omega) a5)
  replace a6 : hp10x.2 (q + 6) = some (.inl (.byte, 40, fun _ => 0)) := by rw [hh]; exact hset_at (by omega) (hnw_at (by omega) a6)
  replace a7 : hp10x.2 (q + 7) = some (.inl (.int, 6, fun _ => 0)) := by rw [hh]; exact hset_at (by omega) (hnw_at (by omega) a7)
  replace a8 : hp10x.2 (q + 8) = some (.inl (.int, 1236, fun _ => 0)) := by rw [hh]; exact hset_at (by omega) (hnw_at (by omega) a8)
  replace a9 : hp10x.2 (q + 9) = some (.inl (.int, 103, fun _ => 0)) := by rw [hh]; exact hset_at (by omega) (hnw_at (by omega) a9)
  have a10 : hp10x.2 (q + 10) = some (.inl (.int, 103, fun _ => 0)) := by rw [hh]; exact hset_at (by omega) hnw_eq
  have n10 : NO hp hp10x q 10 := ⟨by rw [hh]; show hp9x.1 + 1 = _; have := n9.1; omega, fun x hx => by rw [hh]; exact (hset_ne (by omega)).trans ((hnw_ne (by omega)).trans (n9.2 x hx))⟩
  clear hh o9 e9 n9
  refine wp_aload_n (pc := 85) dX12_init_85 rfl ?_
  refine wp_bipush (pc := 86) (y := 36) dX12_init_86 (by decide) ?_
  refine wp_nwa (pc := 88) (b := q + 11) dX12_init_88 e10 rfl rfl (by decide) rfl (by decide) ar_int (by decide) (by decide) ?_
  refine wp_putf (pc := 90) dX12_init_90 pf_X12_42 (hnw_at (by omega) o10) (by first | decide | exact Nat.lt_of_sub_pos (by decide) | simp) rfl rfl (by first | decide | intro h; cases h) ?_
  refine wp_gen (fun hp11x hh => ?_)
  have o11 : hp11x.2 q = some (.inr (.inr (12, [.ref (q + 1), .int (I 0), .ref (q + 2), .int (I 0), .ref (q + 3), .int (I 0), .int (I 0), .null, .int (I 0), .int (I 0), .int (I 0), .int (I 0), .ref (q + 4), .ref (q + 5), .ref (q + 6), .int (I 0), .int (I 0), .ref (q + 7), .ref (q + 8), .int (I 0), .ref (q + 9), .ref (q + 10), .ref (q + 11), .null, .null, .null, .null, .null, .int (I 0), .null, .null, .null, .int (I 0), .null, .null, .int (I 0), .int (I 0), .null, .null, .null]))) := by rw [hh]; exact hset_eq
  have e11 : hp11x.1 + 4 = q + 12 := by rw [hh]; show hp10x.1 + 1 + 4 = _; omega
  replace a1 : hp11x.2 (q + 1) = some (.inl (.int, 103, fun _ => 0)) := by rw [hh]; exact hset_at (by omega) (hnw_at (by omega) a1)
  replace a2 : hp11x.2 (q + 2) = some (.inl (.byte, 80, fun _ => 0)) := by rw [hh]; exact hset_at (by omega) (hnw_at (by omega) a2)
  replace a3 : hp11x.2 (q + 3) = some (.inl (.long, 16, fun _ => 0)) := by rw [hh]; exact hset_at (by omega) (hnw_at (by omega) a3)
  replace a4 : hp11x.2 (q + 4) = some (.inl (.int, 42, fun _ => 0)) := by rw [hh]; exact hset_at (by omega) (hnw_at (by omega) a4)
  replace a5 : hp11x.2 (q + 5) = some (.inl (.byte, 40, fun _ => 0)) := by rw [hh]; exact hset_at (by omega) (hnw_at (by omega) a5)
  replace a6 : hp11x.2 (q + 6) = some (.inl (.byte, 40, fun _ => 0)) := by rw [hh]; exact hset_at (by omega) (hnw_at (by omega) a6)
  replace a7 : hp11x.2 (q + 7) = some (.inl (.int, 6, fun _ => 0)) := by rw [hh]; exact hset_at (by omega) (hnw_at (by omega) a7)
  replace a8 : hp11x.2 (q + 8) = some (.inl (.int, 1236, fun _ => 0)) := by rw [hh]; exact hset_at (by omega) (hnw_at (by omega) a8)
  replace a9 : hp11x.2 (q + 9) = some (.inl (.int, 103, fun _ => 0)) := by rw [hh]; exact hset_at (by omega) (hnw_at (by omega) a9)
  replace a10 : hp11x.2 (q + 10) = some (.inl (.int, 103, fun _ => 0)) := by rw [hh]; exact hset_at (by omega) (hnw_at (by omega) a10)
  have a11 : hp11x.2 (q + 11) = some (.inl (.int, 36, fun _ => 0)) := by rw [hh]; exact hset_at (by omega) hnw_eq
  have n11 : NO hp hp11x q 11 := ⟨by rw [hh]; show hp10x.1 + 1 = _; have := n10.1; omega, fun x hx => by rw [hh]; exact (hset_ne (by omega)).trans ((hnw_ne (by omega)).trans (n10.2 x hx))⟩
  clear hh o10 e10 n10
  refine wp_aload_n (pc := 93) dX12_init_93 rfl ?_
  refine wp_sipush (pc := 94) (y := 320) dX12_init_94 (by decide) ?_
  refine wp_nwa (pc := 97) (b := q + 12) dX12_init_97 e11 rfl rfl (by decide) rfl (by decide) ar_int (by decide) (by decide) ?_
  refine wp_putf (pc := 99) dX12_init_99 pf_X12_45 (hnw_at (by omega) o11) (by first | decide | exact Nat.lt_of_sub_pos (by decide) | simp) rfl rfl (by first | decide | intro h; cases h) ?_
  refine wp_gen (fun hp12x hh => ?_)
  have o12 : hp12x.2 q = some (.inr (.inr (12, [.ref (q + 1), .int (I 0), .ref (q + 2), .int (I 0), .ref (q + 3), .int (I 0), .int (I 0), .null, .int (I 0), .int (I 0), .int (I 0), .int (I 0), .ref (q + 4), .ref (q + 5), .ref (q + 6), .int (I 0), .int (I 0), .ref (q + 7), .ref (q + 8), .int (I 0), .ref (q + 9), .ref (q + 10), .ref (q + 11), .ref (q + 12), .null, .null, .null, .null, .int (I 0), .null, .null, .null, .int (I 0), .null, .null, .int (I 0), .int (I 0), .null, .null, .null]))) := by rw [hh]; exact hset_eq
  have e12 : hp12x.1 + 4 = q + 13 := by rw [hh]; show hp11x.1 + 1 + 4 = _; omega
  replace a1 : hp12x.2 (q + 1) = some (.inl (.int, 103, fun _ => 0)) := by rw [hh]; exact hset_at (by omega) (hnw_at (by omega) a1)
  replace a2 : hp12x.2 (q + 2) = some (.inl (.byte, 80, fun _ => 0)) := by rw [hh]; exact hset_at (by omega) (hnw_at (by omega) a2)
  replace a3 : hp12x.2 (q + 3) = some (.inl (.long, 16, fun _ => 0)) := by rw [hh]; exact hset_at (by omega) (hnw_at (by omega) a3)
  replace a4 : hp12x.2 (q + 4) = some (.inl (.int, 42, fun _ => 0)) := by rw [hh]; exact hset_at (by omega) (hnw_at (by omega) a4)
  replace a5 : hp12x.2 (q + 5) = some (.inl (.byte, 40, fun _ => 0)) := by rw [hh]; exact hset_at (by omega) (hnw_at (by omega) a5)
  replace a6 : hp12x.2 (q + 6) = some (.inl (.byte, 40, fun _ => 0)) := by rw [hh]; exact hset_at (by omega) (hnw_at (by omega) a6)
  replace a7 : hp12x.2 (q + 7) = some (.inl (.int, 6, fun _ => 0)) := by rw [hh]; exact hset_at (by omega) (hnw_at (by omega) a7)
  replace a8 : hp12x.2 (q + 8) = some (.inl (.int, 1236, fun _ => 0)) := by rw [hh]; exact hset_at (by omega) (hnw_at (by omega) a8)
  replace a9 : hp12x.2 (q + 9) = some (.inl (.int, 103, fun _ => 0)) := by rw [hh]; exact hset_at (by omega) (hnw_at (by omega) a9)
  replace a10 : hp12x.2 (q + 10) = some (.inl (.int, 103, fun _ => 0)) := by rw [hh]; exact hset_at (by omega) (hnw_at (by omega) a10)
  replace a11 : hp12x.2 (q + 11) = some (.inl (.int, 36, fun _ => 0)) := by rw [hh]; exact hset_at (by omega) (hnw_at (by omega) a11)
  have a12 : hp12x.2 (q + 12) = some (.inl (.int, 320, fun _ => 0)) := by rw [hh]; exact hset_at (by omega) hnw_eq
  have n12 : NO hp hp12x q 12 := ⟨by rw [hh]; show hp11x.1 + 1 = _; have := n11.1; omega, fun x hx => by rw [hh]; exact (hset_ne (by omega)).trans ((hnw_ne (by omega)).trans (n11.2 x hx))⟩
  clear hh o11 e11 n11
  refine wp_aload_n (pc := 102) dX12_init_102 rfl ?_
  refine wp_bipush (pc := 103) (y := 64) dX12_init_103 (by decide) ?_
  refine wp_nwa (pc := 105) (b := q + 13) dX12_init_105 e12 rfl rfl (by decide) rfl (by decide) ar_int (by decide) (by decide) ?_
  refine wp_putf (pc := 107) dX12_init_107 pf_X12_48 (hnw_at (by omega) o12) (by first | decide | exact Nat.lt_of_sub_pos (by decide) | simp) rfl rfl (by first | decide | intro h; cases h) ?_
  refine wp_gen (fun hp13x hh => ?_)
  have o13 : hp13x.2 q = some (.inr (.inr (12, [.ref (q + 1), .int (I 0), .ref (q + 2), .int (I 0), .ref (q + 3), .int (I 0), .int (I 0), .null, .int (I 0), .int (I 0), .int (I 0), .int (I 0), .ref (q + 4), .ref (q + 5), .ref (q + 6), .int (I 0), .int (I 0), .ref (q + 7), .ref (q + 8), .int (I 0), .ref (q + 9), .ref (q + 10), .ref (q + 11), .ref (q + 12), .ref (q + 13), .null, .null, .null, .int (I 0), .null, .null, .null, .int (I 0), .null, .null, .int (I 0), .int (I 0), .null, .null, .null]))) := by rw [hh]; exact hset_eq
  have e13 : hp13x.1 + 4 = q + 14 := by rw [hh]; show hp12x.1 + 1 + 4 = _; omega
  replace a1 : hp13x.2 (q + 1) = some (.inl (.int, 103, fun _ => 0)) := by rw [hh]; exact hset_at (by omega) (hnw_at (by omega) a1)
  replace a2 : hp13x.2 (q + 2) = some (.inl (.byte, 80, fun _ => 0)) := by rw [hh]; exact hset_at (by omega) (hnw_at (by omega) a2)
  replace a3 : hp13x.2 (q + 3) = some (.inl (.long, 16, fun _ => 0)) := by rw [hh]; exact hset_at (by omega) (hnw_at (by omega) a3)
  replace a4 : hp13x.2 (q + 4) = some (.inl (.int, 42, fun _ => 0)) := by rw [hh]; exact hset_at (by omega) (hnw_at (by omega) a4)
  replace a5 : hp13x.2 (q + 5) = some (.inl (.byte, 40, fun _ => 0)) := by rw [hh]; exact hset_at (by omega) (hnw_at (by omega) a5)
  replace a6 : hp13x.2 (q + 6) = some (.inl (.byte, 40, fun _ => 0)) := by rw [hh]; exact hset_at (by omega) (hnw_at (by omega) a6)
  replace a7 : hp13x.2 (q + 7) = some (.inl (.int, 6, fun _ => 0)) := by rw [hh]; exact hset_at (by omega) (hnw_at (by omega) a7)
  replace a8 : hp13x.2 (q + 8) = some (.inl (.int, 1236, fun _ => 0)) := by rw [hh]; exact hset_at (by omega) (hnw_at (by omega) a8)
  replace a9 : hp13x.2 (q + 9) = some (.inl (.int, 103, fun _ => 0)) := by rw [hh]; exact hset_at (by omega) (hnw_at (by omega) a9)
  replace a10 : hp13x.2 (q + 10) = some (.inl (.int, 103, fun _ => 0)) := by rw [hh]; exact hset_at (by omega) (hnw_at (by omega) a10)
  replace a11 : hp13x.2 (q + 11) = some (.inl (.int, 36, fun _ => 0)) := by rw [hh]; exact hset_at (by omega) (hnw_at (by omega) a11)
  replace a12 : hp13x.2 (q + 12) = some (.inl (.int, 320, fun _ => 0)) := by rw [hh]; exact hset_at (by omega) (hnw_at (by omega) a12)
  have a13 : hp13x.2 (q + 13) = some (.inl (.int, 64, fun _ => 0)) := by rw [hh]; exact hset_at (by omega) hnw_eq
  have n13 : NO hp hp13x q 13 := ⟨by rw [hh]; show hp12x.1 + 1 = _; have := n12.1; omega, fun x hx => by rw [hh]; exact (hset_ne (by omega)).trans ((hnw_ne (by omega)).trans (n12.2 x hx))⟩
  clear hh o12 e12 n12
  refine wp_aload_n (pc := 110) dX12_init_110 rfl ?_
  refine wp_sipush (pc := 111) (y := 448) dX12_init_111 (by decide) ?_
  refine wp_nwa (pc := 114) (b := q + 14) dX12_init_114 e13 rfl rfl (by decide) rfl (by decide) ar_int (by decide) (by decide) ?_
  refine wp_putf (pc := 116) dX12_init_116 pf_X12_51 (hnw_at (by omega) o13) (by first | decide | exact Nat.lt_of_sub_pos (by decide) | simp) rfl rfl (by first | decide | intro h; cases h) ?_
  refine wp_gen (fun hp14x hh => ?_)
  have o14 : hp14x.2 q = some (.inr (.inr (12, [.ref (q + 1), .int (I 0), .ref (q + 2), .int (I 0), .ref (q + 3), .int (I 0), .int (I 0), .null, .int (I 0), .int (I 0), .int (I 0), .int (I 0), .ref (q + 4), .ref (q + 5), .ref (q + 6), .int (I 0), .int (I 0), .ref (q + 7), .ref (q + 8), .int (I 0), .ref (q + 9), .ref (q + 10), .ref (q + 11), .ref (q + 12), .ref (q + 13), .ref (q + 14), .null, .null, .int (I 0), .null, .null, .null, .int (I 0), .null, .null, .int (I 0), .int (I 0), .null, .null, .null]))) := by rw [hh]; exact hset_eq
  have e14 : hp14x.1 + 4 = q + 15 := by rw [hh]; show hp13x.1 + 1 + 4 = _; omega
  replace a1 : hp14x.2 (q + 1) = some (.inl (.int, 103, fun _ => 0)) := by rw [hh]; exact hset_at (by omega) (hnw_at (by omega) a1)
  replace a2 : hp14x.2 (q + 2) = some (.inl (.byte, 80, fun _ => 0)) := by rw [hh]; exact hset_at (by omega) (hnw_at (by omega) a2)
  replace a3 : hp14x.2 (q + 3) = some (.inl (.long, 16, fun _ => 0)) := by rw [hh]; exact hset_at (by omega) (hnw_at (by omega) a3)
  replace a4 : hp14x.2 (q + 4) = some (.inl (.int, 42, fun _ => 0)) := by rw [hh]; exact hset_at (by omega) (hnw_at (by omega) a4)
  replace a5 : hp14x.2 (q + 5) = some (.inl (.byte, 40, fun _ => 0)) := by rw [hh]; exact hset_at (by omega) (hnw_at (by omega) a5)
  replace a6 : hp14x.2 (q + 6) = some (.inl (.byte, 40, fun _ => 0)) := by rw [hh]; exact hset_at (by omega) (hnw_at (by omega) a6)
  replace a7 : hp14x.2 (q + 7) = some (.inl (.int, 6, fun _ => 0)) := by rw [hh]; exact hset_at (by omega) (hnw_at (by omega) a7)
  replace a8 : hp14x.2 (q + 8) = some (.inl (.int, 1236, fun _ => 0)) := by rw [hh]; exact hset_at (by omega) (hnw_at (by omega) a8)
  replace a9 : hp14x.2 (q + 9) = some (.inl (.int, 103, fun _ => 0)) := by rw [hh]; exact hset_at (by omega) (hnw_at (by omega) a9)
  replace a10 : hp14x.2 (q + 10) = some (.inl (.int, 103, fun _ => 0)) := by rw [hh]; exact hset_at (by omega) (hnw_at (by omega) a10)
  replace a11 : hp14x.2 (q + 11) = some (.inl (.int, 36, fun _ => 0)) := by rw [hh]; exact hset_at (by omega) (hnw_at (by omega) a11)
  replace a12 : hp14x.2 (q + 12) = some (.inl (.int, 320, fun _ => 0)) := by rw [hh]; exact hset_at (by omega) (hnw_at (by omega) a12)
  replace a13 : hp14x.2 (q + 13) = some (.inl (.int, 64, fun _ => 0)) := by rw [hh]; exact hset_at (by omega) (hnw_at (by omega) a13)
  have a14 : hp14x.2 (q + 14) = some (.inl (.int, 448, fun _ => 0)) := by rw [hh]; exact hset_at (by omega) hnw_eq
  have n14 : NO hp hp14x q 14 := ⟨by rw [hh]; show hp13x.1 + 1 = _; have := n13.1; omega, fun x hx => by rw [hh]; exact (hset_ne (by omega)).trans ((hnw_ne (by omega)).trans (n13.2 x hx))⟩
  clear hh o13 e13 n13
  refine wp_aload_n (pc := 119) dX12_init_119 rfl ?_
  refine wp_bipush (pc := 120) (y := 12) dX12_init_120 (by decide) ?_
  refine wp_nwa (pc := 122) (b := q + 15) dX12_init_122 e14 rfl rfl (by decide) rfl (by decide) ar_int (by decide) (by decide) ?_
  refine wp_putf (pc := 124) dX12_init_124 pf_X12_54 (hnw_at (by omega) o14) (by first | decide | exact Nat.lt_of_sub_pos (by decide) | simp) rfl rfl (by first | decide | intro h; cases h) ?_
  refine wp_gen (fun hp15x hh => ?_)
  have o15 : hp15x.2 q = some (.inr (.inr (12, [.ref (q + 1), .int (I 0), .ref (q + 2), .int (I 0), .ref (q + 3), .int (I 0), .int (I 0), .null, .int (I 0), .int (I 0), .int (I 0), .int (I 0), .ref (q + 4), .ref (q + 5), .ref (q + 6), .int (I 0), .int (I 0), .ref (q + 7), .ref (q + 8), .int (I 0), .ref (q + 9), .ref (q + 10), .ref (q + 11), .ref (q + 12), .ref (q + 13), .ref (q + 14), .ref (q + 15), .null, .int (I 0), .null, .null, .null, .int (I 0), .null, .null, .int (I 0), .int (I 0), .null, .null, .null]))) := by rw [hh]; exact hset_eq
  have e15 : hp15x.1 + 4 = q + 16 := by rw [hh]; show hp14x.1 + 1 + 4 = _; omega
  replace a1 : hp15x.2 (q + 1) = some (.inl (.int, 103, fun _ => 0)) := by rw [hh]; exact hset_at (by omega) (hnw_at (by omega) a1)
  replace a2 : hp15x.2 (q + 2) = some (.inl (.byte, 80, fun _ => 0)) := by rw [hh]; exact hset_at (by omega) (hnw_at (by omega) a2)
  replace a3 : hp15x.2 (q + 3) = some (.inl (.long, 16, fun _ => 0)) := by rw [hh]; exact hset_at (by omega) (hnw_at (by omega) a3)
  replace a4 : hp15x.2 (q + 4) = some (.inl (.int, 42, fun _ => 0)) := by rw [hh]; exact hset_at (by omega) (hnw_at (by omega) a4)
  replace a5 : hp15x.2 (q + 5) = some (.inl (.byte, 40, fun _ => 0)) := by rw [hh]; exact hset_at (by omega) (hnw_at (by omega) a5)
  replace a6 : hp15x.2 (q + 6) = some (.inl (.byte, 40, fun _ => 0)) := by rw [hh]; exact hset_at (by omega) (hnw_at (by omega) a6)
  replace a7 : hp15x.2 (q + 7) = some (.inl (.int, 6, fun _ => 0)) := by rw [hh]; exact hset_at (by omega) (hnw_at (by omega) a7)
  replace a8 : hp15x.2 (q + 8) = some (.inl (.int, 1236, fun _ => 0)) := by rw [hh]; exact hset_at (by omega) (hnw_at (by omega) a8)
  replace a9 : hp15x.2 (q + 9) = some (.inl (.int, 103, fun _ => 0)) := by rw [hh]; exact hset_at (by omega) (hnw_at (by omega) a9)
  replace a10 : hp15x.2 (q + 10) = some (.inl (.int, 103, fun _ => 0)) := by rw [hh]; exact hset_at (by omega) (hnw_at (by omega) a10)
  replace a11 : hp15x.2 (q + 11) = some (.inl (.int, 36, fun _ => 0)) := by rw [hh]; exact hset_at (by omega) (hnw_at (by omega) a11)
  replace a12 : hp15x.2 (q + 12) = some (.inl (.int, 320, fun _ => 0)) := by rw [hh]; exact hset_at (by omega) (hnw_at (by omega) a12)
  replace a13 : hp15x.2 (q + 13) = some (.inl (.int, 64, fun _ => 0)) := by rw [hh]; exact hset_at (by omega) (hnw_at (by omega) a13)
  replace a14 : hp15x.2 (q + 14) = some (.inl (.int, 448, fun _ => 0)) := by rw [hh]; exact hset_at (by omega) (hnw_at (by omega) a14)
  have a15 : hp15x.2 (q + 15) = some (.inl (.int, 12, fun _ => 0)) := by rw [hh]; exact hset_at (by omega) hnw_eq
  have n15 : NO hp hp15x q 15 := ⟨by rw [hh]; show hp14x.1 + 1 = _; have := n14.1; omega, fun x hx => by rw [hh]; exact (hset_ne (by omega)).trans ((hnw_ne (by omega)).trans (n14.2 x hx))⟩
  clear hh o14 e14 n14
  refine wp_aload_n (pc := 127) dX12_init_127 rfl ?_
  refine wp_bipush (pc := 128) (y := 12) dX12_init_128 (by decide) ?_
  refine wp_nwa (pc := 130) (b := q + 16) dX12_init_130 e15 rfl rfl (by decide) rfl (by decide) ar_int (by decide) (by decide) ?_
  refine wp_putf (pc := 132) dX12_init_132 pf_X12_57 (hnw_at (by omega) o15) (by first | decide | exact Nat.lt_of_sub_pos (by decide) | simp) rfl rfl (by first | decide | intro h; cases h) ?_
  refine wp_gen (fun hp16x hh => ?_)
  have o16 : hp16x.2 q = some (.inr (.inr (12, [.ref (q + 1), .int (I 0), .ref (q + 2), .int (I 0), .ref (q + 3), .int (I 0), .int (I 0), .null, .int (I 0), .int (I 0), .int (I 0), .int (I 0), .ref (q + 4), .ref (q + 5), .ref (q + 6), .int (I 0), .int (I 0), .ref (q + 7), .ref (q + 8), .int (I 0), .ref (q + 9), .ref (q + 10), .ref (q + 11), .ref (q + 12), .ref (q + 13), .ref (q + 14), .ref (q + 15), .ref (q + 16), .int (I 0), .null, .null, .null, .int (I 0), .null, .null, .int (I 0), .int (I 0), .null, .null, .null]))) := by rw [hh]; exact hset_eq
  have e16 : hp16x.1 + 4 = q + 17 := by rw [hh]; show hp15x.1 + 1 + 4 = _; omega
  replace a1 : hp16x.2 (q + 1) = some (.inl (.int, 103, fun _ => 0)) := by rw [hh]; exact hset_at (by omega) (hnw_at (by omega) a1)
  replace a2 : hp16x.2 (q + 2) = some (.inl (.byte, 80, fun _ => 0)) := by rw [hh]; exact hset_at (by omega) (hnw_at (by omega) a2)
  replace a3 : hp16x.2 (q + 3) = some (.inl (.long, 16, fun _ => 0)) := by rw [hh]; exact hset_at (by omega) (hnw_at (by omega) a3)
  replace a4 : hp16x.2 (q + 4) = some (.inl (.int, 42, fun _ => 0)) := by rw [hh]; exact hset_at (by omega) (hnw_at (by omega) a4)
  replace a5 : hp16x.2 (q + 5) = some (.inl (.byte, 40, fun _ => 0)) := by rw [hh]; exact hset_at (by omega) (hnw_at (by omega) a5)
  replace a6 : hp16x.2 (q + 6) = some (.inl (.byte, 40, fun _ => 0)) := by rw [hh]; exact hset_at (by omega) (hnw_at (by omega) a6)
  replace a7 : hp16x.2 (q + 7) = some (.inl (.int, 6, fun _ => 0)) := by rw [hh]; exact hset_at (by omega) (hnw_at (by omega) a7)
  replace a8 : hp16x.2 (q + 8) = some (.inl (.int, 1236, fun _ => 0)) := by rw [hh]; exact hset_at (by omega) (hnw_at (by omega) a8)
  replace a9 : hp16x.2 (q + 9) = some (.inl (.int, 103, fun _ => 0)) := by rw [hh]; exact hset_at (by omega) (hnw_at (by omega) a9)
  replace a10 : hp16x.2 (q + 10) = some (.inl (.int, 103, fun _ => 0)) := by rw [hh]; exact hset_at (by omega) (hnw_at (by omega) a10)
  replace a11 : hp16x.2 (q + 11) = some (.inl (.int, 36, fun _ => 0)) := by rw [hh]; exact hset_at (by omega) (hnw_at (by omega) a11)
  replace a12 : hp16x.2 (q + 12) = some (.inl (.int, 320, fun _ => 0)) := by rw [hh]; exact hset_at (by omega) (hnw_at (by omega) a12)
  replace a13 : hp16x.2 (q + 13) = some (.inl (.int, 64, fun _ => 0)) := by rw [hh]; exact hset_at (by omega) (hnw_at (by omega) a13)
  replace a14 : hp16x.2 (q + 14) = some (.inl (.int, 448, fun _ => 0)) := by rw [hh]; exact hset_at (by omega) (hnw_at (by omega) a14)
  replace a15 : hp16x.2 (q + 15) = some (.inl (.int, 12, fun _ => 0)) := by rw [hh]; exact hset_at (by omega) (hnw_at (by omega) a15)
  have a16 : hp16x.2 (q + 16) = some (.inl (.int, 12, fun _ => 0)) := by rw [hh]; exact hset_at (by omega) hnw_eq
  have n16 : NO hp hp16x q 16 := ⟨by rw [hh]; show hp15x.1 + 1 = _; have := n15.1; omega, fun x hx => by rw [hh]; exact (hset_ne (by omega)).trans ((hnw_ne (by omega)).trans (n15.2 x hx))⟩
  clear hh o15 e15 n15
  refine wp_aload_n (pc := 135) dX12_init_135 rfl ?_
  refine wp_bipush (pc := 136) (y := 12) dX12_init_136 (by decide) ?_
  refine wp_nwa (pc := 138) (b := q + 17) dX12_init_138 e16 rfl rfl (by decide) rfl (by decide) ar_int (by decide) (by decide) ?_
  refine wp_putf (pc := 140) dX12_init_140 pf_X12_60 (hnw_at (by omega) o16) (by first | decide | exact Nat.lt_of_sub_pos (by decide) | simp) rfl rfl (by first | decide | intro h; cases h) ?_
  refine wp_gen (fun hp17x hh => ?_)
  have o17 : hp17x.2 q = some (.inr (.inr (12, [.ref (q + 1), .int (I 0), .ref (q + 2), .int (I 0), .ref (q + 3), .int (I 0), .int (I 0), .null, .int (I 0), .int (I 0), .int (I 0), .int (I 0), .ref (q + 4), .ref (q + 5), .ref (q + 6), .int (I 0), .int (I 0), .ref (q + 7), .ref (q + 8), .int (I 0), .ref (q + 9), .ref (q + 10), .ref (q + 11), .ref (q + 12), .ref (q + 13), .ref (q + 14), .ref (q + 15), .ref (q + 16), .int (I 0), .ref (q + 17), .null, .null, .int (I 0), .null, .null, .int (I 0), .int (I 0), .null, .null, .null]))) := by rw [hh]; exact hset_eq
  have e17 : hp17x.1 + 4 = q + 18 := by rw [hh]; show hp16x.1 + 1 + 4 = _; omega
  replace a1 : hp17x.2 (q + 1) = some (.inl (.int, 103, fun _ => 0)) := by rw [hh]; exact hset_at (by omega) (hnw_at (by omega) a1)
  replace a2 : hp17x.2 (q + 2) = some (.inl (.byte, 80, fun _ => 0)) := by rw [hh]; exact hset_at (by omega) (hnw_at (by omega) a2)
  replace a3 : hp17x.2 (q + 3) = some (.inl (.long, 16, fun _ => 0)) := by rw [hh]; exact hset_at (by omega) (hnw_at (by omega) a3)
  replace a4 : hp17x.2 (q + 4) = some (.inl (.int, 42, fun _ => 0)) := by rw [hh]; exact hset_at (by omega) (hnw_at (by omega) a4)
  replace a5 : hp17x.2 (q + 5) = some (.inl (.byte, 40, fun _ => 0)) := by rw [hh]; exact hset_at (by omega) (hnw_at (by omega) a5)
  replace a6 : hp17x.2 (q + 6) = some (.inl (.byte, 40, fun _ => 0)) := by rw [hh]; exact hset_at (by omega) (hnw_at (by omega) a6)
  replace a7 : hp17x.2 (q + 7) = some (.inl (.int, 6, fun _ => 0)) := by rw [hh]; exact hset_at (by omega) (hnw_at (by omega) a7)
  replace a8 : hp17x.2 (q + 8) = some (.inl (.int, 1236, fun _ => 0)) := by rw [hh]; exact hset_at (by omega) (hnw_at (by omega) a8)
  replace a9 : hp17x.2 (q + 9) = some (.inl (.int, 103, fun _ => 0)) := by rw [hh]; exact hset_at (by omega) (hnw_at (by omega) a9)
  replace a10 : hp17x.2 (q + 10) = some (.inl (.int, 103, fun _ => 0)) := by rw [hh]; exact hset_at (by omega) (hnw_at (by omega) a10)
  replace a11 : hp17x.2 (q + 11) = some (.inl (.int, 36, fun _ => 0)) := by rw [hh]; exact hset_at (by omega) (hnw_at (by omega) a11)
  replace a12 : hp17x.2 (q + 12) = some (.inl (.int, 320, fun _ => 0)) := by rw [hh]; exact hset_at (by omega) (hnw_at (by omega) a12)
  replace a13 : hp17x.2 (q + 13) = some (.inl (.int, 64, fun _ => 0)) := by rw [hh]; exact hset_at (by omega) (hnw_at (by omega) a13)
  replace a14 : hp17x.2 (q + 14) = some (.inl (.int, 448, fun _ => 0)) := by rw [hh]; exact hset_at (by omega) (hnw_at (by omega) a14)
  replace a15 : hp17x.2 (q + 15) = some (.inl (.int, 12, fun _ => 0)) := by rw [hh]; exact hset_at (by omega) (hnw_at (by omega) a15)
  replace a16 : hp17x.2 (q + 16) = some (.inl (.int, 12, fun _ => 0)) := by rw [hh]; exact hset_at (by omega) (hnw_at (by omega) a16)
  have a17 : hp17x.2 (q + 17) = some (.inl (.int, 12, fun _ => 0)) := by rw [hh]; exact hset_at (by omega) hnw_eq
  have n17 : NO hp hp17x q 17 := ⟨by rw [hh]; show hp16x.1 + 1 = _; have := n16.1; omega, fun x hx => by rw [hh]; exact (hset_ne (by omega)).trans ((hnw_ne (by omega)).trans (n16.2 x hx))⟩
  clear hh o16 e16 n16
  refine wp_aload_n (pc := 143) dX12_init_143 rfl ?_
  refine wp_bipush (pc := 144) (y := 12) dX12_init_144 (by decide) ?_
  refine wp_nwa (pc := 146) (b := q + 18) dX12_init_146 e17 rfl rfl (by decide) rfl (by decide) ar_int (by decide) (by decide) ?_
  refine wp_putf (pc := 148) dX12_init_148 pf_X12_63 (hnw_at (by omega) o17) (by first | decide | exact Nat.lt_of_sub_pos (by decide) | simp) rfl rfl (by first | decide | intro h; cases h) ?_
  refine wp_gen (fun hp18x hh => ?_)
  have o18 : hp18x.2 q = some (.inr (.inr (12, [.ref (q + 1), .int (I 0), .ref (q + 2), .int (I 0), .ref (q + 3), .int (I 0), .int (I 0), .null, .int (I 0), .int (I 0), .int (I 0), .int (I 0), .ref (q + 4), .ref (q + 5), .ref (q + 6), .int (I 0), .int (I 0), .ref (q + 7), .ref (q + 8), .int (I 0), .ref (q + 9), .ref (q + 10), .ref (q + 11), .ref (q + 12), .ref (q + 13), .ref (q + 14), .ref (q + 15), .ref (q + 16), .int (I 0), .ref (q + 17), .ref (q + 18), .null, .int (I 0), .null, .null, .int (I 0), .int (I 0), .null, .null, .null]))) := by rw [hh]; exact hset_eq
  have e18 : hp18x.1 + 4 = q + 19 := by rw [hh]; show hp17x.1 + 1 + 4 = _; omega
  replace a1 : hp18x.2 (q + 1) = some (.inl (.int, 103, fun _ => 0)) := by rw [hh]; exact hset_at (by omega) (hnw_at (by omega) a1)
  replace a2 : hp18x.2 (q + 2) = some (.inl (.byte, 80, fun _ => 0)) := by rw [hh]; exact hset_at (by omega) (hnw_at (by omega) a2)
  replace a3 : hp18x.2 (q + 3) = some (.inl (.long, 16, fun _ => 0)) := by rw [hh]; exact hset_at (by omega) (hnw_at (by omega) a3)
  replace a4 : hp18x.2 (q + 4) = some (.inl (.int, 42, fun _ => 0)) := by rw [hh]; exact hset_at (by omega) (hnw_at (by omega) a4)
  replace a5 : hp18x.2 (q + 5) = some (.inl (.byte, 40, fun _ => 0)) := by rw [hh]; exact hset_at (by omega) (hnw_at (by omega) a5)
  replace a6 : hp18x.2 (q + 6) = some (.inl (.byte, 40, fun _ => 0)) := by rw [hh]; exact hset_at (by omega) (hnw_at (by omega) a6)
  replace a7 : hp18x.2 (q + 7) = some (.inl (.int, 6, fun _ => 0)) := by rw [hh]; exact hset_at (by omega) (hnw_at (by omega) a7)
  replace a8 : hp18x.2 (q + 8) = some (.inl (.int, 1236, fun _ => 0)) := by rw [hh]; exact hset_at (by omega) (hnw_at (by omega) a8)
  replace a9 : hp18x.2 (q + 9) = some (.inl (.int, 103, fun _ => 0)) := by rw [hh]; exact hset_at (by omega) (hnw_at (by omega) a9)
  replace a10 : hp18x.2 (q + 10) = some (.inl (.int, 103, fun _ => 0)) := by rw [hh]; exact hset_at (by omega) (hnw_at (by omega) a10)
  replace a11 : hp18x.2 (q + 11) = some (.inl (.int, 36, fun _ => 0)) := by rw [hh]; exact hset_at (by omega) (hnw_at (by omega) a11)
  replace a12 : hp18x.2 (q + 12) = some (.inl (.int, 320, fun _ => 0)) := by rw [hh]; exact hset_at (by omega) (hnw_at (by omega) a12)
  replace a13 : hp18x.2 (q + 13) = some (.inl (.int, 64, fun _ => 0)) := by rw [hh]; exact hset_at (by omega) (hnw_at (by omega) a13)
  replace a14 : hp18x.2 (q + 14) = some (.inl (.int, 448, fun _ => 0)) := by rw [hh]; exact hset_at (by omega) (hnw_at (by omega) a14)
  replace a15 : hp18x.2 (q + 15) = some (.inl (.int, 12, fun _ => 0)) := by rw [hh]; exact hset_at (by omega) (hnw_at (by omega) a15)
  replace a16 : hp18x.2 (q + 16) = some (.inl (.int, 12, fun _ => 0)) := by rw [hh]; exact hset_at (by omega) (hnw_at (by omega) a16)
  replace a17 : hp18x.2 (q + 17) = some (.inl (.int, 12, fun _ => 0)) := by rw [hh]; exact hset_at (by omega) (hnw_at (by omega) a17)
  have a18 : hp18x.2 (q + 18) = some (.inl (.int, 12, fun _ => 0)) := by rw [hh]; exact hset_at (by omega) hnw_eq
  have n18 : NO hp hp18x q 18 := ⟨by rw [hh]; show hp17x.1 + 1 = _; have := n17.1; omega, fun x hx => by rw [hh]; exact (hset_ne (by omega)).trans ((hnw_ne (by omega)).trans (n17.2 x hx))⟩
  clear hh o17 e17 n17
  refine wp_aload_n (pc := 151) dX12_init_151 rfl ?_
  refine wp_bipush (pc := 152) (y := 12) dX12_init_152 (by decide) ?_
  refine wp_nwa (pc := 154) (b := q + 19) dX12_init_154 e18 rfl rfl (by decide) rfl (by decide) ar_int (by decide) (by decide) ?_
  refine wp_putf (pc := 156) dX12_init_156 pf_X12_66 (hnw_at (by omega) o18) (by first | decide | exact Nat.lt_of_sub_pos (by decide) | simp) rfl rfl (by first | decide | intro h; cases h) ?_
  refine wp_gen (fun hp19x hh => ?_)
  have o19 : hp19x.2 q = some (.inr (.inr (12, [.ref (q + 1), .int (I 0), .ref (q + 2), .int (I 0), .ref (q + 3), .int (I 0), .int (I 0), .null, .int (I 0), .int (I 0), .int (I 0), .int (I 0), .ref (q + 4), .ref (q + 5), .ref (q + 6), .int (I 0), .int (I 0), .ref (q + 7), .ref (q + 8), .int (I 0), .ref (q + 9), .ref (q + 10), .ref (q + 11), .ref (q + 12), .ref (q + 13), .ref (q + 14), .ref (q + 15), .ref (q + 16), .int (I 0), .ref (q + 17), .ref (q + 18), .ref (q + 19), .int (I 0), .null, .null, .int (I 0), .int (I 0), .null, .null, .null]))) := by rw [hh]; exact hset_eq
  have e19 : hp19x.1 + 4 = q + 20 := by rw [hh]; show hp18x.1 + 1 + 4 = _; omega
  replace a1 : hp19x.2 (q + 1) = some (.inl (.int, 103, fun _ => 0)) := by rw [hh]; exact hset_at (by omega) (hnw_at (by omega) a1)
  replace a2 : hp19x.2 (q + 2) = some (.inl (.byte, 80, fun _ => 0)) := by rw [hh]; exact hset_at (by omega) (hnw_at (by omega) a2)
  replace a3 : hp19x.2 (q + 3) = some (.inl (.long, 16, fun _ => 0)) := by rw [hh]; exact hset_at (by omega) (hnw_at (by omega) a3)
  replace a4 : hp19x.2 (q + 4) = some (.inl (.int, 42, fun _ => 0)) := by rw [hh]; exact hset_at (by omega) (hnw_at (by omega) a4)
  replace a5 : hp19x.2 (q + 5) = some (.inl (.byte, 40, fun _ => 0)) := by rw [hh]; exact hset_at (by omega) (hnw_at (by omega) a5)
  replace a6 : hp19x.2 (q + 6) = some (.inl (.byte, 40, fun _ => 0)) := by rw [hh]; exact hset_at (by omega) (hnw_at (by omega) a6)
  replace a7 : hp19x.2 (q + 7) = some (.inl (.int, 6, fun _ => 0)) := by rw [hh]; exact hset_at (by omega) (hnw_at (by omega) a7)
  replace a8 : hp19x.2 (q + 8) = some (.inl (.int, 1236, fun _ => 0)) := by rw [hh]; exact hset_at (by omega) (hnw_at (by omega) a8)
  replace a9 : hp19x.2 (q + 9) = some (.inl (.int, 103, fun _ => 0)) := by rw [hh]; exact hset_at (by omega) (hnw_at (by omega) a9)
  replace a10 : hp19x.2 (q + 10) = some (.inl (.int, 103, fun _ => 0)) := by rw [hh]; exact hset_at (by omega) (hnw_at (by omega) a10)
  replace a11 : hp19x.2 (q + 11) = some (.inl (.int, 36, fun _ => 0)) := by rw [hh]; exact hset_at (by omega) (hnw_at (by omega) a11)
  replace a12 : hp19x.2 (q + 12) = some (.inl (.int, 320, fun _ => 0)) := by rw [hh]; exact hset_at (by omega) (hnw_at (by omega) a12)
  replace a13 : hp19x.2 (q + 13) = some (.inl (.int, 64, fun _ => 0)) := by rw [hh]; exact hset_at (by omega) (hnw_at (by omega) a13)
  replace a14 : hp19x.2 (q + 14) = some (.inl (.int, 448, fun _ => 0)) := by rw [hh]; exact hset_at (by omega) (hnw_at (by omega) a14)
  replace a15 : hp19x.2 (q + 15) = some (.inl (.int, 12, fun _ => 0)) := by rw [hh]; exact hset_at (by omega) (hnw_at (by omega) a15)
  replace a16 : hp19x.2 (q + 16) = some (.inl (.int, 12, fun _ => 0)) := by rw [hh]; exact hset_at (by omega) (hnw_at (by omega) a16)
  replace a17 : hp19x.2 (q + 17) = some (.inl (.int, 12, fun _ => 0)) := by rw [hh]; exact hset_at (by omega) (hnw_at (by omega) a17)
  replace a18 : hp19x.2 (q + 18) = some (.inl (.int, 12, fun _ => 0)) := by rw [hh]; exact hset_at (by omega) (hnw_at (by omega) a18)
  have a19 : hp19x.2 (q + 19) = some (.inl (.int, 12, fun _ => 0)) := by rw [hh]; exact hset_at (by omega) hnw_eq
  have n19 : NO hp hp19x q 19 := ⟨by rw [hh]; show hp18x.1 + 1 = _; have := n18.1; omega, fun x hx => by rw [hh]; exact (hset_ne (by omega)).trans ((hnw_ne (by omega)).trans (n18.2 x hx))⟩
  clear hh o18 e18 n18
  refine wp_aload_n (pc := 159) dX12_init_159 rfl ?_
  refine wp_sipush (pc := 160) (y := 400) dX12_init_160 (by decide) ?_
  refine wp_nwa (pc := 163) (b := q + 20) dX12_init_163 e19 rfl rfl (by decide) rfl (by decide) ar_int (by decide) (by decide) ?_
  refine wp_putf (pc := 165) dX12_init_165 pf_X12_69 (hnw_at (by omega) o19) (by first | decide | exact Nat.lt_of_sub_pos (by decide) | simp) rfl rfl (by first | decide | intro h; cases h) ?_
  refine wp_gen (fun hp20x hh => ?_)
  have o20 : hp20x.2 q = some (.inr (.inr (12, [.ref (q + 1), .int (I 0), .ref (q + 2), .int (I 0), .ref (q + 3), .int (I 0), .int (I 0), .null, .int (I 0), .int (I 0), .int (I 0), .int (I 0), .ref (q + 4), .ref (q + 5), .ref (q + 6), .int (I 0), .int (I 0), .ref (q + 7), .ref (q + 8), .int (I 0), .ref (q + 9), .ref (q + 10), .ref (q + 11), .ref (q + 12), .ref (q + 13), .ref (q + 14), .ref (q + 15), .ref (q + 16), .int (I 0), .ref (q + 17), .ref (q + 18), .ref (q + 19), .int (I 0), .ref (q + 20), .null, .int (I 0), .int (I 0), .null, .null, .null]))) := by rw [hh]; exact hset_eq
  have e20 : hp20x.1 + 4 = q + 21 := by rw [hh]; show hp19x.1 + 1 + 4 = _; omega
  replace a1 : hp20x.2 (q + 1) = some (.inl (.int, 103, fun _ => 0)) := by rw [hh]; exact hset_at (by omega) (hnw_at (by omega) a1)
  replace a2 : hp20x.2 (q + 2) = some (.inl (.byte, 80, fun _ => 0)) := by rw [hh]; exact hset_at (by omega) (hnw_at (by omega) a2)
  replace a3 : hp20x.2 (q + 3) = some (.inl (.long, 16, fun _ => 0)) := by rw [hh]; exact hset_at (by omega) (hnw_at (by omega) a3)
  replace a4 : hp20x.2 (q + 4) = some (.inl (.int, 42, fun _ => 0)) := by rw [hh]; exact hset_at (by omega) (hnw_at (by omega) a4)
  replace a5 : hp20x.2 (q + 5) = some (.inl (.byte, 40, fun _ => 0)) := by rw [hh]; exact hset_at (by omega) (hnw_at (by omega) a5)
  replace a6 : hp20x.2 (q + 6) = some (.inl (.byte, 40, fun _ => 0)) := by rw [hh]; exact hset_at (by omega) (hnw_at (by omega) a6)
  replace a7 : hp20x.2 (q + 7) = some (.inl (.int, 6, fun _ => 0)) := by rw [hh]; exact hset_at (by omega) (hnw_at (by omega) a7)
  replace a8 : hp20x.2 (q + 8) = some (.inl (.int, 1236, fun _ => 0)) := by rw [hh]; exact hset_at (by omega) (hnw_at (by omega) a8)
  replace a9 : hp20x.2 (q + 9) = some (.inl (.int, 103, fun _ => 0)) := by rw [hh]; exact hset_at (by omega) (hnw_at (by omega) a9)
  replace a10 : hp20x.2 (q + 10) = some (.inl (.int, 103, fun _ => 0)) := by rw [hh]; exact hset_at (by omega) (hnw_at (by omega) a10)
  replace a11 : hp20x.2 (q + 11) = some (.inl (.int, 36, fun _ => 0)) := by rw [hh]; exact hset_at (by omega) (hnw_at (by omega) a11)
  replace a12 : hp20x.2 (q + 12) = some (.inl (.int, 320, fun _ => 0)) := by rw [hh]; exact hset_at (by omega) (hnw_at (by omega) a12)
  replace a13 : hp20x.2 (q + 13) = some (.inl (.int, 64, fun _ => 0)) := by rw [hh]; exact hset_at (by omega) (hnw_at (by omega) a13)
  replace a14 : hp20x.2 (q + 14) = some (.inl (.int, 448, fun _ => 0)) := by rw [hh]; exact hset_at (by omega) (hnw_at (by omega) a14)
  replace a15 : hp20x.2 (q + 15) = some (.inl (.int, 12, fun _ => 0)) := by rw [hh]; exact hset_at (by omega) (hnw_at (by omega) a15)
  replace a16 : hp20x.2 (q + 16) = some (.inl (.int, 12, fun _ => 0)) := by rw [hh]; exact hset_at (by omega) (hnw_at (by omega) a16)
  replace a17 : hp20x.2 (q + 17) = some (.inl (.int, 12, fun _ => 0)) := by rw [hh]; exact hset_at (by omega) (hnw_at (by omega) a17)
  replace a18 : hp20x.2 (q + 18) = some (.inl (.int, 12, fun _ => 0)) := by rw [hh]; exact hset_at (by omega) (hnw_at (by omega) a18)
  replace a19 : hp20x.2 (q + 19) = some (.inl (.int, 12, fun _ => 0)) := by rw [hh]; exact hset_at (by omega) (hnw_at (by omega) a19)
  have a20 : hp20x.2 (q + 20) = some (.inl (.int, 400, fun _ => 0)) := by rw [hh]; exact hset_at (by omega) hnw_eq
  have n20 : NO hp hp20x q 20 := ⟨by rw [hh]; show hp19x.1 + 1 = _; have := n19.1; omega, fun x hx => by rw [hh]; exact (hset_ne (by omega)).trans ((hnw_ne (by omega)).trans (n19.2 x hx))⟩
  clear hh o19 e19 n19
  refine wp_aload_n (pc := 168) dX12_init_168 rfl ?_
  refine wp_bipush (pc := 169) (y := 7) dX12_init_169 (by decide) ?_
  refine wp_nwa (pc := 171) (b := q + 21) dX12_init_171 e20 rfl rfl (by decide) rfl (by decide) ar_long (by decide) (by decide) ?_
  refine wp_putf (pc := 173) dX12_init_173 pf_X12_72 (hnw_at (by omega) o20) (by first | decide | exact Nat.lt_of_sub_pos (by decide) | simp) rfl rfl (by first | decide | intro h; cases h) ?_
  refine wp_gen (fun hp21x hh => ?_)
  have o21 : hp21x.2 q = some (.inr (.inr (12, [.ref (q + 1), .int (I 0), .ref (q + 2), .int (I 0), .ref (q + 3), .int (I 0), .int (I 0), .null, .int (I 0), .int (I 0), .int (I 0), .int (I 0), .ref (q + 4), .ref (q + 5), .ref (q + 6), .int (I 0), .int (I 0), .ref (q + 7), .ref (q + 8), .int (I 0), .ref (q + 9), .ref (q + 10), .ref (q + 11), .ref (q + 12), .ref (q + 13), .ref (q + 14), .ref (q + 15), .ref (q + 16), .int (I 0), .ref (q + 17), .ref (q + 18), .ref (q + 19), .int (I 0), .ref (q + 20), .ref (q + 21), .int (I 0), .int (I 0), .null, .null, .null]))) := by rw [hh]; exact hset_eq
  have e21 : hp21x.1 + 4 = q + 22 := by rw [hh]; show hp20x.1 + 1 + 4 = _; omega
  replace a1 : hp21x.2 (q + 1) = some (.inl (.int, 103, fun _ => 0)) := by rw [hh]; exact hset_at (by omega) (hnw_at (by omega) a1)
  replace a2 : hp21x.2 (q + 2) = some (.inl (.byte, 80, fun _ => 0)) := by rw [hh]; exact hset_at (by omega) (hnw_at (by omega) a2)
  replace a3 : hp21x.2 (q + 3) = some (.inl (.long, 16, fun _ => 0)) := by rw [hh]; exact hset_at (by omega) (hnw_at (by omega) a3)
  replace a4 : hp21x.2 (q + 4) = some (.inl (.int, 42, fun _ => 0)) := by rw [hh]; exact hset_at (by omega) (hnw_at (by omega) a4)
  replace a5 : hp21x.2 (q + 5) = some (.inl (.byte, 40, fun _ => 0)) := by rw [hh]; exact hset_at (by omega) (hnw_at (by omega) a5)
  replace a6 : hp21x.2 (q + 6) = some (.inl (.byte, 40, fun _ => 0)) := by rw [hh]; exact hset_at (by omega) (hnw_at (by omega) a6)
  replace a7 : hp21x.2 (q + 7) = some (.inl (.int, 6, fun _ => 0)) := by rw [hh]; exact hset_at (by omega) (hnw_at (by omega) a7)
  replace a8 : hp21x.2 (q + 8) = some (.inl (.int, 1236, fun _ => 0)) := by rw [hh]; exact hset_at (by omega) (hnw_at (by omega) a8)
  replace a9 : hp21x.2 (q + 9) = some (.inl (.int, 103, fun _ => 0)) := by rw [hh]; exact hset_at (by omega) (hnw_at (by omega) a9)
  replace a10 : hp21x.2 (q + 10) = some (.inl (.int, 103, fun _ => 0)) := by rw [hh]; exact hset_at (by omega) (hnw_at (by omega) a10)
  replace a11 : hp21x.2 (q + 11) = some (.inl (.int, 36, fun _ => 0)) := by rw [hh]; exact hset_at (by omega) (hnw_at (by omega) a11)
  replace a12 : hp21x.2 (q + 12) = some (.inl (.int, 320, fun _ => 0)) := by rw [hh]; exact hset_at (by omega) (hnw_at (by omega) a12)
  replace a13 : hp21x.2 (q + 13) = some (.inl (.int, 64, fun _ => 0)) := by rw [hh]; exact hset_at (by omega) (hnw_at (by omega) a13)
  replace a14 : hp21x.2 (q + 14) = some (.inl (.int, 448, fun _ => 0)) := by rw [hh]; exact hset_at (by omega) (hnw_at (by omega) a14)
  replace a15 : hp21x.2 (q + 15) = some (.inl (.int, 12, fun _ => 0)) := by rw [hh]; exact hset_at (by omega) (hnw_at (by omega) a15)
  replace a16 : hp21x.2 (q + 16) = some (.inl (.int, 12, fun _ => 0)) := by rw [hh]; exact hset_at (by omega) (hnw_at (by omega) a16)
  replace a17 : hp21x.2 (q + 17) = some (.inl (.int, 12, fun _ => 0)) := by rw [hh]; exact hset_at (by omega) (hnw_at (by omega) a17)
  replace a18 : hp21x.2 (q + 18) = some (.inl (.int, 12, fun _ => 0)) := by rw [hh]; exact hset_at (by omega) (hnw_at (by omega) a18)
  replace a19 : hp21x.2 (q + 19) = some (.inl (.int, 12, fun _ => 0)) := by rw [hh]; exact hset_at (by omega) (hnw_at (by omega) a19)
  replace a20 : hp21x.2 (q + 20) = some (.inl (.int, 400, fun _ => 0)) := by rw [hh]; exact hset_at (by omega) (hnw_at (by omega) a20)
  have a21 : hp21x.2 (q + 21) = some (.inl (.long, 7, fun _ => 0)) := by rw [hh]; exact hset_at (by omega) hnw_eq
  have n21 : NO hp hp21x q 21 := ⟨by rw [hh]; show hp20x.1 + 1 = _; have := n20.1; omega, fun x hx => by rw [hh]; exact (hset_ne (by omega)).trans ((hnw_ne (by omega)).trans (n20.2 x hx))⟩
  clear hh o20 e20 n20
  refine wp_aload_n (pc := 176) dX12_init_176 rfl ?_
  refine wp_sipush (pc := 177) (y := 206) dX12_init_177 (by decide) ?_
  refine wp_nwa (pc := 180) (b := q + 22) dX12_init_180 e21 rfl rfl (by decide) rfl (by decide) ar_int (by decide) (by decide) ?_
  refine wp_putf (pc := 182) dX12_init_182 pf_X12_75 (hnw_at (by omega) o21) (by first | decide | exact Nat.lt_of_sub_pos (by decide) | simp) rfl rfl (by first | decide | intro h; cases h) ?_
  refine wp_gen (fun hp22x hh => ?_)
  have o22 : hp22x.2 q = some (.inr (.inr (12, [.ref (q + 1), .int (I 0), .ref (q + 2), .int (I 0), .ref (q + 3), .int (I 0), .int (I 0), .null, .int (I 0), .int (I 0), .int (I 0), .int (I 0), .ref (q + 4), .ref (q + 5), .ref (q + 6), .int (I 0), .int (I 0), .ref (q + 7), .ref (q + 8), .int (I 0), .ref (q + 9), .ref (q + 10), .ref (q + 11), .ref (q + 12), .ref (q + 13), .ref (q + 14), .ref (q + 15), .ref (q + 16), .int (I 0), .ref (q + 17), .ref (q + 18), .ref (q + 19), .int (I 0), .ref (q + 20), .ref (q + 21), .int (I 0), .int (I 0), .ref (q + 22), .null, .null]))) := by rw [hh]; exact hset_eq
  have e22 : hp22x.1 + 4 = q + 23 := by rw [hh]; show hp21x.1 + 1 + 4 = _; omega
  replace a1 : hp22x.2 (q + 1) = some (.inl (.int, 103, fun _ => 0)) := by rw [hh]; exact hset_at (by omega) (hnw_at (by omega) a1)
  replace a2 : hp22x.2 (q + 2) = some (.inl (.byte, 80, fun _ => 0)) := by rw [hh]; exact hset_at (by omega) (hnw_at (by omega) a2)
  replace a3 : hp22x.2 (q + 3) = some (.inl (.long, 16, fun _ => 0)) := by rw [hh]; exact hset_at (by omega) (hnw_at (by omega) a3)
  replace a4 : hp22x.2 (q + 4) = some (.inl (.int, 42, fun _ => 0)) := by rw [hh]; exact hset_at (by omega) (hnw_at (by omega) a4)
  replace a5 : hp22x.2 (q + 5) = some (.inl (.byte, 40, fun _ => 0)) := by rw [hh]; exact hset_at (by omega) (hnw_at (by omega) a5)
  replace a6 : hp22x.2 (q + 6) = some (.inl (.byte, 40, fun _ => 0)) := by rw [hh]; exact hset_at (by omega) (hnw_at (by omega) a6)
  replace a7 : hp22x.2 (q + 7) = some (.inl (.int, 6, fun _ => 0)) := by rw [hh]; exact hset_at (by omega) (hnw_at (by omega) a7)
  replace a8 : hp22x.2 (q + 8) = some (.inl (.int, 1236, fun _ => 0)) := by rw [hh]; exact hset_at (by omega) (hnw_at (by omega) a8)
  replace a9 : hp22x.2 (q + 9) = some (.inl (.int, 103, fun _ => 0)) := by rw [hh]; exact hset_at (by omega) (hnw_at (by omega) a9)
  replace a10 : hp22x.2 (q + 10) = some (.inl (.int, 103, fun _ => 0)) := by rw [hh]; exact hset_at (by omega) (hnw_at (by omega) a10)
  replace a11 : hp22x.2 (q + 11) = some (.inl (.int, 36, fun _ => 0)) := by rw [hh]; exact hset_at (by omega) (hnw_at (by omega) a11)
  replace a12 : hp22x.2 (q + 12) = some (.inl (.int, 320, fun _ => 0)) := by rw [hh]; exact hset_at (by omega) (hnw_at (by omega) a12)
  replace a13 : hp22x.2 (q + 13) = some (.inl (.int, 64, fun _ => 0)) := by rw [hh]; exact hset_at (by omega) (hnw_at (by omega) a13)
  replace a14 : hp22x.2 (q + 14) = some (.inl (.int, 448, fun _ => 0)) := by rw [hh]; exact hset_at (by omega) (hnw_at (by omega) a14)
  replace a15 : hp22x.2 (q + 15) = some (.inl (.int, 12, fun _ => 0)) := by rw [hh]; exact hset_at (by omega) (hnw_at (by omega) a15)
  replace a16 : hp22x.2 (q + 16) = some (.inl (.int, 12, fun _ => 0)) := by rw [hh]; exact hset_at (by omega) (hnw_at (by omega) a16)
  replace a17 : hp22x.2 (q + 17) = some (.inl (.int, 12, fun _ => 0)) := by rw [hh]; exact hset_at (by omega) (hnw_at (by omega) a17)
  replace a18 : hp22x.2 (q + 18) = some (.inl (.int, 12, fun _ => 0)) := by rw [hh]; exact hset_at (by omega) (hnw_at (by omega) a18)
  replace a19 : hp22x.2 (q + 19) = some (.inl (.int, 12, fun _ => 0)) := by rw [hh]; exact hset_at (by omega) (hnw_at (by omega) a19)
  replace a20 : hp22x.2 (q + 20) = some (.inl (.int, 400, fun _ => 0)) := by rw [hh]; exact hset_at (by omega) (hnw_at (by omega) a20)
  replace a21 : hp22x.2 (q + 21) = some (.inl (.long, 7, fun _ => 0)) := by rw [hh]; exact hset_at (by omega) (hnw_at (by omega) a21)
  have a22 : hp22x.2 (q + 22) = some (.inl (.int, 206, fun _ => 0)) := by rw [hh]; exact hset_at (by omega) hnw_eq
  have n22 : NO hp hp22x q 22 := ⟨by rw [hh]; show hp21x.1 + 1 = _; have := n21.1; omega, fun x hx => by rw [hh]; exact (hset_ne (by omega)).trans ((hnw_ne (by omega)).trans (n21.2 x hx))⟩
  clear hh o21 e21 n21
  refine wp_aload_n (pc := 185) dX12_init_185 rfl ?_
  refine wp_iconst (pc := 186) dX12_init_186 ?_
  refine wp_nwa (pc := 187) (b := q + 23) dX12_init_187 e22 rfl rfl (by decide) rfl (by decide) ar_boolean (by decide) (by decide) ?_
  refine wp_putf (pc := 189) dX12_init_189 pf_X12_78 (hnw_at (by omega) o22) (by first | decide | exact Nat.lt_of_sub_pos (by decide) | simp) rfl rfl (by first | decide | intro h; cases h) ?_
  refine wp_gen (fun hp23x hh => ?_)
  have o23 : hp23x.2 q = some (.inr (.inr (12, [.ref (q + 1), .int (I 0), .ref (q + 2), .int (I 0), .ref (q + 3), .int (I 0), .int (I 0), .null, .int (I 0), .int (I 0), .int (I 0), .int (I 0), .ref (q + 4), .ref (q + 5), .ref (q + 6), .int (I 0), .int (I 0), .ref (q + 7), .ref (q + 8), .int (I 0), .ref (q + 9), .ref (q + 10), .ref (q + 11), .ref (q + 12), .ref (q + 13), .ref (q + 14), .ref (q + 15), .ref (q + 16), .int (I 0), .ref (q + 17), .ref (q + 18), .ref (q + 19), .int (I 0), .ref (q + 20), .ref (q + 21), .int (I 0), .int (I 0), .ref (q + 22), .ref (q + 23), .null]))) := by rw [hh]; exact hset_eq
  have e23 : hp23x.1 + 4 = q + 24 := by rw [hh]; show hp22x.1 + 1 + 4 = _; omega
  replace a1 : hp23x.2 (q + 1) = some (.inl (.int, 103, fun _ => 0)) := by rw [hh]; exact hset_at (by omega) (hnw_at (by omega) a1)
  replace a2 : hp23x.2 (q + 2) = some (.inl (.byte, 80, fun _ => 0)) := by rw [hh]; exact hset_at (by omega) (hnw_at (by omega) a2)
  replace a3 : hp23x.2 (q + 3) = some (.inl (.long, 16, fun _ => 0)) := by rw [hh]; exact hset_at (by omega) (hnw_at (by omega) a3)
  replace a4 : hp23x.2 (q + 4) = some (.inl (.int, 42, fun _ => 0)) := by rw [hh]; exact hset_at (by omega) (hnw_at (by omega) a4)
  replace a5 : hp23x.2 (q + 5) = some (.inl (.byte, 40, fun _ => 0)) := by rw [hh]; exact hset_at (by omega) (hnw_at (by omega) a5)
  replace a6 : hp23x.2 (q + 6) = some (.inl (.byte, 40, fun _ => 0)) := by rw [hh]; exact hset_at (by omega) (hnw_at (by omega) a6)
  replace a7 : hp23x.2 (q + 7) = some (.inl (.int, 6, fun _ => 0)) := by rw [hh]; exact hset_at (by omega) (hnw_at (by omega) a7)
  replace a8 : hp23x.2 (q + 8) = some (.inl (.int, 1236, fun _ => 0)) := by rw [hh]; exact hset_at (by omega) (hnw_at (by omega) a8)
  replace a9 : hp23x.2 (q + 9) = some (.inl (.int, 103, fun _ => 0)) := by rw [hh]; exact hset_at (by omega) (hnw_at (by omega) a9)
  replace a10 : hp23x.2 (q + 10) = some (.inl (.int, 103, fun _ => 0)) := by rw [hh]; exact hset_at (by omega) (hnw_at (by omega) a10)
  replace a11 : hp23x.2 (q + 11) = some (.inl (.int, 36, fun _ => 0)) := by rw [hh]; exact hset_at (by omega) (hnw_at (by omega) a11)
  replace a12 : hp23x.2 (q + 12) = some (.inl (.int, 320, fun _ => 0)) := by rw [hh]; exact hset_at (by omega) (hnw_at (by omega) a12)
  replace a13 : hp23x.2 (q + 13) = some (.inl (.int, 64, fun _ => 0)) := by rw [hh]; exact hset_at (by omega) (hnw_at (by omega) a13)
  replace a14 : hp23x.2 (q + 14) = some (.inl (.int, 448, fun _ => 0)) := by rw [hh]; exact hset_at (by omega) (hnw_at (by omega) a14)
  replace a15 : hp23x.2 (q + 15) = some (.inl (.int, 12, fun _ => 0)) := by rw [hh]; exact hset_at (by omega) (hnw_at (by omega) a15)
  replace a16 : hp23x.2 (q + 16) = some (.inl (.int, 12, fun _ => 0)) := by rw [hh]; exact hset_at (by omega) (hnw_at (by omega) a16)
  replace a17 : hp23x.2 (q + 17) = some (.inl (.int, 12, fun _ => 0)) := by rw [hh]; exact hset_at (by omega) (hnw_at (by omega) a17)
  replace a18 : hp23x.2 (q + 18) = some (.inl (.int, 12, fun _ => 0)) := by rw [hh]; exact hset_at (by omega) (hnw_at (by omega) a18)
  replace a19 : hp23x.2 (q + 19) = some (.inl (.int, 12, fun _ => 0)) := by rw [hh]; exact hset_at (by omega) (hnw_at (by omega) a19)
  replace a20 : hp23x.2 (q + 20) = some (.inl (.int, 400, fun _ => 0)) := by rw [hh]; exact hset_at (by omega) (hnw_at (by omega) a20)
  replace a21 : hp23x.2 (q + 21) = some (.inl (.long, 7, fun _ => 0)) := by rw [hh]; exact hset_at (by omega) (hnw_at (by omega) a21)
  replace a22 : hp23x.2 (q + 22) = some (.inl (.int, 206, fun _ => 0)) := by rw [hh]; exact hset_at (by omega) (hnw_at (by omega) a22)
  have a23 : hp23x.2 (q + 23) = some (.inl (.boolean, 2, fun _ => 0)) := by rw [hh]; exact hset_at (by omega) hnw_eq
  have n23 : NO hp hp23x q 23 := ⟨by rw [hh]; show hp22x.1 + 1 = _; have := n22.1; omega, fun x hx => by rw [hh]; exact (hset_ne (by omega)).trans ((hnw_ne (by omega)).trans (n22.2 x hx))⟩
  clear hh o22 e22 n22
  refine wp_aload_n (pc := 192) dX12_init_192 rfl ?_
  refine wp_iconst (pc := 193) dX12_init_193 ?_
  refine wp_nwa (pc := 194) (b := q + 24) dX12_init_194 e23 rfl rfl (by decide) rfl (by decide) ar_int (by decide) (by decide) ?_
  refine wp_putf (pc := 196) dX12_init_196 pf_X12_82 (hnw_at (by omega) o23) (by first | decide | exact Nat.lt_of_sub_pos (by decide) | simp) rfl rfl (by first | decide | intro h; cases h) ?_
  refine wp_gen (fun hp24x hh => ?_)
  have o24 : hp24x.2 q = some (.inr (.inr (12, [.ref (q + 1), .int (I 0), .ref (q + 2), .int (I 0), .ref (q + 3), .int (I 0), .int (I 0), .null, .int (I 0), .int (I 0), .int (I 0), .int (I 0), .ref (q + 4), .ref (q + 5), .ref (q + 6), .int (I 0), .int (I 0), .ref (q + 7), .ref (q + 8), .int (I 0), .ref (q + 9), .ref (q + 10), .ref (q + 11), .ref (q + 12), .ref (q + 13), .ref (q + 14), .ref (q + 15), .ref (q + 16), .int (I 0), .ref (q + 17), .ref (q + 18), .ref (q + 19), .int (I 0), .ref (q + 20), .ref (q + 21), .int (I 0), .int (I 0), .ref (q + 22), .ref (q + 23), .ref (q + 24)]))) := by rw [hh]; exact hset_eq
  have e24 : hp24x.1 + 4 = q + 25 := by rw [hh]; show hp23x.1 + 1 + 4 = _; omega
  replace a1 : hp24x.2 (q + 1) = some (.inl (.int, 103, fun _ => 0)) := by rw [hh]; exact hset_at (by omega) (hnw_at (by omega) a1)
  replace a2 : hp24x.2 (q + 2) = some (.inl (.byte, 80, fun _ => 0)) := by rw [hh]; exact hset_at (by omega) (hnw_at (by omega) a2)
  replace a3 : hp24x.2 (q + 3) = some (.inl (.long, 16, fun _ => 0)) := by rw [hh]; exact hset_at (by omega) (hnw_at (by omega) a3)
  replace a4 : hp24x.2 (q + 4) = some (.inl (.int, 42, fun _ => 0)) := by rw [hh]; exact hset_at (by omega) (hnw_at (by omega) a4)
  replace a5 : hp24x.2 (q + 5) = some (.inl (.byte, 40, fun _ => 0)) := by rw [hh]; exact hset_at (by omega) (hnw_at (by omega) a5)
  replace a6 : hp24x.2 (q + 6) = some (.inl (.byte, 40, fun _ => 0)) := by rw [hh]; exact hset_at (by omega) (hnw_at (by omega) a6)
  replace a7 : hp24x.2 (q + 7) = some (.inl (.int, 6, fun _ => 0)) := by rw [hh]; exact hset_at (by omega) (hnw_at (by omega) a7)
  replace a8 : hp24x.2 (q + 8) = some (.inl (.int, 1236, fun _ => 0)) := by rw [hh]; exact hset_at (by omega) (hnw_at (by omega) a8)
  replace a9 : hp24x.2 (q + 9) = some (.inl (.int, 103, fun _ => 0)) := by rw [hh]; exact hset_at (by omega) (hnw_at (by omega) a9)
  replace a10 : hp24x.2 (q + 10) = some (.inl (.int, 103, fun _ => 0)) := by rw [hh]; exact hset_at (by omega) (hnw_at (by omega) a10)
  replace a11 : hp24x.2 (q + 11) = some (.inl (.int, 36, fun _ => 0)) := by rw [hh]; exact hset_at (by omega) (hnw_at (by omega) a11)
  replace a12 : hp24x.2 (q + 12) = some (.inl (.int, 320, fun _ => 0)) := by rw [hh]; exact hset_at (by omega) (hnw_at (by omega) a12)
  replace a13 : hp24x.2 (q + 13) = some (.inl (.int, 64, fun _ => 0)) := by rw [hh]; exact hset_at (by omega) (hnw_at (by omega) a13)
  replace a14 : hp24x.2 (q + 14) = some (.inl (.int, 448, fun _ => 0)) := by rw [hh]; exact hset_at (by omega) (hnw_at (by omega) a14)
  replace a15 : hp24x.2 (q + 15) = some (.inl (.int, 12, fun _ => 0)) := by rw [hh]; exact hset_at (by omega) (hnw_at (by omega) a15)
  replace a16 : hp24x.2 (q + 16) = some (.inl (.int, 12, fun _ => 0)) := by rw [hh]; exact hset_at (by omega) (hnw_at (by omega) a16)
  replace a17 : hp24x.2 (q + 17) = some (.inl (.int, 12, fun _ => 0)) := by rw [hh]; exact hset_at (by omega) (hnw_at (by omega) a17)
  replace a18 : hp24x.2 (q + 18) = some (.inl (.int, 12, fun _ => 0)) := by rw [hh]; exact hset_at (by omega) (hnw_at (by omega) a18)
  replace a19 : hp24x.2 (q + 19) = some (.inl (.int, 12, fun _ => 0)) := by rw [hh]; exact hset_at (by omega) (hnw_at (by omega) a19)
  replace a20 : hp24x.2 (q + 20) = some (.inl (.int, 400, fun _ => 0)) := by rw [hh]; exact hset_at (by omega) (hnw_at (by omega) a20)
  replace a21 : hp24x.2 (q + 21) = some (.inl (.long, 7, fun _ => 0)) := by rw [hh]; exact hset_at (by omega) (hnw_at (by omega) a21)
  replace a22 : hp24x.2 (q + 22) = some (.inl (.int, 206, fun _ => 0)) := by rw [hh]; exact hset_at (by omega) (hnw_at (by omega) a22)
  replace a23 : hp24x.2 (q + 23) = some (.inl (.boolean, 2, fun _ => 0)) := by rw [hh]; exact hset_at (by omega) (hnw_at (by omega) a23)
  have a24 : hp24x.2 (q + 24) = some (.inl (.int, 2, fun _ => 0)) := by rw [hh]; exact hset_at (by omega) hnw_eq
  have n24 : NO hp hp24x q 24 := ⟨by rw [hh]; show hp23x.1 + 1 = _; have := n23.1; omega, fun x hx => by rw [hh]; exact (hset_ne (by omega)).trans ((hnw_ne (by omega)).trans (n23.2 x hx))⟩
  clear hh o23 e23 n23
  exact wp_vr (pc := 199) dX12_init_199 rfl (by decide) (by decide) ⟨⟨o24, all24 a1 a2 a3 a4 a5 a6 a7 a8 a9 a10 a11 a12 a13 a14 a15 a16 a17 a18 a19 a20 a21 a22 a23 a24⟩, n24⟩
end MRa

