/-! Shifts and Hearsay -/
section SH
variable {g : GT} {hp hp2 : Hp} {s n N h : Nat} {O D W F : Int → Int} {a b c d i o v : Int}
def allb (P : Nat → Bool) : Nat → Bool
  | 0 => true
  | n + 1 => allb P n && P n
theorem allb_iff (P : Nat → Bool) : ∀ n, allb P n = true ↔ ∀ i, i < n → P i = true
  | 0 => by simp [allb]
  | n + 1 => by
    show (allb P n && P n) = true ↔ _
    rw [Bool.and_eq_true, allb_iff P n]
    constructor
    · intro h i hi
      by_cases e : i = n
      · rw [e]; exact h.2
      · exact h.1 i (by omega)
    · intro h
      exact ⟨fun i hi => h i (by omega), h n (by omega)⟩
/-- three rows of twelve with n entries; the tally is scratch -/
def ShiftsAt (hp : Hp) (s : Nat) (O D W : Int → Int) (n : Nat) : Prop := hp.2 s = some (.inr (.inr (8, [.ref (s + 1), .ref (s + 2), .ref (s + 3), .int (I (n : Int)), .ref (s + 4)]))) ∧ hp.2 (s + 1) = some (.inl (.int, 12, O)) ∧ hp.2 (s + 2) = some (.inl (.int, 12, D)) ∧ hp.2 (s + 3) = some (.inl (.int, 12, W)) ∧ (∃ F, hp.2 (s + 4) = some (.inl (.int, 10, F))) ∧ n ≤ 12 ∧ (∀ i, 0 ≤ O i ∧ O i ≤ 9) ∧ (∀ i, 0 ≤ D i ∧ D i ≤ 1) ∧ (∀ i, 0 ≤ W i ∧ W i ≤ 9)
theorem ShiftsAt.off (h : ShiftsAt hp s O D W n) (hS : ∀ x, s ≤ x → x < s + 5 → hp2.2 x = hp.2 x) : ShiftsAt hp2 s O D W n := by
  obtain ⟨s0, s1, s2, s3, ⟨F, s4⟩, r⟩ := h
  exact ⟨(hS _ (by omega) (by omega)).trans s0, (hS _ (by omega) (by omega)).trans s1, (hS _ (by omega) (by omega)).trans s2, (hS _ (by omega) (by omega)).trans s3, ⟨F, (hS _ (by omega) (by omega)).trans s4⟩, r⟩
theorem ShiftsAt.fr (h : ShiftsAt hp s O D W n) {lo hi : Nat} (hS : SO hp hp2 lo hi) (hd : hi ≤ s ∨ s + 5 ≤ lo) : ShiftsAt hp2 s O D W n := h.off fun x _ _ => hS.2 x (by omega)
theorem sp_Shifts_size (hs : ShiftsAt hp s O D W n) : Sp g MX8_size (rm 0 0 0) [.ref s] hp (Pur (.int (I (n : Int))) hp) := by
  obtain ⟨s0, s1, s2, s3, ⟨F, s4⟩, hn, rO, rD, rW⟩ := hs
  refine Sp_mk rfl (Nat.le_of_ble_eq_true rfl) ?_
  show wp g _ _ _ 0 0 0 [some (.ref s)] [] hp
  refine wp_aload_n (pc := 0) dX8_size_0 rfl ?_
  refine wp_getf (pc := 1) dX8_size_1 gf_X8_24 (by repeat (first | assumption | exact hset_eq | refine hset_at (by omega) ?_)) (by rfl) ?_
  exact wp_ir (pc := 4) dX8_size_4 rfl (by decide) (by decide) (by first | rfl | omega) rfl
theorem sp_Shifts_clear (hs : ShiftsAt hp s O D W n) : Sp g MX8_clear (rm 0 0 0) [.ref s] hp (Eff (.int (I (n : Int))) (fun hp2 => ShiftsAt hp2 s O D W 0 ∧ SO hp hp2 s (s + 5))) := by
  obtain ⟨s0, s1, s2, s3, ⟨F, s4⟩, hn, rO, rD, rW⟩ := hs
  refine Sp_mk rfl (Nat.le_of_ble_eq_true rfl) ?_
  show wp g _ _ _ 0 0 0 [some (.ref s), none] [] hp
  refine wp_aload_n (pc := 0) dX8_clear_0 rfl ?_
  refine wp_getf (pc := 1) dX8_clear_1 gf_X8_24 (by repeat (first | assumption | exact hset_eq | refine hset_at (by omega) ?_)) (by rfl) ?_
  refine wp_istore_n (pc := 4) dX8_clear_4 (by decide) ?_
  refine wp_aload_n (pc := 5) dX8_clear_5 rfl ?_
  refine wp_iconst (pc := 6) dX8_clear_6 ?_
  refine wp_putf (pc := 7) dX8_clear_7 pf_X8_24 (by repeat (first | assumption | exact hset_eq | refine hset_at (by omega) ?_)) (by first | decide | exact Nat.lt_of_sub_pos (by decide) | simp) rfl rfl (by first | decide | intro h; cases h) ?_
  refine wp_iload_n (pc := 10) dX8_clear_10 rfl ?_
  exact wp_ir (pc := 11) dX8_clear_11 rfl (by decide) (by decide) (by first | rfl | omega) ⟨⟨hset_eq, (by repeat (first | assumption | exact hset_eq | refine hset_at (by omega) ?_)), (by repeat (first | assumption | exact hset_eq | refine hset_at (by omega) ?_)), (by repeat (first | assumption | exact hset_eq | refine hset_at (by omega) ?_)), ⟨F, (by repeat (first | assumption | exact hset_eq | refine hset_at (by omega) ?_))⟩, by omega, rO, rD, rW⟩, (by repeat (first | exact SO.rf | assumption | refine SO.set ?_ (by omega) (by omega)))⟩
theorem sp_Shifts_add (hs : ShiftsAt hp s O D W n) (ra : InR a) (rb : InR b) (rc : InR c) : Sp g MX8_add (rm 0 0 0) [.ref s, .int (I a), .int (I b), .int (I c)] hp (Eff (.int (I (if (0 ≤ a ∧ a ≤ 9) ∧ (b = 0 ∨ b = 1) ∧ (0 ≤ c ∧ c ≤ 9) ∧ n < 12 then (n : Int) + 1 else -1))) (fun hp2 => (if (0 ≤ a ∧ a ≤ 9) ∧ (b = 0 ∨ b = 1) ∧ (0 ≤ c ∧ c ≤ 9) ∧ n < 12 then ShiftsAt hp2 s (updI O n a) (updI D n b) (updI W n c) (n + 1) else ShiftsAt hp2 s O D W n) ∧ SO hp hp2 s (s + 5))) := by
  have hs' := hs
  obtain ⟨s0, s1, s2, s3, ⟨F, s4⟩, hn, rO, rD, rW⟩ := hs
  refine Sp_mk rfl (Nat.le_of_ble_eq_true rfl) ?_
  show wp g _ _ _ 0 0 0 [some (.ref s), some (.int (I a)), some (.int (I b)), some (.int (I c)), none] [] hp
  refine wp_iload_n (pc := 0) dX8_add_0 rfl ?_
  refine wp_if_lt (pc := 1) 33 dX8_add_1 (by decide) (by omega) (fun c1 => ?_) (fun c1 => ?_)
  ·
    refine wp_iconst (pc := 33) dX8_add_33 ?_
    refine wp_istore (pc := 34) dX8_add_34 (by decide) ?_
    refine wp_iload (pc := 36) dX8_add_36 rfl ?_
    first | refine wp_ifb_eq (pc := 38) 50 dX8_add_38 (by decide) (fun c38 => ?_) (fun c38 => ?_) | refine wp_if_eq (pc := 38) 50 dX8_add_38 (by decide) (by omega) (fun c38 => ?_) (fun c38 => ?_)
    ·
      refine wp_iconst (pc := 50) dX8_add_50 ?_
      exact wp_ir (pc := 51) dX8_add_51 rfl (by decide) (by decide) (by rw [if_neg (by omega)]) ⟨by rw [if_neg (by omega)]; exact hs', SO.rf⟩
    ·
      refine wp_aload_n (pc := 41) dX8_add_41 rfl ?_
      refine wp_getf (pc := 42) dX8_add_42 gf_X8_24 (by repeat (first | assumption | exact hset_eq | refine hset_at (by omega) ?_)) (by rfl) ?_
      refine wp_bipush (pc := 45) (y := 12) dX8_add_45 (by decide) ?_
      refine wp_icmp_lt (pc := 47) 52 dX8_add_47 (by decide) (by omega) (by omega) (fun c47 => ?_) (fun c47 => ?_)
      ·
        refine wp_aload_n (pc := 52) dX8_add_52 rfl ?_
        refine wp_getf (pc := 53) dX8_add_53 gf_X8_11 (by repeat (first | assumption | exact hset_eq | refine hset_at (by omega) ?_)) (by rfl) ?_
        refine wp_aload_n (pc := 56) dX8_add_56 rfl ?_
        refine wp_getf (pc := 57) dX8_add_57 gf_X8_24 (by repeat (first | assumption | exact hset_eq | refine hset_at (by omega) ?_)) (by rfl) ?_
        refine wp_iload_n (pc := 60) dX8_add_60 rfl ?_
        refine wp_iast (pc := 61) dX8_add_61 (by repeat (first | assumption | exact hset_eq | refine hset_at (by omega) ?_)) (by omega) (by omega) (by decide) ?_
        refine wp_aload_n (pc := 62) dX8_add_62 rfl ?_
        refine wp_getf (pc := 63) dX8_add_63 gf_X8_15 (by repeat (first | assumption | exact hset_eq | refine hset_at (by omega) ?_)) (by rfl) ?_
        refine wp_aload_n (pc := 66) dX8_add_66 rfl ?_
        refine wp_getf (pc := 67) dX8_add_67 gf_X8_24 (by repeat (first | assumption | exact hset_eq | refine hset_at (by omega) ?_)) (by rfl) ?_
        refine wp_iload_n (pc := 70) dX8_add_70 rfl ?_
        refine wp_iast (pc := 71) dX8_add_71 (by repeat (first | assumption | exact hset_eq | refine hset_at (by omega) ?_)) (by omega) (by omega) (by decide) ?_
        refine wp_aload_n (pc := 72) dX8_add_72 rfl ?_
        refine wp_getf (pc := 73) dX8_add_73 gf_X8_18 (by repeat (first | assumption | exact hset_eq | refine hset_at (by omega) ?_)) (by rfl) ?_
        refine wp_aload_n (pc := 76) dX8_add_76 rfl ?_
        refine wp_getf (pc := 77) dX8_add_77 gf_X8_24 (by repeat (first | assumption | exact hset_eq | refine hset_at (by omega) ?_)) (by rfl) ?_
        refine wp_iload_n (pc := 80) dX8_add_80 rfl ?_
        refine wp_iast (pc := 81) dX8_add_81 (by repeat (first | assumption | exact hset_eq | refine hset_at (by omega) ?_)) (by omega) (by omega) (by decide) ?_
        refine wp_aload_n (pc := 82) dX8_add_82 rfl ?_
        refine wp_dup (pc := 83) dX8_add_83 rfl ?_
        refine wp_getf (pc := 84) dX8_add_84 gf_X8_24 (by repeat (first | assumption | exact hset_eq | refine hset_at (by omega) ?_)) (by rfl) ?_
        refine wp_iconst (pc := 87) dX8_add_87 ?_
        refine wp_iadd (pc := 88) dX8_add_88 ?_
        refine wp_putf (pc := 89) dX8_add_89 pf_X8_24 (by repeat (first | assumption | exact hset_eq | refine hset_at (by omega) ?_)) (by first | decide | exact Nat.lt_of_sub_pos (by decide) | simp) rfl rfl (by first | decide | intro h; cases h) ?_
        refine wp_aload_n (pc := 92) dX8_add_92 rfl ?_
        refine wp_getf (pc := 93) dX8_add_93 gf_X8_24 (by repeat (first | assumption | exact hset_eq | refine hset_at (by omega) ?_)) (by rfl) ?_
        exact wp_ir (pc := 96) dX8_add_96 rfl (by decide) (by decide) (by rw [if_pos (by omega)]) ⟨by rw [if_pos (by omega)]; exact ⟨hset_eq, (by repeat (first | assumption | exact hset_eq | refine hset_at (by omega) ?_)), (by repeat (first | assumption | exact hset_eq | refine hset_at (by omega) ?_)), (by repeat (first | assumption | exact hset_eq | refine hset_at (by omega) ?_)), ⟨F, (by repeat (first | assumption | exact hset_eq | refine hset_at (by omega) ?_))⟩, by omega, updI_all (P := fun x => 0 ≤ x ∧ x ≤ 9) rO (by omega), updI_all (P := fun x => 0 ≤ x ∧ x ≤ 1) rD (by omega), updI_all (P := fun x => 0 ≤ x ∧ x ≤ 9) rW (by omega)⟩, (by repeat (first | exact SO.rf | assumption | refine SO.set ?_ (by omega) (by omega)))⟩
      ·
        refine wp_iconst (pc := 50) dX8_add_50 ?_
        exact wp_ir (pc := 51) dX8_add_51 rfl (by decide) (by decide) (by rw [if_neg (by omega)]) ⟨by rw [if_neg (by omega)]; exact hs', SO.rf⟩
  ·
    refine wp_iload_n (pc := 4) dX8_add_4 rfl ?_
    refine wp_bipush (pc := 5) (y := 9) dX8_add_5 (by decide) ?_
    refine wp_icmp_gt (pc := 7) 33 dX8_add_7 (by decide) (by omega) (by omega) (fun c7 => ?_) (fun c7 => ?_)
    ·
      refine wp_iconst (pc := 33) dX8_add_33 ?_
      refine wp_istore (pc := 34) dX8_add_34 (by decide) ?_
      refine wp_iload (pc := 36) dX8_add_36 rfl ?_
      first | refine wp_ifb_eq (pc := 38) 50 dX8_add_38 (by decide) (fun c38 => ?_) (fun c38 => ?_) | refine wp_if_eq (pc := 38) 50 dX8_add_38 (by decide) (by omega) (fun c38 => ?_) (fun c38 => ?_)
      ·
        refine wp_iconst (pc := 50) dX8_add_50 ?_
        exact wp_ir (pc := 51) dX8_add_51 rfl (by decide) (by decide) (by rw [if_neg (by omega)]) ⟨by rw [if_neg (by omega)]; exact hs', SO.rf⟩
      ·
        refine wp_aload_n (pc := 41) dX8_add_41 rfl ?_
        refine wp_getf (pc := 42) dX8_add_42 gf_X8_24 (by repeat (first | assumption | exact hset_eq | refine hset_at (by omega) ?_)) (by rfl) ?_
        refine wp_bipush (pc := 45) (y := 12) dX8_add_45 (by decide) ?_
        refine wp_icmp_lt (pc := 47) 52 dX8_add_47 (by decide) (by omega) (by omega) (fun c47 => ?_) (fun c47 => ?_)
        ·
          refine wp_aload_n (pc := 52) dX8_add_52 rfl ?_
          refine wp_getf (pc := 53) dX8_add_53 gf_X8_11 (by repeat (first | assumption | exact hset_eq | refine hset_at (by omega) ?_)) (by rfl) ?_
          refine wp_aload_n (pc := 56) dX8_add_56 rfl ?_
          refine wp_getf (pc := 57) dX8_add_57 gf_X8_24 (by repeat (first | assumption | exact hset_eq | refine hset_at (by omega) ?_)) (by rfl) ?_
          refine wp_iload_n (pc := 60) dX8_add_60 rfl ?_
          refine wp_iast (pc := 61) dX8_add_61 (by repeat (first | assumption | exact hset_eq | refine hset_at (by omega) ?_)) (by omega) (by omega) (by decide) ?_
          refine wp_aload_n (pc := 62) dX8_add_62 rfl ?_
          refine wp_getf (pc := 63) dX8_add_63 gf_X8_15 (by repeat (first | assumption | exact hset_eq | refine hset_at (by omega) ?_)) (by rfl) ?_
          refine wp_aload_n (pc := 66) dX8_add_66 rfl ?_
          refine wp_getf (pc := 67) dX8_add_67 gf_X8_24 (by repeat (first | assumption | exact hset_eq | refine hset_at (by omega) ?_)) (by rfl) ?_
          refine wp_iload_n (pc := 70) dX8_add_70 rfl ?_
          refine wp_iast (pc := 71) dX8_add_71 (by repeat (first | assumption | exact hset_eq | refine hset_at (by omega) ?_)) (by omega) (by omega) (by decide) ?_
          refine wp_aload_n (pc := 72) dX8_add_72 rfl ?_
          refine wp_getf (pc := 73) dX8_add_73 gf_X8_18 (by repeat (first | assumption | exact hset_eq | refine hset_at (by omega) ?_)) (by rfl) ?_
          refine wp_aload_n (pc := 76) dX8_add_76 rfl ?_
          refine wp_getf (pc := 77) dX8_add_77 gf_X8_24 (by repeat (first | assumption | exact hset_eq | refine hset_at (by omega) ?_)) (by rfl) ?_
          refine wp_iload_n (pc := 80) dX8_add_80 rfl ?_
          refine wp_iast (pc := 81) dX8_add_81 (by repeat (first | assumption | exact hset_eq | refine hset_at (by omega) ?_)) (by omega) (by omega) (by decide) ?_
          refine wp_aload_n (pc := 82) dX8_add_82 rfl ?_
          refine wp_dup (pc := 83) dX8_add_83 rfl ?_
          refine wp_getf (pc := 84) dX8_add_84 gf_X8_24 (by repeat (first | assumption | exact hset_eq | refine hset_at (by omega) ?_)) (by rfl) ?_
          refine wp_iconst (pc := 87) dX8_add_87 ?_
          refine wp_iadd (pc := 88) dX8_add_88 ?_
          refine wp_putf (pc := 89) dX8_add_89 pf_X8_24 (by repeat (first | assumption | exact hset_eq | refine hset_at (by omega) ?_)) (by first | decide | exact Nat.lt_of_sub_pos (by decide) | simp) rfl rfl (by first | decide | intro h; cases h) ?_
          refine wp_aload_n (pc := 92) dX8_add_92 rfl ?_
          refine wp_getf (pc := 93) dX8_add_93 gf_X8_24 (by repeat (first | assumption | exact hset_eq | refine hset_at (by omega) ?_)) (by rfl) ?_
          exact wp_ir (pc := 96) dX8_add_96 rfl (by decide) (by decide) (by rw [if_pos (by omega)]) ⟨by rw [if_pos (by omega)]; exact ⟨hset_eq, (by repeat (first | assumption | exact hset_eq | refine hset_at (by omega) ?_)), (by repeat (first | assumption | exact hset_eq | refine hset_at (by omega) ?_)), (by repeat (first | assumption | exact hset_eq | refine hset_at (by omega) ?_)), ⟨F, (by repeat (first | assumption | exact hset_eq | refine hset_at (by omega) ?_))⟩, by omega, updI_all (P := fun x => 0 ≤ x ∧ x ≤ 9) rO (by omega), updI_all (P := fun x => 0 ≤ x ∧ x ≤ 1) rD (by omega), updI_all (P := fun x => 0 ≤ x ∧ x ≤ 9) rW (by omega)⟩, (by repeat (first | exact SO.rf | assumption | refine SO.set ?_ (by omega) (by omega)))⟩
        ·
          refine wp_iconst (pc := 50) dX8_add_50 ?_
          exact wp_ir (pc := 51) dX8_add_51 rfl (by decide) (by decide) (by rw [if_neg (by omega)]) ⟨by rw [if_neg (by omega)]; exact hs', SO.rf⟩
    ·
      refine wp_iload_n (pc := 10) dX8_add_10 rfl ?_
      first | refine wp_ifb_eq (pc := 11) 19 dX8_add_11 (by decide) (fun c11 => ?_) (fun c11 => ?_) | refine wp_if_eq (pc := 11) 19 dX8_add_11 (by decide) (by omega) (fun c11 => ?_) (fun c11 => ?_)
      ·
        refine wp_iload_n (pc := 19) dX8_add_19 rfl ?_
        refine wp_if_lt (pc := 20) 33 dX8_add_20 (by decide) (by omega) (fun c20 => ?_) (fun c20 => ?_)
        ·
          refine wp_iconst (pc := 33) dX8_add_33 ?_
          refine wp_istore (pc := 34) dX8_add_34 (by decide) ?_
          refine wp_iload (pc := 36) dX8_add_36 rfl ?_
          first | refine wp_ifb_eq (pc := 38) 50 dX8_add_38 (by decide) (fun c38 => ?_) (fun c38 => ?_) | refine wp_if_eq (pc := 38) 50 dX8_add_38 (by decide) (by omega) (fun c38 => ?_) (fun c38 => ?_)
          ·
            refine wp_iconst (pc := 50) dX8_add_50 ?_
            exact wp_ir (pc := 51) dX8_add_51 rfl (by decide) (by decide) (by rw [if_neg (by omega)]) ⟨by rw [if_neg (by omega)]; exact hs', SO.rf⟩
          ·
            refine wp_aload_n (pc := 41) dX8_add_41 rfl ?_
            refine wp_getf (pc := 42) dX8_add_42 gf_X8_24 (by repeat (first | assumption | exact hset_eq | refine hset_at (by omega) ?_)) (by rfl) ?_
            refine wp_bipush (pc := 45) (y := 12) dX8_add_45 (by decide) ?_
            refine wp_icmp_lt (pc := 47) 52 dX8_add_47 (by decide) (by omega) (by omega) (fun c47 => ?_) (fun c47 => ?_)
            ·
              refine wp_aload_n (pc := 52) dX8_add_52 rfl ?_
              refine wp_getf (pc := 53) dX8_add_53 gf_X8_11 (by repeat (first | assumption | exact hset_eq | refine hset_at (by omega) ?_)) (by rfl) ?_
              refine wp_aload_n (pc := 56) dX8_add_56 rfl ?_
              refine wp_getf (pc := 57) dX8_add_57 gf_X8_24 (by repeat (first | assumption | exact hset_eq | refine hset_at (by omega) ?_)) (by rfl) ?_
              refine wp_iload_n (pc := 60) dX8_add_60 rfl ?_
              refine wp_iast (pc := 61) dX8_add_61 (by repeat (first | assumption | exact hset_eq | refine hset_at (by omega) ?_)) (by omega) (by omega) (by decide) ?_
              refine wp_aload_n (pc := 62) dX8_add_62 rfl ?_
              refine wp_getf (pc := 63) dX8_add_63 gf_X8_15 (by repeat (first | assumption | exact hset_eq | refine hset_at (by omega) ?_)) (by rfl) ?_
              refine wp_aload_n (pc := 66) dX8_add_66 rfl ?_
              refine wp_getf (pc := 67) dX8_add_67 gf_X8_24 (by repeat (first | assumption | exact hset_eq | refine hset_at (by omega) ?_)) (by rfl) ?_
              refine wp_iload_n (pc := 70) dX8_add_70 rfl ?_
              refine wp_iast (pc := 71) dX8_add_71 (by repeat (first | assumption | exact hset_eq | refine hset_at (by omega) ?_)) (by omega) (by omega) (by decide) ?_
              refine wp_aload_n (pc := 72) dX8_add_72 rfl ?_
              refine wp_getf (pc := 73) dX8_add_73 gf_X8_18 (by repeat (first | assumption | exact hset_eq | refine hset_at (by omega) ?_)) (by rfl) ?_
              refine wp_aload_n (pc := 76) dX8_add_76 rfl ?_
              refine wp_getf (pc := 77) dX8_add_77 gf_X8_24 (by repeat (first | assumption | exact hset_eq | refine hset_at (by omega) ?_)) (by rfl) ?_
              refine wp_iload_n (pc := 80) dX8_add_80 rfl ?_
              refine wp_iast (pc := 81) dX8_add_81 (by repeat (first | assumption | exact hset_eq | refine hset_at (by omega) ?_)) (by omega) (by omega) (by decide) ?_
              refine wp_aload_n (pc := 82) dX8_add_82 rfl ?_
              refine wp_dup (pc := 83) dX8_add_83 rfl ?_
              refine wp_getf (pc := 84) dX8_add_84 gf_X8_24 (by repeat (first | assumption | exact hset_eq | refine hset_at (by omega) ?_)) (by rfl) ?_
              refine wp_iconst (pc := 87) dX8_add_87 ?_
              refine wp_iadd (pc := 88) dX8_add_88 ?_
              refine wp_putf (pc := 89) dX8_add_89 pf_X8_24 (by repeat (first | assumption | exact hset_eq | refine hset_at (by omega) ?_)) (by first | decide | exact Nat.lt_of_sub_pos (by decide) | simp) rfl rfl (by first | decide | intro h; cases h) ?_
              refine wp_aload_n (pc := 92) dX8_add_92 rfl ?_
              refine wp_getf (pc := 93) dX8_add_93 gf_X8_24 (by repeat (first | assumption | exact hset_eq | refine hset_at (by omega) ?_)) (by rfl) ?_
              exact wp_ir (pc := 96) dX8_add_96 rfl (by decide) (by decide) (by rw [if_pos (by omega)]) ⟨by rw [if_pos (by omega)]; exact ⟨hset_eq, (by repeat (first | assumption | exact hset_eq | refine hset_at (by omega) ?_)), (by repeat (first | assumption | exact hset_eq | refine hset_at (by omega) ?_)), (by repeat (first | assumption | exact hset_eq | refine hset_at (by omega) ?_)), ⟨F, (by repeat (first | assumption | exact hset_eq | refine hset_at (by omega) ?_))⟩, by omega, updI_all (P := fun x => 0 ≤ x ∧ x ≤ 9) rO (by omega), updI_all (P := fun x => 0 ≤ x ∧ x ≤ 1) rD (by omega), updI_all (P := fun x => 0 ≤ x ∧ x ≤ 9) rW (by omega)⟩, (by repeat (first | exact SO.rf | assumption | refine SO.set ?_ (by omega) (by omega)))⟩
            ·
              refine wp_iconst (pc := 50) dX8_add_50 ?_
              exact wp_ir (pc := 51) dX8_add_51 rfl (by decide) (by decide) (by rw [if_neg (by omega)]) ⟨by rw [if_neg (by omega)]; exact hs', SO.rf⟩
        ·
          refine wp_iload_n (pc := 23) dX8_add_23 rfl ?_
          refine wp_bipush (pc := 24) (y := 9) dX8_add_24 (by decide) ?_
          refine wp_icmp_gt (pc := 26) 33 dX8_add_26 (by decide) (by omega) (by omega) (fun c26 => ?_) (fun c26 => ?_)
          ·
            refine wp_iconst (pc := 33) dX8_add_33 ?_
            refine wp_istore (pc := 34) dX8_add_34 (by decide) ?_
            refine wp_iload (pc := 36) dX8_add_36 rfl ?_
            first | refine wp_ifb_eq (pc := 38) 50 dX8_add_38 (by decide) (fun c38 => ?_) (fun c38 => ?_) | refine wp_if_eq (pc := 38) 50 dX8_add_38 (by decide) (by omega) (fun c38 => ?_) (fun c38 => ?_)
            ·
              refine wp_iconst (pc := 50) dX8_add_50 ?_
              exact wp_ir (pc := 51) dX8_add_51 rfl (by decide) (by decide) (by rw [if_neg (by omega)]) ⟨by rw [if_neg (by omega)]; exact hs', SO.rf⟩
            ·
              refine wp_aload_n (pc := 41) dX8_add_41 rfl ?_
              refine wp_getf (pc := 42) dX8_add_42 gf_X8_24 (by repeat (first | assumption | exact hset_eq | refine hset_at (by omega) ?_)) (by rfl) ?_
              refine wp_bipush (pc := 45) (y := 12) dX8_add_45 (by decide) ?_
              refine wp_icmp_lt (pc := 47) 52 dX8_add_47 (by decide) (by omega) (by omega) (fun c47 => ?_) (fun c47 => ?_)
              ·
                refine wp_aload_n (pc := 52) dX8_add_52 rfl ?_
                refine wp_getf (pc := 53) dX8_add_53 gf_X8_11 (by repeat (first | assumption | exact hset_eq | refine hset_at (by omega) ?_)) (by rfl) ?_
                refine wp_aload_n (pc := 56) dX8_add_56 rfl ?_
                refine wp_getf (pc := 57) dX8_add_57 gf_X8_24 (by repeat (first | assumption | exact hset_eq | refine hset_at (by omega) ?_)) (by rfl) ?_
                refine wp_iload_n (pc := 60) dX8_add_60 rfl ?_
                refine wp_iast (pc := 61) dX8_add_61 (by repeat (first | assumption | exact hset_eq | refine hset_at (by omega) ?_)) (by omega) (by omega) (by decide) ?_
                refine wp_aload_n (pc := 62) dX8_add_62 rfl ?_
                refine wp_getf (pc := 63) dX8_add_63 gf_X8_15 (by repeat (first | assumption | exact hset_eq | refine hset_at (by omega) ?_)) (by rfl) ?_
                refine wp_aload_n (pc := 66) dX8_add_66 rfl ?_
                refine wp_getf (pc := 67) dX8_add_67 gf_X8_24 (by repeat (first | assumption | exact hset_eq | refine hset_at (by omega) ?_)) (by rfl) ?_
                refine wp_iload_n (pc := 70) dX8_add_70 rfl ?_
                refine wp_iast (pc := 71) dX8_add_71 (by repeat (first | assumption | exact hset_eq | refine hset_at (by omega) ?_)) (by omega) (by omega) (by decide) ?_
                refine wp_aload_n (pc := 72) dX8_add_72 rfl ?_
                refine wp_getf (pc := 73) dX8_add_73 gf_X8_18 (by repeat (first | assumption | exact hset_eq | refine hset_at (by omega) ?_)) (by rfl) ?_
                refine wp_aload_n (pc := 76) dX8_add_76 rfl ?_
                refine wp_getf (pc := 77) dX8_add_77 gf_X8_24 (by repeat (first | assumption | exact hset_eq | refine hset_at (by omega) ?_)) (by rfl) ?_
                refine wp_iload_n (pc := 80) dX8_add_80 rfl ?_
                refine wp_iast (pc := 81) dX8_add_81 (by repeat (first | assumption | exact hset_eq | refine hset_at (by omega) ?_)) (by omega) (by omega) (by decide) ?_
                refine wp_aload_n (pc := 82) dX8_add_82 rfl ?_
                refine wp_dup (pc := 83) dX8_add_83 rfl ?_
                refine wp_getf (pc := 84) dX8_add_84 gf_X8_24 (by repeat (first | assumption | exact hset_eq | refine hset_at (by omega) ?_)) (by rfl) ?_
                refine wp_iconst (pc := 87) dX8_add_87 ?_
                refine wp_iadd (pc := 88) dX8_add_88 ?_
                refine wp_putf (pc := 89) dX8_add_89 pf_X8_24 (by repeat (first | assumption | exact hset_eq | refine hset_at (by omega) ?_)) (by first | decide | exact Nat.lt_of_sub_pos (by decide) | simp) rfl rfl (by first | decide | intro h; cases h) ?_
                refine wp_aload_n (pc := 92) dX8_add_92 rfl ?_
                refine wp_getf (pc := 93) dX8_add_93 gf_X8_24 (by repeat (first | assumption | exact hset_eq | refine hset_at (by omega) ?_)) (by rfl) ?_
                exact wp_ir (pc := 96) dX8_add_96 rfl (by decide) (by decide) (by rw [if_pos (by omega)]) ⟨by rw [if_pos (by omega)]; exact ⟨hset_eq, (by repeat (first | assumption | exact hset_eq | refine hset_at (by omega) ?_)), (by repeat (first | assumption | exact hset_eq | refine hset_at (by omega) ?_)), (by repeat (first | assumption | exact hset_eq | refine hset_at (by omega) ?_)), ⟨F, (by repeat (first | assumption | exact hset_eq | refine hset_at (by omega) ?_))⟩, by omega, updI_all (P := fun x => 0 ≤ x ∧ x ≤ 9) rO (by omega), updI_all (P := fun x => 0 ≤ x ∧ x ≤ 1) rD (by omega), updI_all (P := fun x => 0 ≤ x ∧ x ≤ 9) rW (by omega)⟩, (by repeat (first | exact SO.rf | assumption | refine SO.set ?_ (by omega) (by omega)))⟩
              ·
                refine wp_iconst (pc := 50) dX8_add_50 ?_
                exact wp_ir (pc := 51) dX8_add_51 rfl (by decide) (by decide) (by rw [if_neg (by omega)]) ⟨by rw [if_neg (by omega)]; exact hs', SO.rf⟩
          ·
            refine wp_iconst (pc := 29) dX8_add_29 ?_
            refine wp_goto (pc := 30) 34 dX8_add_30 (by decide) ?_
            refine wp_istore (pc := 34) dX8_add_34 (by decide) ?_
            refine wp_iload (pc := 36) dX8_add_36 rfl ?_
            first | refine wp_ifb_eq (pc := 38) 50 dX8_add_38 (by decide) (fun c38 => ?_) (fun c38 => ?_) | refine wp_if_eq (pc := 38) 50 dX8_add_38 (by decide) (by omega) (fun c38 => ?_) (fun c38 => ?_)
            ·
              refine wp_iconst (pc := 50) dX8_add_50 ?_
              exact wp_ir (pc := 51) dX8_add_51 rfl (by decide) (by decide) (by rw [if_neg (by omega)]) ⟨by rw [if_neg (by omega)]; exact hs', SO.rf⟩
            ·
              refine wp_aload_n (pc := 41) dX8_add_41 rfl ?_
              refine wp_getf (pc := 42) dX8_add_42 gf_X8_24 (by repeat (first | assumption | exact hset_eq | refine hset_at (by omega) ?_)) (by rfl) ?_
              refine wp_bipush (pc := 45) (y := 12) dX8_add_45 (by decide) ?_
              refine wp_icmp_lt (pc := 47) 52 dX8_add_47 (by decide) (by omega) (by omega) (fun c47 => ?_) (fun c47 => ?_)
              ·
                refine wp_aload_n (pc := 52) dX8_add_52 rfl ?_
                refine wp_getf (pc := 53) dX8_add_53 gf_X8_11 (by repeat (first | assumption | exact hset_eq | refine hset_at (by omega) ?_)) (by rfl) ?_
                refine wp_aload_n (pc := 56) dX8_add_56 rfl ?_
                refine wp_getf (pc := 57) dX8_add_57 gf_X8_24 (by repeat (first | assumption | exact hset_eq | refine hset_at (by omega) ?_)) (by rfl) ?_
                refine wp_iload_n (pc := 60) dX8_add_60 rfl ?_
                refine wp_iast (pc := 61) dX8_add_61 (by repeat (first | assumption | exact hset_eq | refine hset_at (by omega) ?_)) (by omega) (by omega) (by decide) ?_
                refine wp_aload_n (pc := 62) dX8_add_62 rfl ?_
                refine wp_getf (pc := 63) dX8_add_63 gf_X8_15 (by repeat (first | assumption | exact hset_eq | refine hset_at (by omega) ?_)) (by rfl) ?_
                refine wp_aload_n (pc := 66) dX8_add_66 rfl ?_
                refine wp_getf (pc := 67) dX8_add_67 gf_X8_24 (by repeat (first | assumption | exact hset_eq | refine hset_at (by omega) ?_)) (by rfl) ?_
                refine wp_iload_n (pc := 70) dX8_add_70 rfl ?_
                refine wp_iast (pc := 71) dX8_add_71 (by repeat (first | assumption | exact hset_eq | refine hset_at (by omega) ?_)) (by omega) (by omega) (by decide) ?_
                refine wp_aload_n (pc := 72) dX8_add_72 rfl ?_
                refine wp_getf (pc := 73) dX8_add_73 gf_X8_18 (by repeat (first | assumption | exact hset_eq | refine hset_at (by omega) ?_)) (by rfl) ?_
                refine wp_aload_n (pc := 76) dX8_add_76 rfl ?_
                refine wp_getf (pc := 77) dX8_add_77 gf_X8_24 (by repeat (first | assumption | exact hset_eq | refine hset_at (by omega) ?_)) (by rfl) ?_
                refine wp_iload_n (pc := 80) dX8_add_80 rfl ?_
                refine wp_iast (pc := 81) dX8_add_81 (by repeat (first | assumption | exact hset_eq | refine hset_at (by omega) ?_)) (by omega) (by omega) (by decide) ?_
                refine wp_aload_n (pc := 82) dX8_add_82 rfl ?_
                refine wp_dup (pc := 83) dX8_add_83 rfl ?_
                refine wp_getf (pc := 84) dX8_add_84 gf_X8_24 (by repeat (first | assumption | exact hset_eq | refine hset_at (by omega) ?_)) (by rfl) ?_
                refine wp_iconst (pc := 87) dX8_add_87 ?_
                refine wp_iadd (pc := 88) dX8_add_88 ?_
                refine wp_putf (pc := 89) dX8_add_89 pf_X8_24 (by repeat (first | assumption | exact hset_eq | refine hset_at (by omega) ?_)) (by first | decide | exact Nat.lt_of_sub_pos (by decide) | simp) rfl rfl (by first | decide | intro h; cases h) ?_
                refine wp_aload_n (pc := 92) dX8_add_92 rfl ?_
                refine wp_getf (pc := 93) dX8_add_93 gf_X8_24 (by repeat (first | assumption | exact hset_eq | refine hset_at (by omega) ?_)) (by rfl) ?_
                exact wp_ir (pc := 96) dX8_add_96 rfl (by decide) (by decide) (by rw [if_pos (by omega)]) ⟨by rw [if_pos (by omega)]; exact ⟨hset_eq, (by repeat (first | assumption | exact hset_eq | refine hset_at (by omega) ?_)), (by repeat (first | assumption | exact hset_eq | refine hset_at (by omega) ?_)), (by repeat (first | assumption | exact hset_eq | refine hset_at (by omega) ?_)), ⟨F, (by repeat (first | assumption | exact hset_eq | refine hset_at (by omega) ?_))⟩, by omega, updI_all (P := fun x => 0 ≤ x ∧ x ≤ 9) rO (by omega), updI_all (P := fun x => 0 ≤ x ∧ x ≤ 1) rD (by omega), updI_all (P := fun x => 0 ≤ x ∧ x ≤ 9) rW (by omega)⟩, (by repeat (first | exact SO.rf | assumption | refine SO.set ?_ (by omega) (by omega)))⟩
              ·
                refine wp_iconst (pc := 50) dX8_add_50 ?_
                exact wp_ir (pc := 51) dX8_add_51 rfl (by decide) (by decide) (by rw [if_neg (by omega)]) ⟨by rw [if_neg (by omega)]; exact hs', SO.rf⟩
      ·
        refine wp_iload_n (pc := 14) dX8_add_14 rfl ?_
        refine wp_iconst (pc := 15) dX8_add_15 ?_
        refine wp_icmp_ne (pc := 16) 33 dX8_add_16 (by decide) (by omega) (by omega) (fun c16 => ?_) (fun c16 => ?_)
        ·
          refine wp_iconst (pc := 33) dX8_add_33 ?_
          refine wp_istore (pc := 34) dX8_add_34 (by decide) ?_
          refine wp_iload (pc := 36) dX8_add_36 rfl ?_
          first | refine wp_ifb_eq (pc := 38) 50 dX8_add_38 (by decide) (fun c38 => ?_) (fun c38 => ?_) | refine wp_if_eq (pc := 38) 50 dX8_add_38 (by decide) (by omega) (fun c38 => ?_) (fun c38 => ?_)
          ·
            refine wp_iconst (pc := 50) dX8_add_50 ?_
            exact wp_ir (pc := 51) dX8_add_51 rfl (by decide) (by decide) (by rw [if_neg (by omega)]) ⟨by rw [if_neg (by omega)]; exact hs', SO.rf⟩
          ·
            refine wp_aload_n (pc := 41) dX8_add_41 rfl ?_
            refine wp_getf (pc := 42) dX8_add_42 gf_X8_24 (by repeat (first | assumption | exact hset_eq | refine hset_at (by omega) ?_)) (by rfl) ?_
            refine wp_bipush (pc := 45) (y := 12) dX8_add_45 (by decide) ?_
            refine wp_icmp_lt (pc := 47) 52 dX8_add_47 (by decide) (by omega) (by omega) (fun c47 => ?_) (fun c47 => ?_)
            ·
              refine wp_aload_n (pc := 52) dX8_add_52 rfl ?_
              refine wp_getf (pc := 53) dX8_add_53 gf_X8_11 (by repeat (first | assumption | exact hset_eq | refine hset_at (by omega) ?_)) (by rfl) ?_
              refine wp_aload_n (pc := 56) dX8_add_56 rfl ?_
              refine wp_getf (pc := 57) dX8_add_57 gf_X8_24 (by repeat (first | assumption | exact hset_eq | refine hset_at (by omega) ?_)) (by rfl) ?_
              refine wp_iload_n (pc := 60) dX8_add_60 rfl ?_
              refine wp_iast (pc := 61) dX8_add_61 (by repeat (first | assumption | exact hset_eq | refine hset_at (by omega) ?_)) (by omega) (by omega) (by decide) ?_
              refine wp_aload_n (pc := 62) dX8_add_62 rfl ?_
              refine wp_getf (pc := 63) dX8_add_63 gf_X8_15 (by repeat (first | assumption | exact hset_eq | refine hset_at (by omega) ?_)) (by rfl) ?_
              refine wp_aload_n (pc := 66) dX8_add_66 rfl ?_
              refine wp_getf (pc := 67) dX8_add_67 gf_X8_24 (by repeat (first | assumption | exact hset_eq | refine hset_at (by omega) ?_)) (by rfl) ?_
              refine wp_iload_n (pc := 70) dX8_add_70 rfl ?_
              refine wp_iast (pc := 71) dX8_add_71 (by repeat (first | assumption | exact hset_eq | refine hset_at (by omega) ?_)) (by omega) (by omega) (by decide) ?_
              refine wp_aload_n (pc := 72) dX8_add_72 rfl ?_
              refine wp_getf (pc := 73) dX8_add_73 gf_X8_18 (by repeat (first | assumption | exact hset_eq | refine hset_at (by omega) ?_)) (by rfl) ?_
              refine wp_aload_n (pc := 76) dX8_add_76 rfl ?_
              refine wp_getf (pc := 77) dX8_add_77 gf_X8_24 (by repeat (first | assumption | exact hset_eq | refine hset_at (by omega) ?_)) (by rfl) ?_
              refine wp_iload_n (pc := 80) dX8_add_80 rfl ?_
              refine wp_iast (pc := 81) dX8_add_81 (by repeat (first | assumption | exact hset_eq | refine hset_at (by omega) ?_)) (by omega) (by omega) (by decide) ?_
              refine wp_aload_n (pc := 82) dX8_add_82 rfl ?_
              refine wp_dup (pc := 83) dX8_add_83 rfl ?_
              refine wp_getf (pc := 84) dX8_add_84 gf_X8_24 (by repeat (first | assumption | exact hset_eq | refine hset_at (by omega) ?_)) (by rfl) ?_
              refine wp_iconst (pc := 87) dX8_add_87 ?_
              refine wp_iadd (pc := 88) dX8_add_88 ?_
              refine wp_putf (pc := 89) dX8_add_89 pf_X8_24 (by repeat (first | assumption | exact hset_eq | refine hset_at (by omega) ?_)) (by first | decide | exact Nat.lt_of_sub_pos (by decide) | simp) rfl rfl (by first | decide | intro h; cases h) ?_
              refine wp_aload_n (pc := 92) dX8_add_92 rfl ?_
              refine wp_getf (pc := 93) dX8_add_93 gf_X8_24 (by repeat (first | assumption | exact hset_eq | refine hset_at (by omega) ?_)) (by rfl) ?_
              exact wp_ir (pc := 96) dX8_add_96 rfl (by decide) (by decide) (by rw [if_pos (by omega)]) ⟨by rw [if_pos (by omega)]; exact ⟨hset_eq, (by repeat (first | assumption | exact hset_eq | refine hset_at (by omega) ?_)), (by repeat (first | assumption | exact hset_eq | refine hset_at (by omega) ?_)), (by repeat (first | assumption | exact hset_eq | refine hset_at (by omega) ?_)), ⟨F, (by repeat (first | assumption | exact hset_eq | refine hset_at (by omega) ?_))⟩, by omega, updI_all (P := fun x => 0 ≤ x ∧ x ≤ 9) rO (by omega), updI_all (P := fun x => 0 ≤ x ∧ x ≤ 1) rD (by omega), updI_all (P := fun x => 0 ≤ x ∧ x ≤ 9) rW (by omega)⟩, (by repeat (first | exact SO.rf | assumption | refine SO.set ?_ (by omega) (by omega)))⟩
            ·
              refine wp_iconst (pc := 50) dX8_add_50 ?_
              exact wp_ir (pc := 51) dX8_add_51 rfl (by decide) (by decide) (by rw [if_neg (by omega)]) ⟨by rw [if_neg (by omega)]; exact hs', SO.rf⟩
        ·
          refine wp_iload_n (pc := 19) dX8_add_19 rfl ?_
          refine wp_if_lt (pc := 20) 33 dX8_add_20 (by decide) (by omega) (fun c20 => ?_) (fun c20 => ?_)
          ·
            refine wp_iconst (pc := 33) dX8_add_33 ?_
            refine wp_istore (pc := 34) dX8_add_34 (by decide) ?_
            refine wp_iload (pc := 36) dX8_add_36 rfl ?_
            first | refine wp_ifb_eq (pc := 38) 50 dX8_add_38 (by decide) (fun c38 => ?_) (fun c38 => ?_) | refine wp_if_eq (pc := 38) 50 dX8_add_38 (by decide) (by omega) (fun c38 => ?_) (fun c38 => ?_)
            ·
              refine wp_iconst (pc := 50) dX8_add_50 ?_
              exact wp_ir (pc := 51) dX8_add_51 rfl (by decide) (by decide) (by rw [if_neg (by omega)]) ⟨by rw [if_neg (by omega)]; exact hs', SO.rf⟩
            ·
              refine wp_aload_n (pc := 41) dX8_add_41 rfl ?_
              refine wp_getf (pc := 42) dX8_add_42 gf_X8_24 (by repeat (first | assumption | exact hset_eq | refine hset_at (by omega) ?_)) (by rfl) ?_
              refine wp_bipush (pc := 45) (y := 12) dX8_add_45 (by decide) ?_
              refine wp_icmp_lt (pc := 47) 52 dX8_add_47 (by decide) (by omega) (by omega) (fun c47 => ?_) (fun c47 => ?_)
              ·
                refine wp_aload_n (pc := 52) dX8_add_52 rfl ?_
                refine wp_getf (pc := 53) dX8_add_53 gf_X8_11 (by repeat (first | assumption | exact hset_eq | refine hset_at (by omega) ?_)) (by rfl) ?_
                refine wp_aload_n (pc := 56) dX8_add_56 rfl ?_
                refine wp_getf (pc := 57) dX8_add_57 gf_X8_24 (by repeat (first | assumption | exact hset_eq | refine hset_at (by omega) ?_)) (by rfl) ?_
                refine wp_iload_n (pc := 60) dX8_add_60 rfl ?_
                refine wp_iast (pc := 61) dX8_add_61 (by repeat (first | assumption | exact hset_eq | refine hset_at (by omega) ?_)) (by omega) (by omega) (by decide) ?_
                refine wp_aload_n (pc := 62) dX8_add_62 rfl ?_
                refine wp_getf (pc := 63) dX8_add_63 gf_X8_15 (by repeat (first | assumption | exact hset_eq | refine hset_at (by omega) ?_)) (by rfl) ?_
                refine wp_aload_n (pc := 66) dX8_add_66 rfl ?_
                refine wp_getf (pc := 67) dX8_add_67 gf_X8_24 (by repeat (first | assumption | exact hset_eq | refine hset_at (by omega) ?_)) (by rfl) ?_
                refine wp_iload_n (pc := 70) dX8_add_70 rfl ?_
                refine wp_iast (pc := 71) dX8_add_71 (by repeat (first | assumption | exact hset_eq | refine hset_at (by omega) ?_)) (by omega) (by omega) (by decide) ?_
                refine wp_aload_n (pc := 72) dX8_add_72 rfl ?_
                refine wp_getf (pc := 73) dX8_add_73 gf_X8_18 (by repeat (first | assumption | exact hset_eq | refine hset_at (by omega) ?_)) (by rfl) ?_
                refine wp_aload_n (pc := 76) dX8_add_76 rfl ?_
                refine wp_getf (pc := 77) dX8_add_77 gf_X8_24 (by repeat (first | assumption | exact hset_eq | refine hset_at (by omega) ?_)) (by rfl) ?_
                refine wp_iload_n (pc := 80) dX8_add_80 rfl ?_
                refine wp_iast (pc := 81) dX8_add_81 (by repeat (first | assumption | exact hset_eq | refine hset_at (by omega) ?_)) (by omega) (by omega) (by decide) ?_
                refine wp_aload_n (pc := 82) dX8_add_82 rfl ?_
                refine wp_dup (pc := 83) dX8_add_83 rfl ?_
                refine wp_getf (pc := 84) dX8_add_84 gf_X8_24 (by repeat (first | assumption | exact hset_eq | refine hset_at (by omega) ?_)) (by rfl) ?_
                refine wp_iconst (pc := 87) dX8_add_87 ?_
                refine wp_iadd (pc := 88) dX8_add_88 ?_
                refine wp_putf (pc := 89) dX8_add_89 pf_X8_24 (by repeat (first | assumption | exact hset_eq | refine hset_at (by omega) ?_)) (by first | decide | exact Nat.lt_of_sub_pos (by decide) | simp) rfl rfl (by first | decide | intro h; cases h) ?_
                refine wp_aload_n (pc := 92) dX8_add_92 rfl ?_
                refine wp_getf (pc := 93) dX8_add_93 gf_X8_24 (by repeat (first | assumption | exact hset_eq | refine hset_at (by omega) ?_)) (by rfl) ?_
                exact wp_ir (pc := 96) dX8_add_96 rfl (by decide) (by decide) (by rw [if_pos (by omega)]) ⟨by rw [if_pos (by omega)]; exact ⟨hset_eq, (by repeat (first | assumption | exact hset_eq | refine hset_at (by omega) ?_)), (by repeat (first | assumption | exact hset_eq | refine hset_at (by omega) ?_)), (by repeat (first | assumption | exact hset_eq | refine hset_at (by omega) ?_)), ⟨F, (by repeat (first | assumption | exact hset_eq | refine hset_at (by omega) ?_))⟩, by omega, updI_all (P := fun x => 0 ≤ x ∧ x ≤ 9) rO (by omega), updI_all (P := fun x => 0 ≤ x ∧ x ≤ 1) rD (by omega), updI_all (P := fun x => 0 ≤ x ∧ x ≤ 9) rW (by omega)⟩, (by repeat (first | exact SO.rf | assumption | refine SO.set ?_ (by omega) (by omega)))⟩
              ·
                refine wp_iconst (pc := 50) dX8_add_50 ?_
                exact wp_ir (pc := 51) dX8_add_51 rfl (by decide) (by decide) (by rw [if_neg (by omega)]) ⟨by rw [if_neg (by omega)]; exact hs', SO.rf⟩
          ·
            refine wp_iload_n (pc := 23) dX8_add_23 rfl ?_
            refine wp_bipush (pc := 24) (y := 9) dX8_add_24 (by decide) ?_
            refine wp_icmp_gt (pc := 26) 33 dX8_add_26 (by decide) (by omega) (by omega) (fun c26 => ?_) (fun c26 => ?_)
            ·
              refine wp_iconst (pc := 33) dX8_add_33 ?_
              refine wp_istore (pc := 34) dX8_add_34 (by decide) ?_
              refine wp_iload (pc := 36) dX8_add_36 rfl ?_
              first | refine wp_ifb_eq (pc := 38) 50 dX8_add_38 (by decide) (fun c38 => ?_) (fun c38 => ?_) | refine wp_if_eq (pc := 38) 50 dX8_add_38 (by decide) (by omega) (fun c38 => ?_) (fun c38 => ?_)
              ·
                refine wp_iconst (pc := 50) dX8_add_50 ?_
                exact wp_ir (pc := 51) dX8_add_51 rfl (by decide) (by decide) (by rw [if_neg (by omega)]) ⟨by rw [if_neg (by omega)]; exact hs', SO.rf⟩
              ·
                refine wp_aload_n (pc := 41) dX8_add_41 rfl ?_
                refine wp_getf (pc := 42) dX8_add_42 gf_X8_24 (by repeat (first | assumption | exact hset_eq | refine hset_at (by omega) ?_)) (by rfl) ?_
                refine wp_bipush (pc := 45) (y := 12) dX8_add_45 (by decide) ?_
                refine wp_icmp_lt (pc := 47) 52 dX8_add_47 (by decide) (by omega) (by omega) (fun c47 => ?_) (fun c47 => ?_)
                ·
                  refine wp_aload_n (pc := 52) dX8_add_52 rfl ?_
                  refine wp_getf (pc := 53) dX8_add_53 gf_X8_11 (by repeat (first | assumption | exact hset_eq | refine hset_at (by omega) ?_)) (by rfl) ?_
                  refine wp_aload_n (pc := 56) dX8_add_56 rfl ?_
                  refine wp_getf (pc := 57) dX8_add_57 gf_X8_24 (by repeat (first | assumption | exact hset_eq | refine hset_at (by omega) ?_)) (by rfl) ?_
                  refine wp_iload_n (pc := 60) dX8_add_60 rfl ?_
                  refine wp_iast (pc := 61) dX8_add_61 (by repeat (first | assumption | exact hset_eq | refine hset_at (by omega) ?_)) (by omega) (by omega) (by decide) ?_
                  refine wp_aload_n (pc := 62) dX8_add_62 rfl ?_
                  refine wp_getf (pc := 63) dX8_add_63 gf_X8_15 (by repeat (first | assumption | exact hset_eq | refine hset_at (by omega) ?_)) (by rfl) ?_
                  refine wp_aload_n (pc := 66) dX8_add_66 rfl ?_
                  refine wp_getf (pc := 67) dX8_add_67 gf_X8_24 (by repeat (first | assumption | exact hset_eq | refine hset_at (by omega) ?_)) (by rfl) ?_
                  refine wp_iload_n (pc := 70) dX8_add_70 rfl ?_
                  refine wp_iast (pc := 71) dX8_add_71 (by repeat (first | assumption | exact hset_eq | refine hset_at (by omega) ?_)) (by omega) (by omega) (by decide) ?_
                  refine wp_aload_n (pc := 72) dX8_add_72 rfl ?_
                  refine wp_getf (pc := 73) dX8_add_73 gf_X8_18 (by repeat (first | assumption | exact hset_eq | refine hset_at (by omega) ?_)) (by rfl) ?_
                  refine wp_aload_n (pc := 76) dX8_add_76 rfl ?_
                  refine wp_getf (pc := 77) dX8_add_77 gf_X8_24 (by repeat (first | assumption | exact hset_eq | refine hset_at (by omega) ?_)) (by rfl) ?_
                  refine wp_iload_n (pc := 80) dX8_add_80 rfl ?_
                  refine wp_iast (pc := 81) dX8_add_81 (by repeat (first | assumption | exact hset_eq | refine hset_at (by omega) ?_)) (by omega) (by omega) (by decide) ?_
                  refine wp_aload_n (pc := 82) dX8_add_82 rfl ?_
                  refine wp_dup (pc := 83) dX8_add_83 rfl ?_
                  refine wp_getf (pc := 84) dX8_add_84 gf_X8_24 (by repeat (first | assumption | exact hset_eq | refine hset_at (by omega) ?_)) (by rfl) ?_
                  refine wp_iconst (pc := 87) dX8_add_87 ?_
                  refine wp_iadd (pc := 88) dX8_add_88 ?_
                  refine wp_putf (pc := 89) dX8_add_89 pf_X8_24 (by repeat (first | assumption | exact hset_eq | refine hset_at (by omega) ?_)) (by first | decide | exact Nat.lt_of_sub_pos (by decide) | simp) rfl rfl (by first | decide | intro h; cases h) ?_
                  refine wp_aload_n (pc := 92) dX8_add_92 rfl ?_
                  refine wp_getf (pc := 93) dX8_add_93 gf_X8_24 (by repeat (first | assumption | exact hset_eq | refine hset_at (by omega) ?_)) (by rfl) ?_
                  exact wp_ir (pc := 96) dX8_add_96 rfl (by decide) (by decide) (by rw [if_pos (by omega)]) ⟨by rw [if_pos (by omega)]; exact ⟨hset_eq, (by repeat (first | assumption | exact hset_eq | refine hset_at (by omega) ?_)), (by repeat (first | assumption | exact hset_eq | refine hset_at (by omega) ?_)), (by repeat (first | assumption | exact hset_eq | refine hset_at (by omega) ?_)), ⟨F, (by repeat (first | assumption | exact hset_eq | refine hset_at (by omega) ?_))⟩, by omega, updI_all (P := fun x => 0 ≤ x ∧ x ≤ 9) rO (by omega), updI_all (P := fun x => 0 ≤ x ∧ x ≤ 1) rD (by omega), updI_all (P := fun x => 0 ≤ x ∧ x ≤ 9) rW (by omega)⟩, (by repeat (first | exact SO.rf | assumption | refine SO.set ?_ (by omega) (by omega)))⟩
                ·
                  refine wp_iconst (pc := 50) dX8_add_50 ?_
                  exact wp_ir (pc := 51) dX8_add_51 rfl (by decide) (by decide) (by rw [if_neg (by omega)]) ⟨by rw [if_neg (by omega)]; exact hs', SO.rf⟩
            ·
              refine wp_iconst (pc := 29) dX8_add_29 ?_
              refine wp_goto (pc := 30) 34 dX8_add_30 (by decide) ?_
              refine wp_istore (pc := 34) dX8_add_34 (by decide) ?_
              refine wp_iload (pc := 36) dX8_add_36 rfl ?_
              first | refine wp_ifb_eq (pc := 38) 50 dX8_add_38 (by decide) (fun c38 => ?_) (fun c38 => ?_) | refine wp_if_eq (pc := 38) 50 dX8_add_38 (by decide) (by omega) (fun c38 => ?_) (fun c38 => ?_)
              ·
                refine wp_iconst (pc := 50) dX8_add_50 ?_
                exact wp_ir (pc := 51) dX8_add_51 rfl (by decide) (by decide) (by rw [if_neg (by omega)]) ⟨by rw [if_neg (by omega)]; exact hs', SO.rf⟩
              ·
                refine wp_aload_n (pc := 41) dX8_add_41 rfl ?_
                refine wp_getf (pc := 42) dX8_add_42 gf_X8_24 (by repeat (first | assumption | exact hset_eq | refine hset_at (by omega) ?_)) (by rfl) ?_
                refine wp_bipush (pc := 45) (y := 12) dX8_add_45 (by decide) ?_
                refine wp_icmp_lt (pc := 47) 52 dX8_add_47 (by decide) (by omega) (by omega) (fun c47 => ?_) (fun c47 => ?_)
                ·
                  refine wp_aload_n (pc := 52) dX8_add_52 rfl ?_
                  refine wp_getf (pc := 53) dX8_add_53 gf_X8_11 (by repeat (first | assumption | exact hset_eq | refine hset_at (by omega) ?_)) (by rfl) ?_
                  refine wp_aload_n (pc := 56) dX8_add_56 rfl ?_
                  refine wp_getf (pc := 57) dX8_add_57 gf_X8_24 (by repeat (first | assumption | exact hset_eq | refine hset_at (by omega) ?_)) (by rfl) ?_
                  refine wp_iload_n (pc := 60) dX8_add_60 rfl ?_
                  refine wp_iast (pc := 61) dX8_add_61 (by repeat (first | assumption | exact hset_eq | refine hset_at (by omega) ?_)) (by omega) (by omega) (by decide) ?_
                  refine wp_aload_n (pc := 62) dX8_add_62 rfl ?_
                  refine wp_getf (pc := 63) dX8_add_63 gf_X8_15 (by repeat (first | assumption | exact hset_eq | refine hset_at (by omega) ?_)) (by rfl) ?_
                  refine wp_aload_n (pc := 66) dX8_add_66 rfl ?_
                  refine wp_getf (pc := 67) dX8_add_67 gf_X8_24 (by repeat (first | assumption | exact hset_eq | refine hset_at (by omega) ?_)) (by rfl) ?_
                  refine wp_iload_n (pc := 70) dX8_add_70 rfl ?_
                  refine wp_iast (pc := 71) dX8_add_71 (by repeat (first | assumption | exact hset_eq | refine hset_at (by omega) ?_)) (by omega) (by omega) (by decide) ?_
                  refine wp_aload_n (pc := 72) dX8_add_72 rfl ?_
                  refine wp_getf (pc := 73) dX8_add_73 gf_X8_18 (by repeat (first | assumption | exact hset_eq | refine hset_at (by omega) ?_)) (by rfl) ?_
                  refine wp_aload_n (pc := 76) dX8_add_76 rfl ?_
                  refine wp_getf (pc := 77) dX8_add_77 gf_X8_24 (by repeat (first | assumption | exact hset_eq | refine hset_at (by omega) ?_)) (by rfl) ?_
                  refine wp_iload_n (pc := 80) dX8_add_80 rfl ?_
                  refine wp_iast (pc := 81) dX8_add_81 (by repeat (first | assumption | exact hset_eq | refine hset_at (by omega) ?_)) (by omega) (by omega) (by decide) ?_
                  refine wp_aload_n (pc := 82) dX8_add_82 rfl ?_
                  refine wp_dup (pc := 83) dX8_add_83 rfl ?_
                  refine wp_getf (pc := 84) dX8_add_84 gf_X8_24 (by repeat (first | assumption | exact hset_eq | refine hset_at (by omega) ?_)) (by rfl) ?_
                  refine wp_iconst (pc := 87) dX8_add_87 ?_
                  refine wp_iadd (pc := 88) dX8_add_88 ?_
                  refine wp_putf (pc := 89) dX8_add_89 pf_X8_24 (by repeat (first | assumption | exact hset_eq | refine hset_at (by omega) ?_)) (by first | decide | exact Nat.lt_of_sub_pos (by decide) | simp) rfl rfl (by first | decide | intro h; cases h) ?_
                  refine wp_aload_n (pc := 92) dX8_add_92 rfl ?_
                  refine wp_getf (pc := 93) dX8_add_93 gf_X8_24 (by repeat (first | assumption | exact hset_eq | refine hset_at (by omega) ?_)) (by rfl) ?_
                  exact wp_ir (pc := 96) dX8_add_96 rfl (by decide) (by decide) (by rw [if_pos (by omega)]) ⟨by rw [if_pos (by omega)]; exact ⟨hset_eq, (by repeat (first | assumption | exact hset_eq | refine hset_at (by omega) ?_)), (by repeat (first | assumption | exact hset_eq | refine hset_at (by omega) ?_)), (by repeat (first | assumption | exact hset_eq | refine hset_at (by omega) ?_)), ⟨F, (by repeat (first | assumption | exact hset_eq | refine hset_at (by omega) ?_))⟩, by omega, updI_all (P := fun x => 0 ≤ x ∧ x ≤ 9) rO (by omega), updI_all (P := fun x => 0 ≤ x ∧ x ≤ 1) rD (by omega), updI_all (P := fun x => 0 ≤ x ∧ x ≤ 9) rW (by omega)⟩, (by repeat (first | exact SO.rf | assumption | refine SO.set ?_ (by omega) (by omega)))⟩
                ·
                  refine wp_iconst (pc := 50) dX8_add_50 ?_
                  exact wp_ir (pc := 51) dX8_add_51 rfl (by decide) (by decide) (by rw [if_neg (by omega)]) ⟨by rw [if_neg (by omega)]; exact hs', SO.rf⟩
/-- what an opinion, moved, is told as -/
def sy (o m : Int) : Int := mx 0 (mi 9 (o + m))
theorem sy_in (o m : Int) : 0 ≤ sy o m ∧ sy o m ≤ 9 := by unfold sy mx mi; split <;> split <;> omega
def fit1 (O D W : Int → Int) (b m : Int) : Nat → Bool := fun i => !(decide (D i = b)) || decide (sy (O i) m = W i)
theorem lp_Shifts_isPossible (hs : ShiftsAt hp s O D W n) (rb : 0 ≤ b ∧ b ≤ 1) (rc : -9 ≤ c ∧ c ≤ 9) : ∀ (m i : Nat), n < i + m → i ≤ n → ∀ (hall : allb (fit1 O D W b c) i = true), wp g MX8_isPossible (rm 2 0 0) (Pur (.int (B (allb (fit1 O D W b c) n = true))) hp) 0 0 2 [some (.ref s), some (.int (I b)), some (.int (I c)), some (.int (I (i : Int)))] [] hp := by
  intro m
  induction m with
  | zero => intro i h1 h2; exact absurd h1 (by omega)
  | succ m ih =>
    intro i h1 h2 hall
    obtain ⟨s0, s1, s2, s3, ⟨F, s4⟩, hn, rO, rD, rW⟩ := hs
    have := rO (i : Int)
    have := rD (i : Int)
    have := rW (i : Int)
    have hsy := sy_in (O (i : Int)) c
    refine wp_iload_n (pc := 2) dX8_isPossible_2 rfl ?_
    refine wp_aload_n (pc := 3) dX8_isPossible_3 rfl ?_
    refine wp_getf (pc := 4) dX8_isPossible_4 gf_X8_24 (by repeat (first | assumption | exact hset_eq | refine hset_at (by omega) ?_)) (by rfl) ?_
    refine wp_icmp_ge (pc := 7) 50 dX8_isPossible_7 (by decide) (by omega) (by omega) (fun c7 => ?_) (fun c7 => ?_)
    ·
      have e : i = n := by omega
      subst e -- go
      refine wp_iconst (pc := 50) dX8_isPossible_50 ?_
      first | exact wp_z1 (pc := 51) dX8_isPossible_51 rfl (by decide) (by decide) hall rfl | exact wp_z0 (pc := 51) dX8_isPossible_51 rfl (by decide) (by decide) hall rfl | exact wp_zb (pc := 51) dX8_isPossible_51 rfl (by decide) (by decide) Iff.rfl rfl
    ·
      refine wp_aload_n (pc := 10) dX8_isPossible_10 rfl ?_
      refine wp_getf (pc := 11) dX8_isPossible_11 gf_X8_15 (by repeat (first | assumption | exact hset_eq | refine hset_at (by omega) ?_)) (by rfl) ?_
      refine wp_iload_n (pc := 14) dX8_isPossible_14 rfl ?_
      refine wp_iald (pc := 15) dX8_isPossible_15 (by repeat (first | assumption | exact hset_eq | refine hset_at (by omega) ?_)) (by omega) (by omega) (by decide) ?_
      refine wp_iload_n (pc := 16) dX8_isPossible_16 rfl ?_
      refine wp_icmp_ne (pc := 17) 44 dX8_isPossible_17 (by decide) (by omega) (by omega) (fun c17 => ?_) (fun c17 => ?_)
      ·
        have hf : fit1 O D W b c i = true := by unfold fit1; simp [c17]
        skip -- go
        refine wp_iinc (pc := 44) dX8_isPossible_44 rfl (by decide) ?_
        refine wp_goto (pc := 47) 2 dX8_isPossible_47 (by decide) ?_
        refine wp_ls ?_ (ih (i + 1) (by omega) (by omega) (by show (_ && _) = true; rw [hall, hf]; rfl))
        · repeat' (first | exact LE_0 | refine LE_s rfl ?_ | refine LE_s (I_c (by first | omega | (simp only [sm]; omega))) ?_ | refine LE_n ?_)
      ·
        refine wp_aload_n (pc := 20) dX8_isPossible_20 rfl ?_
        refine wp_getf (pc := 21) dX8_isPossible_21 gf_X8_11 (by repeat (first | assumption | exact hset_eq | refine hset_at (by omega) ?_)) (by rfl) ?_
        refine wp_iload_n (pc := 24) dX8_isPossible_24 rfl ?_
        refine wp_iald (pc := 25) dX8_isPossible_25 (by repeat (first | assumption | exact hset_eq | refine hset_at (by omega) ?_)) (by omega) (by omega) (by decide) ?_
        refine wp_iload_n (pc := 26) dX8_isPossible_26 rfl ?_
        refine wp_iadd (pc := 27) dX8_isPossible_27 ?_
        refine wp_bipush (pc := 28) (y := 9) dX8_isPossible_28 (by decide) ?_
        refine wp_Sp (pc := 30) dX8_isPossible_30 cl_X8_28 (sp_D_within (by first | assumption | omega) (by first | assumption | omega)) rfl rfl (by decide) (Nat.le_of_ble_eq_true rfl) ?_
        change wp _ _ _ _ _ _ _ _ (Value.int (I (sy (O (i : Int)) c)) :: _) _
        refine wp_aload_n (pc := 33) dX8_isPossible_33 rfl ?_
        refine wp_getf (pc := 34) dX8_isPossible_34 gf_X8_18 (by repeat (first | assumption | exact hset_eq | refine hset_at (by omega) ?_)) (by rfl) ?_
        refine wp_iload_n (pc := 37) dX8_isPossible_37 rfl ?_
        refine wp_iald (pc := 38) dX8_isPossible_38 (by repeat (first | assumption | exact hset_eq | refine hset_at (by omega) ?_)) (by omega) (by omega) (by decide) ?_
        refine wp_icmp_eq (pc := 39) 44 dX8_isPossible_39 (by decide) (by omega) (by omega) (fun c39 => ?_) (fun c39 => ?_)
        ·
          have hf : fit1 O D W b c i = true := by unfold fit1; simp [c39]
          skip -- go
          refine wp_iinc (pc := 44) dX8_isPossible_44 rfl (by decide) ?_
          refine wp_goto (pc := 47) 2 dX8_isPossible_47 (by decide) ?_
          refine wp_ls ?_ (ih (i + 1) (by omega) (by omega) (by show (_ && _) = true; rw [hall, hf]; rfl))
          · repeat' (first | exact LE_0 | refine LE_s rfl ?_ | refine LE_s (I_c (by first | omega | (simp only [sm]; omega))) ?_ | refine LE_n ?_)
        ·
          have hf : ¬ allb (fit1 O D W b c) n = true := fun z => by have := (allb_iff _ _).mp z i (by omega); unfold fit1 at this; simp [c39] at this; exact c17 (fun y => this y)
          skip -- go
          refine wp_iconst (pc := 42) dX8_isPossible_42 ?_
          exact wp_z0 dX8_isPossible_43 rfl (by decide) (by decide) hf rfl
theorem sp_Shifts_isPossible (hs : ShiftsAt hp s O D W n) (rb : 0 ≤ b ∧ b ≤ 1) (rc : -9 ≤ c ∧ c ≤ 9) : Sp g MX8_isPossible (rm 2 0 0) [.ref s, .int (I b), .int (I c)] hp (Pur (.int (B (allb (fit1 O D W b c) n = true))) hp) := by
  refine Sp_mk rfl (Nat.le_of_ble_eq_true rfl) ?_
  show wp g _ _ _ 0 0 0 [some (.ref s), some (.int (I b)), some (.int (I c)), none] [] hp
  refine wp_iconst (pc := 0) dX8_isPossible_0 ?_
  refine wp_istore_n (pc := 1) dX8_isPossible_1 (by decide) ?_
  exact lp_Shifts_isPossible hs rb rc (n + 1) 0 (by omega) (by omega) rfl
/-- the shifts, counted from 0 (that is -9), that are possible -/
def posb (O D W : Int → Int) (n : Nat) (b : Int) : Nat → Bool := fun k => allb (fit1 O D W b ((k : Int) - 9)) n
theorem lp_Shifts_fitting (hs : ShiftsAt hp s O D W n) (rb : 0 ≤ b ∧ b ≤ 1) : ∀ (m i : Nat), 19 < i + m → i ≤ 19 → wp g MX8_fitting (rm 3 0 0) (Pur (.int (I ((cnt (posb O D W n b) 19 : Nat) : Int))) hp) 0 0 5 [some (.ref s), some (.int (I b)), some (.int (I ((cnt (posb O D W n b) i : Nat) : Int))), some (.int (I ((i : Int) - 9)))] [] hp := by
  intro m
  induction m with
  | zero => intro i h1 h2; exact absurd h1 (by omega)
  | succ m ih =>
    intro i h1 h2
    have hs' := hs
    obtain ⟨s0, s1, s2, s3, ⟨F, s4⟩, hn, rO, rD, rW⟩ := hs
    refine wp_iload_n (pc := 5) dX8_fitting_5 rfl ?_
    refine wp_bipush (pc := 6) (y := 9) dX8_fitting_6 (by decide) ?_
    refine wp_icmp_gt (pc := 8) 29 dX8_fitting_8 (by decide) (by omega) (by omega) (fun c8 => ?_) (fun c8 => ?_)
    ·
      have e : i = 19 := by omega
      subst e -- go
      refine wp_iload_n (pc := 29) dX8_fitting_29 rfl ?_
      exact wp_ir (pc := 30) dX8_fitting_30 rfl (by decide) (by decide) (by first | rfl | omega) rfl
    ·
      refine wp_aload_n (pc := 11) dX8_fitting_11 rfl ?_
      refine wp_iload_n (pc := 12) dX8_fitting_12 rfl ?_
      refine wp_iload_n (pc := 13) dX8_fitting_13 rfl ?_
      refine wp_Vp (pc := 14) dX8_fitting_14 cl_X8_32 (sp_Shifts_isPossible (by first | assumption | omega) (by first | assumption | omega) (by first | assumption | omega)) rfl rfl (by repeat (first | assumption | exact hset_eq | refine hset_at (by omega) ?_)) (by rfl) (by decide) (Nat.le_of_ble_eq_true rfl) ?_
      first | refine wp_ifb_eq (pc := 17) 23 dX8_fitting_17 (by decide) (fun c17 => ?_) (fun c17 => ?_) | refine wp_if_eq (pc := 17) 23 dX8_fitting_17 (by decide) (by omega) (fun c17 => ?_) (fun c17 => ?_)
      ·
        have e : cnt (posb O D W n b) (i + 1) = cnt (posb O D W n b) i := by show _ + _ = _; rw [if_neg (by exact c17)]; rfl
        skip -- go
        refine wp_iinc (pc := 23) dX8_fitting_23 rfl (by decide) ?_
        refine wp_goto (pc := 26) 5 dX8_fitting_26 (by decide) ?_
        refine wp_ls ?_ (ih (i + 1) (by omega) (by omega))
        rw [e]
        repeat' (first | exact LE_0 | refine LE_s rfl ?_ | refine LE_s (I_c (by first | omega | (simp only [sm]; omega))) ?_ | refine LE_n ?_)
      ·
        have e : cnt (posb O D W n b) (i + 1) = cnt (posb O D W n b) i + 1 := by show _ + _ = _; rw [if_pos (by exact c17)]
        skip -- go
        refine wp_iinc (pc := 20) dX8_fitting_20 rfl (by decide) ?_
        refine wp_iinc (pc := 23) dX8_fitting_23 rfl (by decide) ?_
        refine wp_goto (pc := 26) 5 dX8_fitting_26 (by decide) ?_
        refine wp_ls ?_ (ih (i + 1) (by omega) (by omega))
        rw [e]
        repeat' (first | exact LE_0 | refine LE_s rfl ?_ | refine LE_s (I_c (by first | omega | (simp only [sm]; omega))) ?_ | refine LE_n ?_)
theorem sp_Shifts_fitting (hs : ShiftsAt hp s O D W n) (rb : 0 ≤ b ∧ b ≤ 1) : Sp g MX8_fitting (rm 3 0 0) [.ref s, .int (I b)] hp (Pur (.int (I ((cnt (posb O D W n b) 19 : Nat) : Int))) hp) := by
  refine Sp_mk rfl (Nat.le_of_ble_eq_true rfl) ?_
  show wp g _ _ _ 0 0 0 [some (.ref s), some (.int (I b)), none, none] [] hp
  refine wp_iconst (pc := 0) dX8_fitting_0 ?_
  refine wp_istore_n (pc := 1) dX8_fitting_1 (by decide) ?_
  refine wp_bipush (pc := 2) (y := (-9)) dX8_fitting_2 (by decide) ?_
  refine wp_istore_n (pc := 4) dX8_fitting_4 (by decide) ?_
  exact lp_Shifts_fitting hs rb 20 0 (by omega) (by omega)
/-- the first place below n where P is, else n -/
def fst (P : Nat → Bool) : Nat → Nat
  | 0 => 0
  | n + 1 => if fst P n < n then fst P n else if P n then n else n + 1
theorem fst_le (P : Nat → Bool) : ∀ n, fst P n ≤ n
  | 0 => Nat.le_refl _
  | n + 1 => by have := fst_le P n; unfold fst; split; omega; split <;> omega
theorem fst_no (P : Nat → Bool) : ∀ n, (∀ i, i < n → P i = false) → fst P n = n
  | 0, _ => rfl
  | n + 1, h => by
    unfold fst
    rw [fst_no P n (fun i hi => h i (by omega)), if_neg (Nat.lt_irrefl n), h n (by omega)]
    simp
theorem fst_at (P : Nat → Bool) {k : Nat} (hk : P k = true) (hb : ∀ i, i < k → P i = false) : ∀ n, k < n → fst P n = k
  | 0, h => by omega
  | n + 1, h => by
    unfold fst
    by_cases e : k = n
    · subst e
      rw [fst_no P k hb, if_neg (Nat.lt_irrefl k), hk]
      simp
    · rw [fst_at P hk hb n (by omega), if_pos (by omega)]
theorem lp_Shifts_least (hs : ShiftsAt hp s O D W n) (rb : 0 ≤ b ∧ b ≤ 1) : ∀ (m i : Nat), 18 < i + m → i ≤ 18 → ∀ (hno : ∀ j, j < i → posb O D W n b j = false), wp g MX8_least (rm 3 0 0) (Pur (.int (I ((fst (posb O D W n b) 18 : Nat) - 9))) hp) 0 0 3 [some (.ref s), some (.int (I b)), some (.int (I ((i : Int) - 9)))] [] hp := by
  intro m
  induction m with
  | zero => intro i h1 h2; exact absurd h1 (by omega)
  | succ m ih =>
    intro i h1 h2 hno
    have hs' := hs
    obtain ⟨s0, s1, s2, s3, ⟨F, s4⟩, hn, rO, rD, rW⟩ := hs
    refine wp_iload_n (pc := 3) dX8_least_3 rfl ?_
    refine wp_bipush (pc := 4) (y := 9) dX8_least_4 (by decide) ?_
    refine wp_icmp_ge (pc := 6) 24 dX8_least_6 (by decide) (by omega) (by omega) (fun c6 => ?_) (fun c6 => ?_)
    ·
      have e : i = 18 := by omega
      subst e
      have e2 := fst_no _ 18 hno -- go
      refine wp_iload_n (pc := 24) dX8_least_24 rfl ?_
      exact wp_ir (pc := 25) dX8_least_25 rfl (by decide) (by decide) (by rw [e2]) rfl
    ·
      refine wp_aload_n (pc := 9) dX8_least_9 rfl ?_
      refine wp_iload_n (pc := 10) dX8_least_10 rfl ?_
      refine wp_iload_n (pc := 11) dX8_least_11 rfl ?_
      refine wp_Vp (pc := 12) dX8_least_12 cl_X8_32 (sp_Shifts_isPossible (by first | assumption | omega) (by first | assumption | omega) (by first | assumption | omega)) rfl rfl (by repeat (first | assumption | exact hset_eq | refine hset_at (by omega) ?_)) (by rfl) (by decide) (Nat.le_of_ble_eq_true rfl) ?_
      first | refine wp_ifb_ne (pc := 15) 24 dX8_least_15 (by decide) (fun c15 => ?_) (fun c15 => ?_) | refine wp_if_ne (pc := 15) 24 dX8_least_15 (by decide) (by omega) (fun c15 => ?_) (fun c15 => ?_)
      ·
        have e2 := fst_at (posb O D W n b) (k := i) c15 hno 18 (by omega)
        skip -- go
        refine wp_iload_n (pc := 24) dX8_least_24 rfl ?_
        exact wp_ir (pc := 25) dX8_least_25 rfl (by decide) (by decide) (by rw [e2]) rfl
      ·
        refine wp_iinc (pc := 18) dX8_least_18 rfl (by decide) ?_
        refine wp_goto (pc := 21) 3 dX8_least_21 (by decide) ?_
        refine wp_ls ?_ (ih (i + 1) (by omega) (by omega) (fun j hj => ?_))
        · repeat' (first | exact LE_0 | refine LE_s rfl ?_ | refine LE_s (I_c (by first | omega | (simp only [sm]; omega))) ?_ | refine LE_n ?_)
        · by_cases e : j = i
          · subst e; exact Bool.eq_false_iff.mpr c15
          · exact hno j (by omega)
theorem sp_Shifts_least (hs : ShiftsAt hp s O D W n) (rb : 0 ≤ b ∧ b ≤ 1) : Sp g MX8_least (rm 3 0 0) [.ref s, .int (I b)] hp (Pur (.int (I ((fst (posb O D W n b) 18 : Nat) - 9))) hp) := by
  refine Sp_mk rfl (Nat.le_of_ble_eq_true rfl) ?_
  show wp g _ _ _ 0 0 0 [some (.ref s), some (.int (I b)), none] [] hp
  refine wp_bipush (pc := 0) (y := (-9)) dX8_least_0 (by decide) ?_
  refine wp_istore_n (pc := 2) dX8_least_2 (by decide) ?_
  exact lp_Shifts_least hs rb 19 0 (by omega) (by omega) (fun j hj => by omega)
end SH

