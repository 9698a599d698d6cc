/-! Shifts and Hearsay -/
section SH
variable {g : GT} {hp hp2 : Hp} {s n N h : Nat} {O D W F : Int → Int} {a b c d i o v : Int}
def allb (P : Nat → Bool) : Nat → Bool
  | 0 => true
  | n + 1 => allb P n && P n
theorem allb_iff (P : Nat → Bool) : ∀ n, allb P n = true ↔ ∀ i, i < n → P i = true
  | 0 => by simp [allb]
  | n + 1 => by
    show (allb P n && P n) = true ↔ _
    rw [Bool.and_eq_true, allb_iff P n]
    constructor
    · intro h i hi
      by_cases e : i = n
      · rw [e]; exact h.2
      · exact h.1 i (by omega)
    · intro h
      exact ⟨fun i hi => h i (by omega), h n (by omega)⟩
/-- three rows of twelve with n entries; the tally is scratch -/
def ShiftsAt (hp : Hp) (s : Nat) (O D W : Int → Int) (n : Nat) : Prop := hp.2 s = some (.inr (.inr (8, [.ref (s + 1), .ref (s + 2), .ref (s + 3), .int (I (n : Int)), .ref (s + 4)]))) ∧ hp.2 (s + 1) = some (.inl (.int, 12, O)) ∧ hp.2 (s + 2) = some (.inl (.int, 12, D)) ∧ hp.2 (s + 3) = some (.inl (.int, 12, W)) ∧ (∃ F, hp.2 (s + 4) = some (.inl (.int, 10, F))) ∧ n ≤ 12 ∧ (∀ i, 0 ≤ O i ∧ O i ≤ 9) ∧ (∀ i, 0 ≤ D i ∧ D i ≤ 1) ∧ (∀ i, 0 ≤ W i ∧ W i ≤ 9)
theorem ShiftsAt.off (h : ShiftsAt hp s O D W n) (hS : ∀ x, s ≤ x → x < s + 5 → hp2.2 x = hp.2 x) : ShiftsAt hp2 s O D W n := by
  obtain ⟨s0, s1, s2, s3, ⟨F, s4⟩, r⟩ := h
  exact ⟨(hS _ (by omega) (by omega)).trans s0, (hS _ (by omega) (by omega)).trans s1, (hS _ (by omega) (by omega)).trans s2, (hS _ (by omega) (by omega)).trans s3, ⟨F, (hS _ (by omega) (by omega)).trans s4⟩, r⟩
theorem ShiftsAt.fr (h : ShiftsAt hp s O D W n) {lo hi : Nat} (hS : SO hp hp2 lo hi) (hd : hi ≤ s ∨ s + 5 ≤ lo) : ShiftsAt hp2 s O D W n := h.off fun x _ _ => hS.2 x (by omega)
theorem sp_Shifts_size (hs : ShiftsAt hp s O D W n) : Sp g MX8_size (rm 0 0 0) [.ref s] hp (Pur (.int (I (n : Int))) hp) := by
  obtain ⟨s0, s1, s2, s3, ⟨F, s4⟩, hn, rO, rD, rW⟩ := hs
  refine Sp_mk rfl (Nat.le_of_ble_eq_true rfl) ?_
  show wp g _ _ _ 0 0 0 [some (.ref s)] [] hp
  refine wp_aload_n (pc := 0) dX8_size_0 rfl ?_
  refine wp_getf (pc := 1) dX8_size_1 gf_X8_24 (by repeat (first | assumption | exact hset_eq | refine hset_at (by omega) ?_)) (by rfl) ?_
  exact wp_ir (pc := 4) dX8_size_4 rfl (by decide) (by decide) (by first | rfl | omega) rfl
theorem sp_Shifts_clear (hs : ShiftsAt hp s O D W n) : Sp g MX8_clear (rm 0 0 0) [.ref s] hp (Eff (.int (I (n : Int))) (fun hp2 => ShiftsAt hp2 s O D W 0 ∧ SO hp hp2 s (s + 5))) := by
  obtain ⟨s0, s1, s2, s3, ⟨F, s4⟩, hn, rO, rD, rW⟩ := hs
  refine Sp_mk rfl (Nat.le_of_ble_eq_true rfl) ?_
  show wp g _ _ _ 0 0 0 [some (.ref s), none] [] hp
  refine wp_aload_n (pc := 0) dX8_clear_0 rfl ?_
  refine wp_getf (pc := 1) dX8_clear_1 gf_X8_24 (by repeat (first | assumption | exact hset_eq | refine hset_at (by omega) ?_)) (by rfl) ?_
  refine wp_istore_n (pc := 4) dX8_clear_4 (by decide) ?_
  refine wp_aload_n (pc := 5) dX8_clear_5 rfl ?_
  refine wp_iconst (pc := 6) dX8_clear_6 ?_
  refine wp_putf (pc := 7) dX8_clear_7 pf_X8_24 (by repeat (first | assumption | exact hset_eq | refine hset_at (by omega) ?_)) (by first | decide | exact Nat.lt_of_sub_pos (by decide) | simp) rfl rfl (by first | decide | intro h; cases h) ?_
  refine wp_iload_n (pc := 10) dX8_clear_10 rfl ?_
  exact wp_ir (pc := 11) dX8_clear_11 rfl (by decide) (by decide) (by first | rfl | omega) ⟨⟨hset_eq, (by repeat (first | assumption | exact hset_eq | refine hset_at (by omega) ?_)), (by repeat (first | assumption | exact hset_eq | refine hset_at (by omega) ?_)), (by repeat (first | assumption | exact hset_eq | refine hset_at (by omega) ?_)), ⟨F, (by repeat (first | assumption | exact hset_eq | refine hset_at (by omega) ?_))⟩, by omega, rO, rD, rW⟩, (by repeat (first | exact SO.rf | assumption | refine SO.set ?_ (by omega) (by omega)))⟩
theorem sp_Shifts_add (hs : ShiftsAt hp s O D W n) (ra : InR a) (rb : InR b) (rc : InR c) : Sp g MX8_add (rm 0 0 0) [.ref s, .int (I a), .int (I b), .int (I c)] hp (Eff (.int (I (if (0 ≤ a ∧ a ≤ 9) ∧ (b = 0 ∨ b = 1) ∧ (0 ≤ c ∧ c ≤ 9) ∧ n < 12 then (n : Int) + 1 else -1))) (fun hp2 => (if (0 ≤ a ∧ a ≤ 9) ∧ (b = 0 ∨ b = 1) ∧ (0 ≤ c ∧ c ≤ 9) ∧ n < 12 then ShiftsAt hp2 s (updI O n a) (updI D n b) (updI W n c) (n + 1) else ShiftsAt hp2 s O D W n) ∧ SO hp hp2 s (s + 5))) := by
  have hs' := hs
  obtain ⟨s0, s1, s2, s3, ⟨F, s4⟩, hn, rO, rD, rW⟩ := hs
  refine Sp_mk rfl (Nat.le_of_ble_eq_true rfl) ?_
  show wp g _ _ _ 0 0 0 [some (.ref s), some (.int (I a)), some (.int (I b)), some (.int (I c)), none] [] hp
  refine wp_iload_n (pc := 0) dX8_add_0 rfl ?_
  refine wp_if_lt (pc := 1) 33 dX8_add_1 (by decide) (by omega) (fun c1 => ?_) (fun c1 => ?_)
  ·
    refine wp_iconst (pc := 33) dX8_add_33 ?_
    refine wp_istore (pc := 34) dX8_add_34 (by decide) ?_
    refine wp_iload (pc := 36) dX8_add_36 rfl ?_
    first | refine wp_ifb_eq (pc := 38) 50 dX8_add_38 (by decide) (fun c38 => ?_) (fun c38 => ?_) | refine wp_if_eq (pc := 38) 50 dX8_add_38 (by decide) (by omega) (fun c38 => ?_) (fun c38 => ?_)
    ·
      refine wp_iconst (pc := 50) dX8_add_50 ?_
      exact wp_ir (pc := 51) dX8_add_51 rfl (by decide) (by decide) (by rw [if_neg (by omega)]) ⟨by rw [if_neg (by omega)]; exact hs', SO.rf⟩
    ·
      refine wp_aload_n (pc := 41) dX8_add_41 rfl ?_
      refine wp_getf (pc := 42) dX8_add_42 gf_X8_24 (by repeat (first | assumption | exact hset_eq | refine hset_at (by omega) ?_)) (by rfl) ?_
      refine wp_bipush (pc := 45) (y := 12) dX8_add_45 (by decide) ?_
      refine wp_icmp_lt (pc := 47) 52 dX8_add_47 (by decide) (by omega) (by omega) (fun c47 => ?_) (fun c47 => ?_)
      ·
        refine wp_aload_n (pc := 52) dX8_add_52 rfl ?_
        refine wp_getf (pc := 53) dX8_add_53 gf_X8_11 (by repeat (first | assumption | exact hset_eq | refine hset_at (by omega) ?_)) (by rfl) ?_
        refine wp_aload_n (pc := 56) dX8_add_56 rfl ?_
        refine wp_getf (pc := 57) dX8_add_57 gf_X8_24 (by repeat (first | assumption | exact hset_eq | refine hset_at (by omega) ?_)) (by rfl) ?_
        refine wp_iload_n (pc := 60) dX8_add_60 rfl ?_
        refine wp_iast (pc := 61) dX8_add_61 (by repeat (first | assumption | exact hset_eq | refine hset_at (by omega) ?_)) (by omega) (by omega) (by decide) ?_
        refine wp_aload_n (pc := 62) dX8_add_62 rfl ?_
        refine wp_getf (pc := 63) dX8_add_63 gf_X8_15 (by repeat (first | assumption | exact hset_eq | refine hset_at (by omega) ?_)) (by rfl) ?_
        refine wp_aload_n (pc := 66) dX8_add_66 rfl ?_
        refine wp_getf (pc := 67) dX8_add_67 gf_X8_24 (by repeat (first | assumption | exact hset_eq | refine hset_at (by omega) ?_)) (by rfl) ?_
        refine wp_iload_n (pc := 70) dX8_add_70 rfl ?_
        refine wp_iast (pc := 71) dX8_add_71 (by repeat (first | assumption | exact hset_eq | refine hset_at (by omega) ?_)) (by omega) (by omega) (by decide) ?_
        refine wp_aload_n (pc := 72) dX8_add_72 rfl ?_
        refine wp_getf (pc := 73) dX8_add_73 gf_X8_18 (by repeat (first | assumption | exact hset_eq | refine hset_at (by omega) ?_)) (by rfl) ?_
        refine wp_aload_n (pc := 76) dX8_add_76 rfl ?_
        refine wp_getf (pc := 77) dX8_add_77 gf_X8_24 (by repeat (first | assumption | exact hset_eq | refine hset_at (by omega) ?_)) (by rfl) ?_
        refine wp_iload_n (pc := 80) dX8_add_80 rfl ?_
        refine wp_iast (pc := 81) dX8_add_81 (by repeat (first | assumption | exact hset_eq | refine hset_at (by omega) ?_)) (by omega) (by omega) (by decide) ?_
        refine wp_aload_n (pc := 82) dX8_add_82 rfl ?_
        refine wp_dup (pc := 83) dX8_add_83 rfl ?_
        refine wp_getf (pc := 84) dX8_add_84 gf_X8_24 (by repeat (first | assumption | exact hset_eq | refine hset_at (by omega) ?_)) (by rfl) ?_
        refine wp_iconst (pc := 87) dX8_add_87 ?_
        refine wp_iadd (pc := 88) dX8_add_88 ?_
        refine wp_putf (pc := 89) dX8_add_89 pf_X8_24 (by repeat (first | assumption | exact hset_eq | refine hset_at (by omega) ?_)) (by first | decide | exact Nat.lt_of_sub_pos (by decide) | simp) rfl rfl (by first | decide | intro h; cases h) ?_
        refine wp_aload_n (pc := 92) dX8_add_92 rfl ?_
        refine wp_getf (pc := 93) dX8_add_93 gf_X8_24 (by repeat (first | assumption | exact hset_eq | refine hset_at (by omega) ?_)) (by rfl) ?_
        exact wp_ir (pc := 96) dX8_add_96 rfl (by decide) (by decide) (by rw [if_pos (by omega)]) ⟨by rw [if_pos (by omega)]; exact ⟨hset_eq, (by repeat (first | assumption | exact hset_eq | refine hset_at (by omega) ?_)), (by repeat (first | assumption | exact hset_eq | refine hset_at (by omega) ?_)), (by repeat (first | assumption | exact hset_eq | refine hset_at (by omega) ?_)), ⟨F, (by repeat (first | assumption | exact hset_eq | refine hset_at (by omega) ?_))⟩, by omega, updI_all (P := fun x => 0 ≤ x ∧ x ≤ 9) rO (by omega), updI_all (P := fun x => 0 ≤ x ∧ x ≤ 1) rD (by omega), updI_all (P := fun x => 0 ≤ x ∧ x ≤ 9) rW (by omega)⟩, (by repeat (first | exact SO.rf | assumption | refine SO.set ?_ (by omega) (by omega)))⟩
      ·
        refine wp_iconst (pc := 50) dX8_add_50 ?_
        exact wp_ir (pc := 51) dX8_add_51 rfl (by decide) (by decide) (by rw [if_neg (by omega)]) ⟨by rw [if_neg (by omega)]; exact hs', SO.rf⟩
  ·
    refine wp_iload_n (pc := 4) dX8_add_4 rfl ?_
    refine wp_bipush (pc := 5) (y := 9) dX8_add_5 (by decide) ?_
    refine wp_icmp_gt (pc := 7) 33 dX8_add_7 (by decide) (by omega) (by omega) (fun c7 => ?_) (fun c7 => ?_)
    ·
      refine wp_iconst (pc := 33) dX8_add_33 ?_
      refine wp_istore (pc := 34) dX8_add_34 (by decide) ?_
      refine wp_iload (pc := 36) dX8_add_36 rfl ?_
      first | refine wp_ifb_eq (pc := 38) 50 dX8_add_38 (by decide) (fun c38 => ?_) (fun c38 => ?_) | refine wp_if_eq (pc := 38) 50 dX8_add_38 (by decide) (by omega) (fun c38 => ?_) (fun c38 => ?_)
      ·
        refine wp_iconst (pc := 50) dX8_add_50 ?_
        exact wp_ir (pc := 51) dX8_add_51 rfl (by decide) (by decide) (by rw [if_neg (by omega)]) ⟨by rw [if_neg (by omega)]; exact hs', SO.rf⟩
      ·
        refine wp_aload_n (pc := 41) dX8_add_41 rfl ?_
        refine wp_getf (pc := 42) dX8_add_42 gf_X8_24 (by repeat (first | assumption | exact hset_eq | refine hset_at (by omega) ?_)) (by rfl) ?_
        refine wp_bipush (pc := 45) (y := 12) dX8_add_45 (by decide) ?_
        refine wp_icmp_lt (pc := 47) 52 dX8_add_47 (by decide) (by omega) (by omega) (fun c47 => ?_) (fun c47 => ?_)
        ·
          refine wp_aload_n (pc := 52) dX8_add_52 rfl ?_
          refine wp_getf (pc := 53) dX8_add_53 gf_X8_11 (by repeat (first | assumption | exact hset_eq | refine hset_at (by omega) ?_)) (by rfl) ?_
          refine wp_aload_n (pc := 56) dX8_add_56 rfl ?_
          refine wp_getf (pc := 57) dX8_add_57 gf_X8_24 (by repeat (first | assumption | exact hset_eq | refine hset_at (by omega) ?_)) (by rfl) ?_
          refine wp_iload_n (pc := 60) dX8_add_60 rfl ?_
          refine wp_iast (pc := 61) dX8_add_61 (by repeat (first | assumption | exact hset_eq | refine hset_at (by omega) ?_)) (by omega) (by omega) (by decide) ?_
          refine wp_aload_n (pc := 62) dX8_add_62 rfl ?_
          refine wp_getf (pc := 63) dX8_add_63 gf_X8_15 (by repeat (first | assumption | exact hset_eq | refine hset_at (by omega) ?_)) (by rfl) ?_
          refine wp_aload_n (pc := 66) dX8_add_66 rfl ?_
          refine wp_getf (pc := 67) dX8_add_67 gf_X8_24 (by repeat (first | assumption | exact hset_eq | refine hset_at (by omega) ?_)) (by rfl) ?_
          refine wp_iload_n (pc := 70) dX8_add_70 rfl ?_
          refine wp_iast (pc := 71) dX8_add_71 (by repeat (first | assumption | exact hset_eq | refine hset_at (by omega) ?_)) (by omega) (by omega) (by decide) ?_
          refine wp_aload_n (pc := 72) dX8_add_72 rfl ?_
          refine wp_getf (pc := 73) dX8_add_73 gf_X8_18 (by repeat (first | assumption | exact hset_eq | refine hset_at (by omega) ?_)) (by rfl) ?_
          refine wp_aload_n (pc := 76) dX8_add_76 rfl ?_
          refine wp_getf (pc := 77) dX8_add_77 gf_X8_24 (by repeat (first | assumption | exact hset_eq | refine hset_at (by omega) ?_)) (by rfl) ?_
          refine wp_iload_n (pc := 80) dX8_add_80 rfl ?_
          refine wp_iast (pc := 81) dX8_add_81 (by repeat (first | assumption | exact hset_eq | refine hset_at (by omega) ?_)) (by omega) (by omega) (by decide) ?_
          refine wp_aload_n (pc := 82) dX8_add_82 rfl ?_
          refine wp_dup (pc := 83) dX8_add_83 rfl ?_
          refine wp_getf (pc := 84) dX8_add_84 gf_X8_24 (by repeat (first | assumption | exact hset_eq | refine hset_at (by omega) ?_)) (by rfl) ?_
          refine wp_iconst (pc := 87) dX8_add_87 ?_
          refine wp_iadd (pc := 88) dX8_add_88 ?_
          refine wp_putf (pc := 89) dX8_add_89 pf_X8_24 (by repeat (first | assumption | exact hset_eq | refine hset_at (by omega) ?_)) (by first | decide | exact Nat.lt_of_sub_pos (by decide) | simp) rfl rfl (by first | decide | intro h; cases h) ?_
          refine wp_aload_n (pc := 92) dX8_add_92 rfl ?_
          refine wp_getf (pc := 93) dX8_add_93 gf_X8_24 (by repeat (first | assumption | exact hset_eq | refine hset_at (by omega) ?_)) (by rfl) ?_
          exact wp_ir (pc := 96) dX8_add_96 rfl (by decide) (by decide) (by rw [if_pos (by omega)]) ⟨by rw [if_pos (by omega)]; exact ⟨hset_eq, (by repeat (first | assumption | exact hset_eq | refine hset_at (by omega) ?_)), (by repeat (first | assumption | exact hset_eq | refine hset_at (by omega) ?_)), (by repeat (first | assumption | exact hset_eq | refine hset_at (by omega) ?_)), ⟨F, (by repeat (first | assumption | exact hset_eq | refine hset_at (by omega) ?_))⟩, by omega, updI_all (P := fun x => 0 ≤ x ∧ x ≤ 9) rO (by omega), updI_all (P := fun x => 0 ≤ x ∧ x ≤ 1) rD (by omega), updI_all (P := fun x => 0 ≤ x ∧ x ≤ 9) rW (by omega)⟩, (by repeat (first | exact SO.rf | assumption | refine SO.set ?_ (by omega) (by omega)))⟩
        ·
          refine wp_iconst (pc := 50) dX8_add_50 ?_
          exact wp_ir (pc := 51) dX8_add_51 rfl (by decide) (by decide) (by rw [if_neg (by omega)]) ⟨by rw [if_neg (by omega)]; exact hs', SO.rf⟩
    ·
      refine wp_iload_n (pc := 10) dX8_add_10 rfl ?_
      first | refine wp_ifb_eq (pc := 11) 19 dX8_add_11 (by decide) (fun c11 => ?_) (fun c11 => ?_) | refine wp_if_eq (pc := 11) 19 dX8_add_11 (by decide) (by omega) (fun c11 => ?_) (fun c11 => ?_)
      ·
        refine wp_iload_n (pc := 19) dX8_add_19 rfl ?_
        refine wp_if_lt (pc := 20) 33 dX8_add_20 (by decide) (by omega) (fun c20 => ?_) (fun c20 => ?_)
        ·
          refine wp_iconst (pc := 33) dX8_add_33 ?_
          refine wp_istore (pc := 34) dX8_add_34 (by decide) ?_
          refine wp_iload (pc := 36) dX8_add_36 rfl ?_
          first | refine wp_ifb_eq (pc := 38) 50 dX8_add_38 (by decide) (fun c38 => ?_) (fun c38 => ?_) | refine wp_if_eq (pc := 38) 50 dX8_add_38 (by decide) (by omega) (fun c38 => ?_) (fun c38 => ?_)
          ·
            refine wp_iconst (pc := 50) dX8_add_50 ?_
            exact wp_ir (pc := 51) dX8_add_51 rfl (by decide) (by decide) (by rw [if_neg (by omega)]) ⟨by rw [if_neg (by omega)]; exact hs', SO.rf⟩
          ·
            refine wp_aload_n (pc := 41) dX8_add_41 rfl ?_
            refine wp_getf (pc := 42) dX8_add_42 gf_X8_24 (by repeat (first | assumption | exact hset_eq | refine hset_at (by omega) ?_)) (by rfl) ?_
            refine wp_bipush (pc := 45) (y := 12) dX8_add_45 (by decide) ?_
            refine wp_icmp_lt (pc := 47) 52 dX8_add_47 (by decide) (by omega) (by omega) (fun c47 => ?_) (fun c47 => ?_)
            ·
              refine wp_aload_n (pc := 52) dX8_add_52 rfl ?_
              refine wp_getf (pc := 53) dX8_add_53 gf_X8_11 (by repeat (first | assumption | exact hset_eq | refine hset_at (by omega) ?_)) (by rfl) ?_
              refine wp_aload_n (pc := 56) dX8_add_56 rfl ?_
              refine wp_getf (pc := 57) dX8_add_57 gf_X8_24 (by repeat (first | assumption | exact hset_eq | refine hset_at (by omega) ?_)) (by rfl) ?_
              refine wp_iload_n (pc := 60) dX8_add_60 rfl ?_
              refine wp_iast (pc := 61) dX8_add_61 (by repeat (first | assumption | exact hset_eq | refine hset_at (by omega) ?_)) (by omega) (by omega) (by decide) ?_
              refine wp_aload_n (pc := 62) dX8_add_62 rfl ?_
              refine wp_getf (pc := 63) dX8_add_63 gf_X8_15 (by repeat (first | assumption | exact hset_eq | refine hset_at (by omega) ?_)) (by rfl) ?_
              refine wp_aload_n (pc := 66) dX8_add_66 rfl ?_
              refine wp_getf (pc := 67) dX8_add_67 gf_X8_24 (by repeat (first | assumption | exact hset_eq | refine hset_at (by omega) ?_)) (by rfl) ?_
              refine wp_iload_n (pc := 70) dX8_add_70 rfl ?_
              refine wp_iast (pc := 71) dX8_add_71 (by repeat (first | assumption | exact hset_eq | refine hset_at (by omega) ?_)) (by omega) (by omega) (by decide) ?_
              refine wp_aload_n (pc := 72) dX8_add_72 rfl ?_
              refine wp_getf (pc := 73) dX8_add_73 gf_X8_18 (by repeat (first | assumption | exact hset_eq | refine hset_at (by omega) ?_)) (by rfl) ?_
              refine wp_aload_n (pc := 76) dX8_add_76 rfl ?_
              refine wp_getf (pc := 77) dX8_add_77 gf_X8_24 (by repeat (first | assumption | exact hset_eq | refine hset_at (by omega) ?_)) (by rfl) ?_
              refine wp_iload_n (pc := 80) dX8_add_80 rfl ?_
              refine wp_iast (pc := 81) dX8_add_81 (by repeat (first | assumption | exact hset_eq | refine hset_at (by omega) ?_)) (by omega) (by omega) (by decide) ?_
              refine wp_aload_n (pc := 82) dX8_add_82 rfl ?_
              refine wp_dup (pc := 83) dX8_add_83 rfl ?_
              refine wp_getf (pc := 84) dX8_add_84 gf_X8_24 (by repeat (first | assumption | exact hset_eq | refine hset_at (by omega) ?_)) (by rfl) ?_
              refine wp_iconst (pc := 87) dX8_add_87 ?_
              refine wp_iadd (pc := 88) dX8_add_88 ?_
              refine wp_putf (pc := 89) dX8_add_89 pf_X8_24 (by repeat (first | assumption | exact hset_eq | refine hset_at (by omega) ?_)) (by first | decide | exact Nat.lt_of_sub_pos (by decide) | simp) rfl rfl (by first | decide | intro h; cases h) ?_
              refine wp_aload_n (pc := 92) dX8_add_92 rfl ?_
              refine wp_getf (pc := 93) dX8_add_93 gf_X8_24 (by repeat (first | assumption | exact hset_eq | refine hset_at (by omega) ?_)) (by rfl) ?_
              exact wp_ir (pc := 96) dX8_add_96 rfl (by decide) (by decide) (by rw [if_pos (by omega)]) ⟨by rw [if_pos (by omega)]; exact ⟨hset_eq, (by repeat (first | assumption | exact hset_eq | refine hset_at (by omega) ?_)), (by repeat (first | assumption | exact hset_eq | refine hset_at (by omega) ?_)), (by repeat (first | assumption | exact hset_eq | refine hset_at (by omega) ?_)), ⟨F, (by repeat (first | assumption | exact hset_eq | refine hset_at (by omega) ?_))⟩, by omega, updI_all (P := fun x => 0 ≤ x ∧ x ≤ 9) rO (by omega), updI_all (P := fun x => 0 ≤ x ∧ x ≤ 1) rD (by omega), updI_all (P := fun x => 0 ≤ x ∧ x ≤ 9) rW (by omega)⟩, (by repeat (first | exact SO.rf | assumption | refine SO.set ?_ (by omega) (by omega)))⟩
            ·
              refine wp_iconst (pc := 50) dX8_add_50 ?_
              exact wp_ir (pc := 51) dX8_add_51 rfl (by decide) (by decide) (by rw [if_neg (by omega)]) ⟨by rw [if_neg (by omega)]; exact hs', SO.rf⟩
        ·
          refine wp_iload_n (pc := 23) dX8_add_23 rfl ?_
          refine wp_bipush (pc := 24) (y := 9) dX8_add_24 (by decide) ?_
          refine wp_icmp_gt (pc := 26) 33 dX8_add_26 (by decide) (by omega) (by omega) (fun c26 => ?_) (fun c26 => ?_)
          ·
            refine wp_iconst (pc := 33) dX8_add_33 ?_
            refine wp_istore (pc := 34) dX8_add_34 (by decide) ?_
            refine wp_iload (pc := 36) dX8_add_36 rfl ?_
            first | refine wp_ifb_eq (pc := 38) 50 dX8_add_38 (by decide) (fun c38 => ?_) (fun c38 => ?_) | refine wp_if_eq (pc := 38) 50 dX8_add_38 (by decide) (by omega) (fun c38 => ?_) (fun c38 => ?_)
            ·
              refine wp_iconst (pc := 50) dX8_add_50 ?_
              exact wp_ir (pc := 51) dX8_add_51 rfl (by decide) (by decide) (by rw [if_neg (by omega)]) ⟨by rw [if_neg (by omega)]; exact hs', SO.rf⟩
            ·
              refine wp_aload_n (pc := 41) dX8_add_41 rfl ?_
              refine wp_getf (pc := 42) dX8_add_42 gf_X8_24 (by repeat (first | assumption | exact hset_eq | refine hset_at (by omega) ?_)) (by rfl) ?_
              refine wp_bipush (pc := 45) (y := 12) dX8_add_45 (by decide) ?_
              refine wp_icmp_lt (pc := 47) 52 dX8_add_47 (by decide) (by omega) (by omega) (fun c47 => ?_) (fun c47 => ?_)
              ·
                refine wp_aload_n (pc := 52) dX8_add_52 rfl ?_
                refine wp_getf (pc := 53) dX8_add_53 gf_X8_11 (by repeat (first | assumption | exact hset_eq | refine hset_at (by omega) ?_)) (by rfl) ?_
                refine wp_aload_n (pc := 56) dX8_add_56 rfl ?_
                refine wp_getf (pc := 57) dX8_add_57 gf_X8_24 (by repeat (first | assumption | exact hset_eq | refine hset_at (by omega) ?_)) (by rfl) ?_
                refine wp_iload_n (pc := 60) dX8_add_60 rfl ?_
                refine wp_iast (pc := 61) dX8_add_61 (by repeat (first | assumption | exact hset_eq | refine hset_at (by omega) ?_)) (by omega) (by omega) (by decide) ?_
                refine wp_aload_n (pc := 62) dX8_add_62 rfl ?_
                refine wp_getf (pc := 63) dX8_add_63 gf_X8_15 (by repeat (first | assumption | exact hset_eq | refine hset_at (by omega) ?_)) (by rfl) ?_
                refine wp_aload_n (pc := 66) dX8_add_66 rfl ?_
                refine wp_getf (pc := 67) dX8_add_67 gf_X8_24 (by repeat (first | assumption | exact hset_eq | refine hset_at (by omega) ?_)) (by rfl) ?_
                refine wp_iload_n (pc := 70) dX8_add_70 rfl ?_
                refine wp_iast (pc := 71) dX8_add_71 (by repeat (first | assumption | exact hset_eq | refine hset_at (by omega) ?_)) (by omega) (by omega) (by decide) ?_
                refine wp_aload_n (pc := 72) dX8_add_72 rfl ?_
                refine wp_getf (pc := 73) dX8_add_73 gf_X8_18 (by repeat (first | assumption | exact hset_eq | refine hset_at (by omega) ?_)) (by rfl) ?_
                refine wp_aload_n (pc := 76) dX8_add_76 rfl ?_
                refine wp_getf (pc := 77) dX8_add_77 gf_X8_24 (by repeat (first | assumption | exact hset_eq | refine hset_at (by omega) ?_)) (by rfl) ?_
                refine wp_iload_n (pc := 80) dX8_add_80 rfl ?_
                refine wp_iast (pc := 81) dX8_add_81 (by repeat (first | assumption | exact hset_eq | refine hset_at (by omega) ?_)) (by omega) (by omega) (by decide) ?_
                refine wp_aload_n (pc := 82) dX8_add_82 rfl ?_
                refine wp_dup (pc := 83) dX8_add_83 rfl ?_
                refine wp_getf (pc := 84) dX8_add_84 gf_X8_24 (by repeat (first | assumption | exact hset_eq | refine hset_at (by omega) ?_)) (by rfl) ?_
                refine wp_iconst (pc := 87) dX8_add_87 ?_
                refine wp_iadd (pc := 88) dX8_add_88 ?_
                refine wp_putf (pc := 89) dX8_add_89 pf_X8_24 (by repeat (first | assumption | exact hset_eq | refine hset_at (by omega) ?_)) (by first | decide | exact Nat.lt_of_sub_pos (by decide) | simp) rfl rfl (by first | decide | intro h; cases h) ?_
                refine wp_aload_n (pc := 92) dX8_add_92 rfl ?_
                refine wp_getf (pc := 93) dX8_add_93 gf_X8_24 (by repeat (first | assumption | exact hset_eq | refine hset_at (by omega) ?_)) (by rfl) ?_
                exact wp_ir (pc := 96) dX8_add_96 rfl (by decide) (by decide) (by rw [if_pos (by omega)]) ⟨by rw [if_pos (by omega)]; exact ⟨hset_eq, (by repeat (first | assumption | exact hset_eq | refine hset_at (by omega) ?_)), (by repeat (first | assumption | exact hset_eq | refine hset_at (by omega) ?_)), (by repeat (first | assumption | exact hset_eq | refine hset_at (by omega) ?_)), ⟨F, (by repeat (first | assumption | exact hset_eq | refine hset_at (by omega) ?_))⟩, by omega, updI_all (P := fun x => 0 ≤ x ∧ x ≤ 9) rO (by omega), updI_all (P := fun x => 0 ≤ x ∧ x ≤ 1) rD (by omega), updI_all (P := fun x => 0 ≤ x ∧ x ≤ 9) rW (by omega)⟩, (by repeat (first | exact SO.rf | assumption | refine SO.set ?_ (by omega) (by omega)))⟩
              ·
                refine wp_iconst (pc := 50) dX8_add_50 ?_
                exact wp_ir (pc := 51) dX8_add_51 rfl (by decide) (by decide) (by rw [if_neg (by omega)]) ⟨by rw [if_neg (by omega)]; exact hs', SO.rf⟩
          ·
            refine wp_iconst (pc := 29) dX8_add_29 ?_
            refine wp_goto (pc := 30) 34 dX8_add_30 (by decide) ?_
            refine wp_istore (pc := 34) dX8_add_34 (by decide) ?_
            refine wp_iload (pc := 36) dX8_add_36 rfl ?_
            first | refine wp_ifb_eq (pc := 38) 50 dX8_add_38 (by decide) (fun c38 => ?_) (fun c38 => ?_) | refine wp_if_eq (pc := 38) 50 dX8_add_38 (by decide) (by omega) (fun c38 => ?_) (fun c38 => ?_)
            ·
              refine wp_iconst (pc := 50) dX8_add_50 ?_
              exact wp_ir (pc := 51) dX8_add_51 rfl (by decide) (by decide) (by rw [if_neg (by omega)]) ⟨by rw [if_neg (by omega)]; exact hs', SO.rf⟩
            ·
              refine wp_aload_n (pc := 41) dX8_add_41 rfl ?_
              refine wp_getf (pc := 42) dX8_add_42 gf_X8_24 (by repeat (first | assumption | exact hset_eq | refine hset_at (by omega) ?_)) (by rfl) ?_
              refine wp_bipush (pc := 45) (y := 12) dX8_add_45 (by decide) ?_
              refine wp_icmp_lt (pc := 47) 52 dX8_add_47 (by decide) (by omega) (by omega) (fun c47 => ?_) (fun c47 => ?_)
              ·
                refine wp_aload_n (pc := 52) dX8_add_52 rfl ?_
                refine wp_getf (pc := 53) dX8_add_53 gf_X8_11 (by repeat (first | assumption | exact hset_eq | refine hset_at (by omega) ?_)) (by rfl) ?_
                refine wp_aload_n (pc := 56) dX8_add_56 rfl ?_
                refine wp_getf (pc := 57) dX8_add_57 gf_X8_24 (by repeat (first | assumption | exact hset_eq | refine hset_at (by omega) ?_)) (by rfl) ?_
                refine wp_iload_n (pc := 60) dX8_add_60 rfl ?_
                refine wp_iast (pc := 61) dX8_add_61 (by repeat (first | assumption | exact hset_eq | refine hset_at (by omega) ?_)) (by omega) (by omega) (by decide) ?_
                refine wp_aload_n (pc := 62) dX8_add_62 rfl ?_
                refine wp_getf (pc := 63) dX8_add_63 gf_X8_15 (by repeat (first | assumption | exact hset_eq | refine hset_at (by omega) ?_)) (by rfl) ?_
                refine wp_aload_n (pc := 66) dX8_add_66 rfl ?_
                refine wp_getf (pc := 67) dX8_add_67 gf_X8_24 (by repeat (first | assumption | exact hset_eq | refine hset_at (by omega) ?_)) (by rfl) ?_
                refine wp_iload_n (pc := 70) dX8_add_70 rfl ?_
                refine wp_iast (pc := 71) dX8_add_71 (by repeat (first | assumption | exact hset_eq | refine hset_at (by omega) ?_)) (by omega) (by omega) (by decide) ?_
                refine wp_aload_n (pc := 72) dX8_add_72 rfl ?_
                refine wp_getf (pc := 73) dX8_add_73 gf_X8_18 (by repeat (first | assumption | exact hset_eq | refine hset_at (by omega) ?_)) (by rfl) ?_
                refine wp_aload_n (pc := 76) dX8_add_76 rfl ?_
                refine wp_getf (pc := 77) dX8_add_77 gf_X8_24 (by repeat (first | assumption | exact hset_eq | refine hset_at (by omega) ?_)) (by rfl) ?_
                refine wp_iload_n (pc := 80) dX8_add_80 rfl ?_
                refine wp_iast (pc := 81) dX8_add_81 (by repeat (first | assumption | exact hset_eq | refine hset_at (by omega) ?_)) (by omega) (by omega) (by decide) ?_
                refine wp_aload_n (pc := 82) dX8_add_82 rfl ?_
                refine wp_dup (pc := 83) dX8_add_83 rfl ?_
                refine wp_getf (pc := 84) dX8_add_84 gf_X8_24 (by repeat (first | assumption | exact hset_eq | refine hset_at (by omega) ?_)) (by rfl) ?_
                refine wp_iconst (pc := 87) dX8_add_87 ?_
                refine wp_iadd (pc := 88) dX8_add_88 ?_
                refine wp_putf (pc := 89) dX8_add_89 pf_X8_24 (by repeat (first | assumption | exact hset_eq | refine hset_at (by omega) ?_)) (by first | decide | exact Nat.lt_of_sub_pos (by decide) | simp) rfl rfl (by first | decide | intro h; cases h) ?_
                refine wp_aload_n (pc := 92) dX8_add_92 rfl ?_
                refine wp_getf (pc := 93) dX8_add_93 gf_X8_24 (by repeat (first | assumption | exact hset_eq | refine hset_at (by omega) ?_)) (by rfl) ?_
                exact wp_ir (pc := 96) dX8_add_96 rfl (by decide) (by decide) (by rw [if_pos (by omega)]) ⟨by rw [if_pos (by omega)]; exact ⟨hset_eq, (by repeat (first | assumption | exact hset_eq | refine hset_at (by omega) ?_)), (by repeat (first | assumption | exact hset_eq | refine hset_at (by omega) ?_)), (by repeat (first | assumption | exact hset_eq | refine hset_at (by omega) ?_)), ⟨F, (by repeat (first | assumption | exact hset_eq | refine hset_at (by omega) ?_))⟩, by omega, updI_all (P := fun x => 0 ≤ x ∧ x ≤ 9) rO (by omega), updI_all (P := fun x => 0 ≤ x ∧ x ≤ 1) rD (by omega), updI_all (P := fun x => 0 ≤ x ∧ x ≤ 9) rW (by omega)⟩, (by repeat (first | exact SO.rf | assumption | refine SO.set ?_ (by omega) (by omega)))⟩
              ·
                refine wp_iconst (pc := 50) dX8_add_50 ?_
                exact wp_ir (pc := 51) dX8_add_51 rfl (by decide) (by decide) (by rw [if_neg (by omega)]) ⟨by rw [if_neg (by omega)]; exact hs', SO.rf⟩
      ·
        refine wp_iload_n (pc := 14) dX8_add_14 rfl ?_
        refine wp_iconst (pc := 15) dX8_add_15 ?_
        refine wp_icmp_ne (pc := 16) 33 dX8_add_16 (by decide) (by omega) (by omega) (fun c16 => ?_) (fun c16 => ?_)
        ·
          refine wp_iconst (pc := 33) dX8_add_33 ?_
          refine wp_istore (pc := 34) dX8_add_34 (by decide) ?_
          refine wp_iload (pc := 36) dX8_add_36 rfl ?_
          first | refine wp_ifb_eq (pc := 38) 50 dX8_add_38 (by decide) (fun c38 => ?_) (fun c38 => ?_) | refine wp_if_eq (pc := 38) 50 dX8_add_38 (by decide) (by omega) (fun c38 => ?_) (fun c38 => ?_)
          ·
            refine wp_iconst (pc := 50) dX8_add_50 ?_
            exact wp_ir (pc := 51) dX8_add_51 rfl (by decide) (by decide) (by rw [if_neg (by omega)]) ⟨by rw [if_neg (by omega)]; exact hs', SO.rf⟩
          ·
            refine wp_aload_n (pc := 41) dX8_add_41 rfl ?_
            refine wp_getf (pc := 42) dX8_add_42 gf_X8_24 (by repeat (first | assumption | exact hset_eq | refine hset_at (by omega) ?_)) (by rfl) ?_
            refine wp_bipush (pc := 45) (y := 12) dX8_add_45 (by decide) ?_
            refine wp_icmp_lt (pc := 47) 52 dX8_add_47 (by decide) (by omega) (by omega) (fun c47 => ?_) (fun c47 => ?_)
            ·
              refine wp_aload_n (pc := 52) dX8_add_52 rfl ?_
              refine wp_getf (pc := 53) dX8_add_53 gf_X8_11 (by repeat (first | assumption | exact hset_eq | refine hset_at (by omega) ?_)) (by rfl) ?_
              refine wp_aload_n (pc := 56) dX8_add_56 rfl ?_
              refine wp_getf (pc := 57) dX8_add_57 gf_X8_24 (by repeat (first | assumption | exact hset_eq | refine hset_at (by omega) ?_)) (by rfl) ?_
              refine wp_iload_n (pc := 60) dX8_add_60 rfl ?_
              refine wp_iast (pc := 61) dX8_add_61 (by repeat (first | assumption | exact hset_eq | refine hset_at (by omega) ?_)) (by omega) (by omega) (by decide) ?_
              refine wp_aload_n (pc := 62) dX8_add_62 rfl ?_
              refine wp_getf (pc := 63) dX8_add_63 gf_X8_15 (by repeat (first | assumption | exact hset_eq | refine hset_at (by omega) ?_)) (by rfl) ?_
              refine wp_aload_n (pc := 66) dX8_add_66 rfl ?_
              refine wp_getf (pc := 67) dX8_add_67 gf_X8_24 (by repeat (first | assumption | exact hset_eq | refine hset_at (by omega) ?_)) (by rfl) ?_
              refine wp_iload_n (pc := 70) dX8_add_70 rfl ?_
              refine wp_iast (pc := 71) dX8_add_71 (by repeat (first | assumption | exact hset_eq | refine hset_at (by omega) ?_)) (by omega) (by omega) (by decide) ?_
              refine wp_aload_n (pc := 72) dX8_add_72 rfl ?_
              refine wp_getf (pc := 73) dX8_add_73 gf_X8_18 (by repeat (first | assumption | exact hset_eq | refine hset_at (by omega) ?_)) (by rfl) ?_
              refine wp_aload_n (pc := 76) dX8_add_76 rfl ?_
              refine wp_getf (pc := 77) dX8_add_77 gf_X8_24 (by repeat (first | assumption | exact hset_eq | refine hset_at (by omega) ?_)) (by rfl) ?_
              refine wp_iload_n (pc := 80) dX8_add_80 rfl ?_
              refine wp_iast (pc := 81) dX8_add_81 (by repeat (first | assumption | exact hset_eq | refine hset_at (by omega) ?_)) (by omega) (by omega) (by decide) ?_
              refine wp_aload_n (pc := 82) dX8_add_82 rfl ?_
              refine wp_dup (pc := 83) dX8_add_83 rfl ?_
              refine wp_getf (pc := 84) dX8_add_84 gf_X8_24 (by repeat (first | assumption | exact hset_eq | refine hset_at (by omega) ?_)) (by rfl) ?_
              refine wp_iconst (pc := 87) dX8_add_87 ?_
              refine wp_iadd (pc := 88) dX8_add_88 ?_
              refine wp_putf (pc := 89) dX8_add_89 pf_X8_24 (by repeat (first | assumption | exact hset_eq | refine hset_at (by omega) ?_)) (by first | decide | exact Nat.lt_of_sub_pos (by decide) | simp) rfl rfl (by first | decide | intro h; cases h) ?_
              refine wp_aload_n (pc := 92) dX8_add_92 rfl ?_
              refine wp_getf (pc := 93) dX8_add_93 gf_X8_24 (by repeat (first | assumption | exact hset_eq | refine hset_at (by omega) ?_)) (by rfl) ?_
              exact wp_ir (pc := 96) dX8_add_96 rfl (by decide) (by decide) (by rw [if_pos (by omega)]) ⟨by rw [if_pos (by omega)]; exact ⟨hset_eq, (by repeat (first | assumption | exact hset_eq | refine hset_at (by omega) ?_)), (by repeat (first | assumption | exact hset_eq | refine hset_at (by omega) ?_)), (by repeat (first | assumption | exact hset_eq | refine hset_at (by omega) ?_)), ⟨F, (by repeat (first | assumption | exact hset_eq | refine hset_at (by omega) ?_))⟩, by omega, updI_all (P := fun x => 0 ≤ x ∧ x ≤ 9) rO (by omega), updI_all (P := fun x => 0 ≤ x ∧ x ≤ 1) rD (by omega), updI_all (P := fun x => 0 ≤ x ∧ x ≤ 9) rW (by omega)⟩, (by repeat (first | exact SO.rf | assumption | refine SO.set ?_ (by omega) (by omega)))⟩
            ·
              refine wp_iconst (pc := 50) dX8_add_50 ?_
              exact wp_ir (pc := 51) dX8_add_51 rfl (by decide) (by decide) (by rw [if_neg (by omega)]) ⟨by rw [if_neg (by omega)]; exact hs', SO.rf⟩
        ·
          refine wp_iload_n (pc := 19) dX8_add_19 rfl ?_
          refine wp_if_lt (pc := 20) 33 dX8_add_20 (by decide) (by omega) (fun c20 => ?_) (fun c20 => ?_)
          ·
            refine wp_iconst (pc := 33) dX8_add_33 ?_
            refine wp_istore (pc := 34) dX8_add_34 (by decide) ?_
            refine wp_iload (pc := 36) dX8_add_36 rfl ?_
            first | refine wp_ifb_eq (pc := 38) 50 dX8_add_38 (by decide) (fun c38 => ?_) (fun c38 => ?_) | refine wp_if_eq (pc := 38) 50 dX8_add_38 (by decide) (by omega) (fun c38 => ?_) (fun c38 => ?_)
            ·
              refine wp_iconst (pc := 50) dX8_add_50 ?_
              exact wp_ir (pc := 51) dX8_add_51 rfl (by decide) (by decide) (by rw [if_neg (by omega)]) ⟨by rw [if_neg (by omega)]; exact hs', SO.rf⟩
            ·
              refine wp_aload_n (pc := 41) dX8_add_41 rfl ?_
              refine wp_getf (pc := 42) dX8_add_42 gf_X8_24 (by repeat (first | assumption | exact hset_eq | refine hset_at (by omega) ?_)) (by rfl) ?_
              refine wp_bipush (pc := 45) (y := 12) dX8_add_45 (by decide) ?_
              refine wp_icmp_lt (pc := 47) 52 dX8_add_47 (by decide) (by omega) (by omega) (fun c47 => ?_) (fun c47 => ?_)
              ·
                refine wp_aload_n (pc := 52) dX8_add_52 rfl ?_
                refine wp_getf (pc := 53) dX8_add_53 gf_X8_11 (by repeat (first | assumption | exact hset_eq | refine hset_at (by omega) ?_)) (by rfl) ?_
                refine wp_aload_n (pc := 56) dX8_add_56 rfl ?_
                refine wp_getf (pc := 57) dX8_add_57 gf_X8_24 (by repeat (first | assumption | exact hset_eq | refine hset_at (by omega) ?_)) (by rfl) ?_
                refine wp_iload_n (pc := 60) dX8_add_60 rfl ?_
                refine wp_iast (pc := 61) dX8_add_61 (by repeat (first | assumption | exact hset_eq | refine hset_at (by omega) ?_)) (by omega) (by omega) (by decide) ?_
                refine wp_aload_n (pc := 62) dX8_add_62 rfl ?_
                refine wp_getf (pc := 63) dX8_add_63 gf_X8_15 (by repeat (first | assumption | exact hset_eq | refine hset_at (by omega) ?_)) (by rfl) ?_
                refine wp_aload_n (pc := 66) dX8_add_66 rfl ?_
                refine wp_getf (pc := 67) dX8_add_67 gf_X8_24 (by repeat (first | assumption | exact hset_eq | refine hset_at (by omega) ?_)) (by rfl) ?_
                refine wp_iload_n (pc := 70) dX8_add_70 rfl ?_
                refine wp_iast (pc := 71) dX8_add_71 (by repeat (first | assumption | exact hset_eq | refine hset_at (by omega) ?_)) (by omega) (by omega) (by decide) ?_
                refine wp_aload_n (pc := 72) dX8_add_72 rfl ?_
                refine wp_getf (pc := 73) dX8_add_73 gf_X8_18 (by repeat (first | assumption | exact hset_eq | refine hset_at (by omega) ?_)) (by rfl) ?_
                refine wp_aload_n (pc := 76) dX8_add_76 rfl ?_
                refine wp_getf (pc := 77) dX8_add_77 gf_X8_24 (by repeat (first | assumption | exact hset_eq | refine hset_at (by omega) ?_)) (by rfl) ?_
                refine wp_iload_n (pc := 80) dX8_add_80 rfl ?_
                refine wp_iast (pc := 81) dX8_add_81 (by repeat (first | assumption | exact hset_eq | refine hset_at (by omega) ?_)) (by omega) (by omega) (by decide) ?_
                refine wp_aload_n (pc := 82) dX8_add_82 rfl ?_
                refine wp_dup (pc := 83) dX8_add_83 rfl ?_
                refine wp_getf (pc := 84) dX8_add_84 gf_X8_24 (by repeat (first | assumption | exact hset_eq | refine hset_at (by omega) ?_)) (by rfl) ?_
                refine wp_iconst (pc := 87) dX8_add_87 ?_
                refine wp_iadd (pc := 88) dX8_add_88 ?_
                refine wp_putf (pc := 89) dX8_add_89 pf_X8_24 (by repeat (first | assumption | exact hset_eq | refine hset_at (by omega) ?_)) (by first | decide | exact Nat.lt_of_sub_pos (by decide) | simp) rfl rfl (by first | decide | intro h; cases h) ?_
                refine wp_aload_n (pc := 92) dX8_add_92 rfl ?_
                refine wp_getf (pc := 93) dX8_add_93 gf_X8_24 (by repeat (first | assumption | exact hset_eq | refine hset_at (by omega) ?_)) (by rfl) ?_
                exact wp_ir (pc := 96) dX8_add_96 rfl (by decide) (by decide) (by rw [if_pos (by omega)]) ⟨by rw [if_pos (by omega)]; exact ⟨hset_eq, (by repeat (first | assumption | exact hset_eq | refine hset_at (by omega) ?_)), (by repeat (first | assumption | exact hset_eq | refine hset_at (by omega) ?_)), (by repeat (first | assumption | exact hset_eq | refine hset_at (by omega) ?_)), ⟨F, (by repeat (first | assumption | exact hset_eq | refine hset_at (by omega) ?_))⟩, by omega, updI_all (P := fun x => 0 ≤ x ∧ x ≤ 9) rO (by omega), updI_all (P := fun x => 0 ≤ x ∧ x ≤ 1) rD (by omega), updI_all (P := fun x => 0 ≤ x ∧ x ≤ 9) rW (by omega)⟩, (by repeat (first | exact SO.rf | assumption | refine SO.set ?_ (by omega) (by omega)))⟩
              ·
                refine wp_iconst (pc := 50) dX8_add_50 ?_
                exact wp_ir (pc := 51) dX8_add_51 rfl (by decide) (by decide) (by rw [if_neg (by omega)]) ⟨by rw [if_neg (by omega)]; exact hs', SO.rf⟩
          ·
            refine wp_iload_n (pc := 23) dX8_add_23 rfl ?_
            refine wp_bipush (pc := 24) (y := 9) dX8_add_24 (by decide) ?_
            refine wp_icmp_gt (pc := 26) 33 dX8_add_26 (by decide) (by omega) (by omega) (fun c26 => ?_) (fun c26 => ?_)
            ·
              refine wp_iconst (pc := 33) dX8_add_33 ?_
              refine wp_istore (pc := 34) dX8_add_34 (by decide) ?_
              refine wp_iload (pc := 36) dX8_add_36 rfl ?_
              first | refine wp_ifb_eq (pc := 38) 50 dX8_add_38 (by decide) (fun c38 => ?_) (fun c38 => ?_) | refine wp_if_eq (pc := 38) 50 dX8_add_38 (by decide) (by omega) (fun c38 => ?_) (fun c38 => ?_)
              ·
                refine wp_iconst (pc := 50) dX8_add_50 ?_
                exact wp_ir (pc := 51) dX8_add_51 rfl (by decide) (by decide) (by rw [if_neg (by omega)]) ⟨by rw [if_neg (by omega)]; exact hs', SO.rf⟩
              ·
                refine wp_aload_n (pc := 41) dX8_add_41 rfl ?_
                refine wp_getf (pc := 42) dX8_add_42 gf_X8_24 (by repeat (first | assumption | exact hset_eq | refine hset_at (by omega) ?_)) (by rfl) ?_
                refine wp_bipush (pc := 45) (y := 12) dX8_add_45 (by decide) ?_
                refine wp_icmp_lt (pc := 47) 52 dX8_add_47 (by decide) (by omega) (by omega) (fun c47 => ?_) (fun c47 => ?_)
                ·
                  refine wp_aload_n (pc := 52) dX8_add_52 rfl ?_
                  refine wp_getf (pc := 53) dX8_add_53 gf_X8_11 (by repeat (first | assumption | exact hset_eq | refine hset_at (by omega) ?_)) (by rfl) ?_
                  refine wp_aload_n (pc := 56) dX8_add_56 rfl ?_
                  refine wp_getf (pc := 57) dX8_add_57 gf_X8_24 (by repeat (first | assumption | exact hset_eq | refine hset_at (by omega) ?_)) (by rfl) ?_
                  refine wp_iload_n (pc := 60) dX8_add_60 rfl ?_
                  refine wp_iast (pc := 61) dX8_add_61 (by repeat (first | assumption | exact hset_eq | refine hset_at (by omega) ?_)) (by omega) (by omega) (by decide) ?_
                  refine wp_aload_n (pc := 62) dX8_add_62 rfl ?_
                  refine wp_getf (pc := 63) dX8_add_63 gf_X8_15 (by repeat (first | assumption | exact hset_eq | refine hset_at (by omega) ?_)) (by rfl) ?_
                  refine wp_aload_n (pc := 66) dX8_add_66 rfl ?_
                  refine wp_getf (pc := 67) dX8_add_67 gf_X8_24 (by repeat (first | assumption | exact hset_eq | refine hset_at (by omega) ?_)) (by rfl) ?_
                  refine wp_iload_n (pc := 70) dX8_add_70 rfl ?_
                  refine wp_iast (pc := 71) dX8_add_71 (by repeat (first | assumption | exact hset_eq | refine hset_at (by omega) ?_)) (by omega) (by omega) (by decide) ?_
                  refine wp_aload_n (pc := 72) dX8_add_72 rfl ?_
                  refine wp_getf (pc := 73) dX8_add_73 gf_X8_18 (by repeat (first | assumption | exact hset_eq | refine hset_at (by omega) ?_)) (by rfl) ?_
                  refine wp_aload_n (pc := 76) dX8_add_76 rfl ?_
                  refine wp_getf (pc := 77) dX8_add_77 gf_X8_24 (by repeat (first | assumption | exact hset_eq | refine hset_at (by omega) ?_)) (by rfl) ?_
                  refine wp_iload_n (pc := 80) dX8_add_80 rfl ?_
                  refine wp_iast (pc := 81) dX8_add_81 (by repeat (first | assumption | exact hset_eq | refine hset_at (by omega) ?_)) (by omega) (by omega) (by decide) ?_
                  refine wp_aload_n (pc := 82) dX8_add_82 rfl ?_
                  refine wp_dup (pc := 83) dX8_add_83 rfl ?_
                  refine wp_getf (pc := 84) dX8_add_84 gf_X8_24 (by repeat (first | assumption | exact hset_eq | refine hset_at (by omega) ?_)) (by rfl) ?_
                  refine wp_iconst (pc := 87) dX8_add_87 ?_
                  refine wp_iadd (pc := 88) dX8_add_88 ?_
                  refine wp_putf (pc := 89) dX8_add_89 pf_X8_24 (by repeat (first | assumption | exact hset_eq | refine hset_at (by omega) ?_)) (by first | decide | exact Nat.lt_of_sub_pos (by decide) | simp) rfl rfl (by first | decide | intro h; cases h) ?_
                  refine wp_aload_n (pc := 92) dX8_add_92 rfl ?_
                  refine wp_getf (pc := 93) dX8_add_93 gf_X8_24 (by repeat (first | assumption | exact hset_eq | refine hset_at (by omega) ?_)) (by rfl) ?_
                  exact wp_ir (pc := 96) dX8_add_96 rfl (by decide) (by decide) (by rw [if_pos (by omega)]) ⟨by rw [if_pos (by omega)]; exact ⟨hset_eq, (by repeat (first | assumption | exact hset_eq | refine hset_at (by omega) ?_)), (by repeat (first | assumption | exact hset_eq | refine hset_at (by omega) ?_)), (by repeat (first | assumption | exact hset_eq | refine hset_at (by omega) ?_)), ⟨F, (by repeat (first | assumption | exact hset_eq | refine hset_at (by omega) ?_))⟩, by omega, updI_all (P := fun x => 0 ≤ x ∧ x ≤ 9) rO (by omega), updI_all (P := fun x => 0 ≤ x ∧ x ≤ 1) rD (by omega), updI_all (P := fun x => 0 ≤ x ∧ x ≤ 9) rW (by omega)⟩, (by repeat (first | exact SO.rf | assumption | refine SO.set ?_ (by omega) (by omega)))⟩
                ·
                  refine wp_iconst (pc := 50) dX8_add_50 ?_
                  exact wp_ir (pc := 51) dX8_add_51 rfl (by decide) (by decide) (by rw [if_neg (by omega)]) ⟨by rw [if_neg (by omega)]; exact hs', SO.rf⟩
            ·
              refine wp_iconst (pc := 29) dX8_add_29 ?_
              refine wp_goto (pc := 30) 34 dX8_add_30 (by decide) ?_
              refine wp_istore (pc := 34) dX8_add_34 (by decide) ?_
              refine wp_iload (pc := 36) dX8_add_36 rfl ?_
              first | refine wp_ifb_eq (pc := 38) 50 dX8_add_38 (by decide) (fun c38 => ?_) (fun c38 => ?_) | refine wp_if_eq (pc := 38) 50 dX8_add_38 (by decide) (by omega) (fun c38 => ?_) (fun c38 => ?_)
              ·
                refine wp_iconst (pc := 50) dX8_add_50 ?_
                exact wp_ir (pc := 51) dX8_add_51 rfl (by decide) (by decide) (by rw [if_neg (by omega)]) ⟨by rw [if_neg (by omega)]; exact hs', SO.rf⟩
              ·
                refine wp_aload_n (pc := 41) dX8_add_41 rfl ?_
                refine wp_getf (pc := 42) dX8_add_42 gf_X8_24 (by repeat (first | assumption | exact hset_eq | refine hset_at (by omega) ?_)) (by rfl) ?_
                refine wp_bipush (pc := 45) (y := 12) dX8_add_45 (by decide) ?_
                refine wp_icmp_lt (pc := 47) 52 dX8_add_47 (by decide) (by omega) (by omega) (fun c47 => ?_) (fun c47 => ?_)
                ·
                  refine wp_aload_n (pc := 52) dX8_add_52 rfl ?_
                  refine wp_getf (pc := 53) dX8_add_53 gf_X8_11 (by repeat (first | assumption | exact hset_eq | refine hset_at (by omega) ?_)) (by rfl) ?_
                  refine wp_aload_n (pc := 56) dX8_add_56 rfl ?_
                  refine wp_getf (pc := 57) dX8_add_57 gf_X8_24 (by repeat (first | assumption | exact hset_eq | refine hset_at (by omega) ?_)) (by rfl) ?_
                  refine wp_iload_n (pc := 60) dX8_add_60 rfl ?_
                  refine wp_iast (pc := 61) dX8_add_61 (by repeat (first | assumption | exact hset_eq | refine hset_at (by omega) ?_)) (by omega) (by omega) (by decide) ?_
                  refine wp_aload_n (pc := 62) dX8_add_62 rfl ?_
                  refine wp_getf (pc := 63) dX8_add_63 gf_X8_15 (by repeat (first | assumption | exact hset_eq | refine hset_at (by omega) ?_)) (by rfl) ?_
                  refine wp_aload_n (pc := 66) dX8_add_66 rfl ?_
                  refine wp_getf (pc := 67) dX8_add_67 gf_X8_24 (by repeat (first | assumption | exact hset_eq | refine hset_at (by omega) ?_)) (by rfl) ?_
                  refine wp_iload_n (pc := 70) dX8_add_70 rfl ?_
                  refine wp_iast (pc := 71) dX8_add_71 (by repeat (first | assumption | exact hset_eq | refine hset_at (by omega) ?_)) (by omega) (by omega) (by decide) ?_
                  refine wp_aload_n (pc := 72) dX8_add_72 rfl ?_
                  refine wp_getf (pc := 73) dX8_add_73 gf_X8_18 (by repeat (first | assumption | exact hset_eq | refine hset_at (by omega) ?_)) (by rfl) ?_
                  refine wp_aload_n (pc := 76) dX8_add_76 rfl ?_
                  refine wp_getf (pc := 77) dX8_add_77 gf_X8_24 (by repeat (first | assumption | exact hset_eq | refine hset_at (by omega) ?_)) (by rfl) ?_
                  refine wp_iload_n (pc := 80) dX8_add_80 rfl ?_
                  refine wp_iast (pc := 81) dX8_add_81 (by repeat (first | assumption | exact hset_eq | refine hset_at (by omega) ?_)) (by omega) (by omega) (by decide) ?_
                  refine wp_aload_n (pc := 82) dX8_add_82 rfl ?_
                  refine wp_dup (pc := 83) dX8_add_83 rfl ?_
                  refine wp_getf (pc := 84) dX8_add_84 gf_X8_24 (by repeat (first | assumption | exact hset_eq | refine hset_at (by omega) ?_)) (by rfl) ?_
                  refine wp_iconst (pc := 87) dX8_add_87 ?_
                  refine wp_iadd (pc := 88) dX8_add_88 ?_
                  refine wp_putf (pc := 89) dX8_add_89 pf_X8_24 (by repeat (first | assumption | exact hset_eq | refine hset_at (by omega) ?_)) (by first | decide | exact Nat.lt_of_sub_pos (by decide) | simp) rfl rfl (by first | decide | intro h; cases h) ?_
                  refine wp_aload_n (pc := 92) dX8_add_92 rfl ?_
                  refine wp_getf (pc := 93) dX8_add_93 gf_X8_24 (by repeat (first | assumption | exact hset_eq | refine hset_at (by omega) ?_)) (by rfl) ?_
                  exact wp_ir (pc := 96) dX8_add_96 rfl (by decide) (by decide) (by rw [if_pos (by omega)]) ⟨by rw [if_pos (by omega)]; exact ⟨hset_eq, (by repeat (first | assumption | exact hset_eq | refine hset_at (by omega) ?_)), (by repeat (first | assumption | exact hset_eq | refine hset_at (by omega) ?_)), (by repeat (first | assumption | exact hset_eq | refine hset_at (by omega) ?_)), ⟨F, (by repeat (first | assumption | exact hset_eq | refine hset_at (by omega) ?_))⟩, by omega, updI_all (P := fun x => 0 ≤ x ∧ x ≤ 9) rO (by omega), updI_all (P := fun x => 0 ≤ x ∧ x ≤ 1) rD (by omega), updI_all (P := fun x => 0 ≤ x ∧ x ≤ 9) rW (by omega)⟩, (by repeat (first | exact SO.rf | assumption | refine SO.set ?_ (by omega) (by omega)))⟩
                ·
                  refine wp_iconst (pc := 50) dX8_add_50 ?_
                  exact wp_ir (pc := 51) dX8_add_51 rfl (by decide) (by decide) (by rw [if_neg (by omega)]) ⟨by rw [if_neg (by omega)]; exact hs', SO.rf⟩
/-- what an opinion, moved, is told as -/
def sy (o m : Int) : Int := mx 0 (mi 9 (o + m))
theorem sy_in (o m : Int) : 0 ≤ sy o m ∧ sy o m ≤ 9 := by unfold sy mx mi; split <;> split <;> omega
def fit1 (O D W : Int → Int) (b m : Int) : Nat → Bool := fun i => !(decide (D i = b)) || decide (sy (O i) m = W i)
theorem lp_Shifts_isPossible (hs : ShiftsAt hp s O D W n) (rb : 0 ≤ b ∧ b ≤ 1) (rc : -9 ≤ c ∧ c ≤ 9) : ∀ (m i : Nat), n < i + m → i ≤ n → ∀ (hall : allb (fit1 O D W b c) i = true), wp g MX8_isPossible (rm 2 0 0) (Pur (.int (B (allb (fit1 O D W b c) n = true))) hp) 0 0 2 [some (.ref s), some (.int (I b)), some (.int (I c)), some (.int (I (i : Int)))] [] hp := by
  intro m
  induction m with
  | zero => intro i h1 h2; exact absurd h1 (by omega)
  | succ m ih =>
    intro i h1 h2 hall
    obtain ⟨s0, s1, s2, s3, ⟨F, s4⟩, hn, rO, rD, rW⟩ := hs
    have := rO (i : Int)
    have := rD (i : Int)
    have := rW (i : Int)
    have hsy := sy_in (O (i : Int)) c
    refine wp_iload_n (pc := 2) dX8_isPossible_2 rfl ?_
    refine wp_aload_n (pc := 3) dX8_isPossible_3 rfl ?_
    refine wp_getf (pc := 4) dX8_isPossible_4 gf_X8_24 (by repeat (first | assumption | exact hset_eq | refine hset_at (by omega) ?_)) (by rfl) ?_
    refine wp_icmp_ge (pc := 7) 50 dX8_isPossible_7 (by decide) (by omega) (by omega) (fun c7 => ?_) (fun c7 => ?_)
    ·
      have e : i = n := by omega
      subst e -- go
      refine wp_iconst (pc := 50) dX8_isPossible_50 ?_
      first | exact wp_z1 (pc := 51) dX8_isPossible_51 rfl (by decide) (by decide) hall rfl | exact wp_z0 (pc := 51) dX8_isPossible_51 rfl (by decide) (by decide) hall rfl | exact wp_zb (pc := 51) dX8_isPossible_51 rfl (by decide) (by decide) Iff.rfl rfl
    ·
      refine wp_aload_n (pc := 10) dX8_isPossible_10 rfl ?_
      refine wp_getf (pc := 11) dX8_isPossible_11 gf_X8_15 (by repeat (first | assumption | exact hset_eq | refine hset_at (by omega) ?_)) (by rfl) ?_
      refine wp_iload_n (pc := 14) dX8_isPossible_14 rfl ?_
      refine wp_iald (pc := 15) dX8_isPossible_15 (by repeat (first | assumption | exact hset_eq | refine hset_at (by omega) ?_)) (by omega) (by omega) (by decide) ?_
      refine wp_iload_n (pc := 16) dX8_isPossible_16 rfl ?_
      refine wp_icmp_ne (pc := 17) 44 dX8_isPossible_17 (by decide) (by omega) (by omega) (fun c17 => ?_) (fun c17 => ?_)
      ·
        have hf : fit1 O D W b c i = true := by unfold fit1; simp [c17]
        skip -- go
        refine wp_iinc (pc := 44) dX8_isPossible_44 rfl (by decide) ?_
        refine wp_goto (pc := 47) 2 dX8_isPossible_47 (by decide) ?_
        refine wp_ls ?_ (ih (i + 1) (by omega) (by omega) (by show (_ && _) = true; rw [hall, hf]; rfl))
        · repeat' (first | exact LE_0 | refine LE_s rfl ?_ | refine LE_s (I_c (by first | omega | (simp only [sm]; omega))) ?_ | refine LE_s (J_c (by first | omega | exact Int.pow_succ _ _ | exact (Int.pow_succ _ _).symm | (simp only [sm]; omega))) ?_ | refine LE_n ?_)
      ·
        refine wp_aload_n (pc := 20) dX8_isPossible_20 rfl ?_
        refine wp_getf (pc := 21) dX8_isPossible_21 gf_X8_11 (by repeat (first | assumption | exact hset_eq | refine hset_at (by omega) ?_)) (by rfl) ?_
        refine wp_iload_n (pc := 24) dX8_isPossible_24 rfl ?_
        refine wp_iald (pc := 25) dX8_isPossible_25 (by repeat (first | assumption | exact hset_eq | refine hset_at (by omega) ?_)) (by omega) (by omega) (by decide) ?_
        refine wp_iload_n (pc := 26) dX8_isPossible_26 rfl ?_
        refine wp_iadd (pc := 27) dX8_isPossible_27 ?_
        refine wp_bipush (pc := 28) (y := 9) dX8_isPossible_28 (by decide) ?_
        refine wp_Sp (pc := 30) dX8_isPossible_30 cl_X8_28 (sp_D_within (by first | assumption | omega) (by first | assumption | omega)) rfl rfl (by decide) (Nat.le_of_ble_eq_true rfl) ?_
        change wp _ _ _ _ _ _ _ _ (Value.int (I (sy (O (i : Int)) c)) :: _) _
        refine wp_aload_n (pc := 33) dX8_isPossible_33 rfl ?_
        refine wp_getf (pc := 34) dX8_isPossible_34 gf_X8_18 (by repeat (first | assumption | exact hset_eq | refine hset_at (by omega) ?_)) (by rfl) ?_
        refine wp_iload_n (pc := 37) dX8_isPossible_37 rfl ?_
        refine wp_iald (pc := 38) dX8_isPossible_38 (by repeat (first | assumption | exact hset_eq | refine hset_at (by omega) ?_)) (by omega) (by omega) (by decide) ?_
        refine wp_icmp_eq (pc := 39) 44 dX8_isPossible_39 (by decide) (by omega) (by omega) (fun c39 => ?_) (fun c39 => ?_)
        ·
          have hf : fit1 O D W b c i = true := by unfold fit1; simp [c39]
          skip -- go
          refine wp_iinc (pc := 44) dX8_isPossible_44 rfl (by decide) ?_
          refine wp_goto (pc := 47) 2 dX8_isPossible_47 (by decide) ?_
          refine wp_ls ?_ (ih (i + 1) (by omega) (by omega) (by show (_ && _) = true; rw [hall, hf]; rfl))
          · repeat' (first | exact LE_0 | refine LE_s rfl ?_ | refine LE_s (I_c (by first | omega | (simp only [sm]; omega))) ?_ | refine LE_s (J_c (by first | omega | exact Int.pow_succ _ _ | exact (Int.pow_succ _ _).symm | (simp only [sm]; omega))) ?_ | refine LE_n ?_)
        ·
          have hf : ¬ allb (fit1 O D W b c) n = true := fun z => by have := (allb_iff _ _).mp z i (by omega); unfold fit1 at this; simp [c39] at this; exact this c17
          skip -- go
          refine wp_iconst (pc := 42) dX8_isPossible_42 ?_
          exact wp_z0 dX8_isPossible_43 rfl (by decide) (by decide) hf rfl
theorem sp_Shifts_isPossible (hs : ShiftsAt hp s O D W n) (rb : 0 ≤ b ∧ b ≤ 1) (rc : -9 ≤ c ∧ c ≤ 9) : Sp g MX8_isPossible (rm 2 0 0) [.ref s, .int (I b), .int (I c)] hp (Pur (.int (B (allb (fit1 O D W b c) n = true))) hp) := by
  refine Sp_mk rfl (Nat.le_of_ble_eq_true rfl) ?_
  show wp g _ _ _ 0 0 0 [some (.ref s), some (.int (I b)), some (.int (I c)), none] [] hp
  refine wp_iconst (pc := 0) dX8_isPossible_0 ?_
  refine wp_istore_n (pc := 1) dX8_isPossible_1 (by decide) ?_
  exact lp_Shifts_isPossible hs rb rc (n + 1) 0 (by omega) (by omega) rfl
/-- the shifts, counted from 0 (that is -9), that are possible -/
def posb (O D W : Int → Int) (n : Nat) (b : Int) : Nat → Bool := fun k => allb (fit1 O D W b ((k : Int) - 9)) n
theorem lp_Shifts_fitting (hs : ShiftsAt hp s O D W n) (rb : 0 ≤ b ∧ b ≤ 1) : ∀ (m i : Nat), 19 < i + m → i ≤ 19 → wp g MX8_fitting (rm 3 0 0) (Pur (.int (I ((cnt (posb O D W n b) 19 : Nat) : Int))) hp) 0 0 5 [some (.ref s), some (.int (I b)), some (.int (I ((cnt (posb O D W n b) i : Nat) : Int))), some (.int (I ((i : Int) - 9)))] [] hp := by
  intro m
  induction m with
  | zero => intro i h1 h2; exact absurd h1 (by omega)
  | succ m ih =>
    intro i h1 h2
    have hs' := hs
    obtain ⟨s0, s1, s2, s3, ⟨F, s4⟩, hn, rO, rD, rW⟩ := hs
    refine wp_iload_n (pc := 5) dX8_fitting_5 rfl ?_
    refine wp_bipush (pc := 6) (y := 9) dX8_fitting_6 (by decide) ?_
    refine wp_icmp_gt (pc := 8) 29 dX8_fitting_8 (by decide) (by omega) (by omega) (fun c8 => ?_) (fun c8 => ?_)
    ·
      have e : i = 19 := by omega
      subst e -- go
      refine wp_iload_n (pc := 29) dX8_fitting_29 rfl ?_
      exact wp_ir (pc := 30) dX8_fitting_30 rfl (by decide) (by decide) (by first | rfl | omega) rfl
    ·
      refine wp_aload_n (pc := 11) dX8_fitting_11 rfl ?_
      refine wp_iload_n (pc := 12) dX8_fitting_12 rfl ?_
      refine wp_iload_n (pc := 13) dX8_fitting_13 rfl ?_
      refine wp_Vp (pc := 14) dX8_fitting_14 cl_X8_32 (sp_Shifts_isPossible (by first | assumption | omega) (by first | assumption | omega) (by first | assumption | omega)) rfl rfl (by repeat (first | assumption | exact hset_eq | refine hset_at (by omega) ?_)) (by rfl) (by decide) (Nat.le_of_ble_eq_true rfl) ?_
      first | refine wp_ifb_eq (pc := 17) 23 dX8_fitting_17 (by decide) (fun c17 => ?_) (fun c17 => ?_) | refine wp_if_eq (pc := 17) 23 dX8_fitting_17 (by decide) (by omega) (fun c17 => ?_) (fun c17 => ?_)
      ·
        have e : cnt (posb O D W n b) (i + 1) = cnt (posb O D W n b) i := by show _ + _ = _; rw [if_neg (by exact c17)]; rfl
        skip -- go
        refine wp_iinc (pc := 23) dX8_fitting_23 rfl (by decide) ?_
        refine wp_goto (pc := 26) 5 dX8_fitting_26 (by decide) ?_
        refine wp_ls ?_ (ih (i + 1) (by omega) (by omega))
        rw [e]
        repeat' (first | exact LE_0 | refine LE_s rfl ?_ | refine LE_s (I_c (by first | omega | (simp only [sm]; omega))) ?_ | refine LE_s (J_c (by first | omega | exact Int.pow_succ _ _ | exact (Int.pow_succ _ _).symm | (simp only [sm]; omega))) ?_ | refine LE_n ?_)
      ·
        have e : cnt (posb O D W n b) (i + 1) = cnt (posb O D W n b) i + 1 := by show _ + _ = _; rw [if_pos (by exact c17)]
        skip -- go
        refine wp_iinc (pc := 20) dX8_fitting_20 rfl (by decide) ?_
        refine wp_iinc (pc := 23) dX8_fitting_23 rfl (by decide) ?_
        refine wp_goto (pc := 26) 5 dX8_fitting_26 (by decide) ?_
        refine wp_ls ?_ (ih (i + 1) (by omega) (by omega))
        rw [e]
        repeat' (first | exact LE_0 | refine LE_s rfl ?_ | refine LE_s (I_c (by first | omega | (simp only [sm]; omega))) ?_ | refine LE_s (J_c (by first | omega | exact Int.pow_succ _ _ | exact (Int.pow_succ _ _).symm | (simp only [sm]; omega))) ?_ | refine LE_n ?_)
theorem sp_Shifts_fitting (hs : ShiftsAt hp s O D W n) (rb : 0 ≤ b ∧ b ≤ 1) : Sp g MX8_fitting (rm 3 0 0) [.ref s, .int (I b)] hp (Pur (.int (I ((cnt (posb O D W n b) 19 : Nat) : Int))) hp) := by
  refine Sp_mk rfl (Nat.le_of_ble_eq_true rfl) ?_
  show wp g _ _ _ 0 0 0 [some (.ref s), some (.int (I b)), none, none] [] hp
  refine wp_iconst (pc := 0) dX8_fitting_0 ?_
  refine wp_istore_n (pc := 1) dX8_fitting_1 (by decide) ?_
  refine wp_bipush (pc := 2) (y := (-9)) dX8_fitting_2 (by decide) ?_
  refine wp_istore_n (pc := 4) dX8_fitting_4 (by decide) ?_
  exact lp_Shifts_fitting hs rb 20 0 (by omega) (by omega)
/-- the first place below n where P is, else n -/
def fst (P : Nat → Bool) : Nat → Nat
  | 0 => 0
  | n + 1 => if fst P n < n then fst P n else if P n then n else n + 1
theorem fst_le (P : Nat → Bool) : ∀ n, fst P n ≤ n
  | 0 => Nat.le_refl _
  | n + 1 => by have := fst_le P n; unfold fst; split; omega; split <;> omega
theorem fst_no (P : Nat → Bool) : ∀ n, (∀ i, i < n → P i = false) → fst P n = n
  | 0, _ => rfl
  | n + 1, h => by
    unfold fst
    rw [fst_no P n (fun i hi => h i (by omega)), if_neg (Nat.lt_irrefl n), h n (by omega)]
    simp
theorem fst_at (P : Nat → Bool) {k : Nat} (hk : P k = true) (hb : ∀ i, i < k → P i = false) : ∀ n, k < n → fst P n = k
  | 0, h => by omega
  | n + 1, h => by
    unfold fst
    by_cases e : k = n
    · subst e
      rw [fst_no P k hb, if_neg (Nat.lt_irrefl k), hk]
      simp
    · rw [fst_at P hk hb n (by omega), if_pos (by omega)]
theorem lp_Shifts_least (hs : ShiftsAt hp s O D W n) (rb : 0 ≤ b ∧ b ≤ 1) : ∀ (m i : Nat), 18 < i + m → i ≤ 18 → ∀ (hno : ∀ j, j < i → posb O D W n b j = false), wp g MX8_least (rm 3 0 0) (Pur (.int (I ((fst (posb O D W n b) 18 : Nat) - 9))) hp) 0 0 3 [some (.ref s), some (.int (I b)), some (.int (I ((i : Int) - 9)))] [] hp := by
  intro m
  induction m with
  | zero => intro i h1 h2; exact absurd h1 (by omega)
  | succ m ih =>
    intro i h1 h2 hno
    have hs' := hs
    obtain ⟨s0, s1, s2, s3, ⟨F, s4⟩, hn, rO, rD, rW⟩ := hs
    refine wp_iload_n (pc := 3) dX8_least_3 rfl ?_
    refine wp_bipush (pc := 4) (y := 9) dX8_least_4 (by decide) ?_
    refine wp_icmp_ge (pc := 6) 24 dX8_least_6 (by decide) (by omega) (by omega) (fun c6 => ?_) (fun c6 => ?_)
    ·
      have e : i = 18 := by omega
      subst e
      have e2 := fst_no _ 18 hno -- go
      refine wp_iload_n (pc := 24) dX8_least_24 rfl ?_
      exact wp_ir (pc := 25) dX8_least_25 rfl (by decide) (by decide) (by rw [e2]) rfl
    ·
      refine wp_aload_n (pc := 9) dX8_least_9 rfl ?_
      refine wp_iload_n (pc := 10) dX8_least_10 rfl ?_
      refine wp_iload_n (pc := 11) dX8_least_11 rfl ?_
      refine wp_Vp (pc := 12) dX8_least_12 cl_X8_32 (sp_Shifts_isPossible (by first | assumption | omega) (by first | assumption | omega) (by first | assumption | omega)) rfl rfl (by repeat (first | assumption | exact hset_eq | refine hset_at (by omega) ?_)) (by rfl) (by decide) (Nat.le_of_ble_eq_true rfl) ?_
      first | refine wp_ifb_ne (pc := 15) 24 dX8_least_15 (by decide) (fun c15 => ?_) (fun c15 => ?_) | refine wp_if_ne (pc := 15) 24 dX8_least_15 (by decide) (by omega) (fun c15 => ?_) (fun c15 => ?_)
      ·
        have e2 := fst_at (posb O D W n b) (k := i) c15 hno 18 (by omega)
        skip -- go
        refine wp_iload_n (pc := 24) dX8_least_24 rfl ?_
        exact wp_ir (pc := 25) dX8_least_25 rfl (by decide) (by decide) (by rw [e2]) rfl
      ·
        refine wp_iinc (pc := 18) dX8_least_18 rfl (by decide) ?_
        refine wp_goto (pc := 21) 3 dX8_least_21 (by decide) ?_
        refine wp_ls ?_ (ih (i + 1) (by omega) (by omega) (fun j hj => ?_))
        · repeat' (first | exact LE_0 | refine LE_s rfl ?_ | refine LE_s (I_c (by first | omega | (simp only [sm]; omega))) ?_ | refine LE_s (J_c (by first | omega | exact Int.pow_succ _ _ | exact (Int.pow_succ _ _).symm | (simp only [sm]; omega))) ?_ | refine LE_n ?_)
        · by_cases e : j = i
          · subst e; exact Bool.eq_false_iff.mpr c15
          · exact hno j (by omega)
theorem sp_Shifts_least (hs : ShiftsAt hp s O D W n) (rb : 0 ≤ b ∧ b ≤ 1) : Sp g MX8_least (rm 3 0 0) [.ref s, .int (I b)] hp (Pur (.int (I ((fst (posb O D W n b) 18 : Nat) - 9))) hp) := by
  refine Sp_mk rfl (Nat.le_of_ble_eq_true rfl) ?_
  show wp g _ _ _ 0 0 0 [some (.ref s), some (.int (I b)), none] [] hp
  refine wp_bipush (pc := 0) (y := (-9)) dX8_least_0 (by decide) ?_
  refine wp_istore_n (pc := 2) dX8_least_2 (by decide) ?_
  exact lp_Shifts_least hs rb 19 0 (by omega) (by omega) (fun j hj => by omega)
/-- how many possible shifts make w of o, of the first i -/
def tly (P : Nat → Bool) (o : Int) (i : Nat) (w : Int) : Int := ((cnt (fun k => P k && decide (sy o ((k : Int) - 9) = w)) i : Nat) : Int)
def mot (P : Nat → Bool) (o : Int) : Nat → Int
  | 0 => 0
  | i + 1 => if P i then mx (mot P o i) (tly P o (i + 1) (sy o ((i : Int) - 9))) else mot P o i
theorem tly_in (P : Nat → Bool) (o : Int) (i : Nat) (w : Int) : 0 ≤ tly P o i w ∧ tly P o i w ≤ i := by
  have := cnt_le (fun k => P k && decide (sy o ((k : Int) - 9) = w)) i
  unfold tly
  omega
theorem mot_in (P : Nat → Bool) (o : Int) : ∀ i : Nat, 0 ≤ mot P o i ∧ mot P o i ≤ i
  | 0 => by unfold mot; omega
  | i + 1 => by
    have h1 := mot_in P o i
    have h2 := tly_in P o (i + 1) (sy o ((i : Int) - 9))
    unfold mot
    split
    · unfold mx; split <;> omega
    · omega
theorem tly_no {P : Nat → Bool} {o w : Int} {i : Nat} (h : ¬ (P i = true ∧ sy o ((i : Int) - 9) = w)) : tly P o (i + 1) w = tly P o i w := by
  unfold tly
  show ((cnt _ i + _ : Nat) : Int) = _
  rw [if_neg (by simp; exact fun a b => h ⟨a, b⟩)]
  rfl
theorem tly_yes {P : Nat → Bool} {o w : Int} {i : Nat} (h : P i = true ∧ sy o ((i : Int) - 9) = w) : tly P o (i + 1) w = tly P o i w + 1 := by
  unfold tly
  show ((cnt _ i + _ : Nat) : Int) = _
  rw [if_pos (by simp [h.1, h.2])]
  rfl
theorem lp_Shifts_left1 {Q : Option Value → Hp → Prop} (K : ∀ hp2 F, ShiftsAt hp2 s O D W n → hp2.2 (s + 4) = some (.inl (.int, 10, F)) → (∀ w : Int, 0 ≤ w → w ≤ 9 → F w = 0) → SO hp hp2 s (s + 5) → wp g MX8_leftAtMost (rm 3 0 0) Q 0 0 21 [some (.ref s), some (.int (I b)), some (.int (I o)), none, none, none] [] hp2) : ∀ (m i : Nat), 10 < i + m → i ≤ 10 → ∀ (hp2 : Hp) (F : Int → Int) (hs : ShiftsAt hp2 s O D W n) (h4 : hp2.2 (s + 4) = some (.inl (.int, 10, F))) (hF : ∀ w : Int, 0 ≤ w → w < i → F w = 0) (hS : SO hp hp2 s (s + 5)), wp g MX8_leftAtMost (rm 3 0 0) Q 0 0 2 [some (.ref s), some (.int (I b)), some (.int (I o)), some (.int (I (i : Int))), none, none] [] hp2 := by
  intro m
  induction m with
  | zero => intro i h1 h2; exact absurd h1 (by omega)
  | succ m ih =>
    intro i h1 h2 hp2 F hs h4 hF hS
    have hs' := hs
    obtain ⟨s0, s1, s2, s3, ⟨F0, s4⟩, hn, rO, rD, rW⟩ := hs
    refine wp_iload_n (pc := 2) dX8_leftAtMost_2 rfl ?_
    refine wp_bipush (pc := 3) (y := 9) dX8_leftAtMost_3 (by decide) ?_
    refine wp_icmp_gt (pc := 5) 21 dX8_leftAtMost_5 (by decide) (by omega) (by omega) (fun c5 => ?_) (fun c5 => ?_)
    ·
      refine wp_ls ?_ (K hp2 F hs' h4 (fun w h1 h2 => hF w h1 (by omega)) hS)
      · repeat' (first | exact LE_0 | refine LE_s rfl ?_ | refine LE_s (I_c (by first | omega | (simp only [sm]; omega))) ?_ | refine LE_s (J_c (by first | omega | exact Int.pow_succ _ _ | exact (Int.pow_succ _ _).symm | (simp only [sm]; omega))) ?_ | refine LE_n ?_)
    ·
      refine wp_aload_n (pc := 8) dX8_leftAtMost_8 rfl ?_
      refine wp_getf (pc := 9) dX8_leftAtMost_9 gf_X8_21 (by repeat (first | assumption | exact hset_eq | refine hset_at (by omega) ?_)) (by rfl) ?_
      refine wp_iload_n (pc := 12) dX8_leftAtMost_12 rfl ?_
      refine wp_iconst (pc := 13) dX8_leftAtMost_13 ?_
      refine wp_iast (pc := 14) dX8_leftAtMost_14 h4 (by omega) (by omega) (by decide) ?_
      refine wp_iinc (pc := 15) dX8_leftAtMost_15 rfl (by decide) ?_
      refine wp_goto (pc := 18) 2 dX8_leftAtMost_18 (by decide) ?_
      refine wp_ls ?_ (ih (i + 1) (by omega) (by omega) _ (updI F (i : Int) 0) ⟨(by repeat (first | assumption | exact hset_eq | refine hset_at (by omega) ?_)), (by repeat (first | assumption | exact hset_eq | refine hset_at (by omega) ?_)), (by repeat (first | assumption | exact hset_eq | refine hset_at (by omega) ?_)), (by repeat (first | assumption | exact hset_eq | refine hset_at (by omega) ?_)), ⟨_, hset_eq⟩, hn, rO, rD, rW⟩ hset_eq (fun w h1 h2 => ?_) (by repeat (first | exact SO.rf | assumption | refine SO.set ?_ (by omega) (by omega))))
      · repeat' (first | exact LE_0 | refine LE_s rfl ?_ | refine LE_s (I_c (by first | omega | (simp only [sm]; omega))) ?_ | refine LE_s (J_c (by first | omega | exact Int.pow_succ _ _ | exact (Int.pow_succ _ _).symm | (simp only [sm]; omega))) ?_ | refine LE_n ?_)
      · unfold updI
        split
        · rfl
        · exact hF w h1 (by omega)
theorem lp_Shifts_left2 (rb : 0 ≤ b ∧ b ≤ 1) (ro : 0 ≤ o ∧ o ≤ 9) : ∀ (m i : Nat), 19 < i + m → i ≤ 19 → ∀ (hp2 : Hp) (F : Int → Int) (hs : ShiftsAt hp2 s O D W n) (h4 : hp2.2 (s + 4) = some (.inl (.int, 10, F))) (hF : ∀ w : Int, 0 ≤ w → w ≤ 9 → F w = tly (posb O D W n b) o i w) (hS : SO hp hp2 s (s + 5)), wp g MX8_leftAtMost (rm 3 0 0) (Eff (.int (I (mot (posb O D W n b) o 19))) (fun hp2 => ShiftsAt hp2 s O D W n ∧ SO hp hp2 s (s + 5))) 0 0 27 [some (.ref s), some (.int (I b)), some (.int (I o)), some (.int (I (mot (posb O D W n b) o i))), some (.int (I ((i : Int) - 9))), none] [] hp2 := by
  intro m
  induction m with
  | zero => intro i h1 h2; exact absurd h1 (by omega)
  | succ m ih =>
    intro i h1 h2 hp2 F hs h4 hF hS
    have hs' := hs
    obtain ⟨s0, s1, s2, s3, ⟨F0, s4⟩, hn, rO, rD, rW⟩ := hs
    have hsy := sy_in o ((i : Int) - 9)
    have hmo := mot_in (posb O D W n b) o i
    have htl := tly_in (posb O D W n b) o i (sy o ((i : Int) - 9))
    refine wp_iload (pc := 27) dX8_leftAtMost_27 rfl ?_
    refine wp_bipush (pc := 29) (y := 9) dX8_leftAtMost_29 (by decide) ?_
    refine wp_icmp_gt (pc := 31) 84 dX8_leftAtMost_31 (by decide) (by omega) (by omega) (fun c31 => ?_) (fun c31 => ?_)
    ·
      have e : i = 19 := by omega
      subst e -- go
      refine wp_iload_n (pc := 84) dX8_leftAtMost_84 rfl ?_
      exact wp_ir (pc := 85) dX8_leftAtMost_85 rfl (by decide) (by decide) (by first | rfl | omega) ⟨hs', hS⟩
    ·
      refine wp_aload_n (pc := 34) dX8_leftAtMost_34 rfl ?_
      refine wp_iload_n (pc := 35) dX8_leftAtMost_35 rfl ?_
      refine wp_iload (pc := 36) dX8_leftAtMost_36 rfl ?_
      refine wp_Vp (pc := 38) dX8_leftAtMost_38 cl_X8_32 (sp_Shifts_isPossible (by first | assumption | omega) (by first | assumption | omega) (by first | assumption | omega)) rfl rfl (by repeat (first | assumption | exact hset_eq | refine hset_at (by omega) ?_)) (by rfl) (by decide) (Nat.le_of_ble_eq_true rfl) ?_
      first | refine wp_ifb_eq (pc := 41) 78 dX8_leftAtMost_41 (by decide) (fun c41 => ?_) (fun c41 => ?_) | refine wp_if_eq (pc := 41) 78 dX8_leftAtMost_41 (by decide) (by omega) (fun c41 => ?_) (fun c41 => ?_)
      ·
        have e : mot (posb O D W n b) o (i + 1) = mot (posb O D W n b) o i := if_neg c41
        rw [← e] -- go
        refine wp_iinc (pc := 78) dX8_leftAtMost_78 rfl (by decide) ?_
        refine wp_goto (pc := 81) 27 dX8_leftAtMost_81 (by decide) ?_
        first
        | refine wp_ls ?_ (ih (i + 1) (by omega) (by omega) hp2 F hs' h4 (fun w h1 h2 => ?_) hS)
          · repeat' (first | exact LE_0 | refine LE_s rfl ?_ | refine LE_s (I_c (by first | omega | (simp only [sm]; omega))) ?_ | refine LE_s (J_c (by first | omega | exact Int.pow_succ _ _ | exact (Int.pow_succ _ _).symm | (simp only [sm]; omega))) ?_ | refine LE_n ?_)
          · rw [tly_no (P := posb O D W n b) (o := o) (i := i) (fun z => c41 z.1)]; exact hF w h1 h2
        | refine wp_ls ?_ (ih (i + 1) (by omega) (by omega) _ (updI F (sy o ((i : Int) - 9)) (tly (posb O D W n b) o i (sy o ((i : Int) - 9)) + 1)) ⟨(by repeat (first | assumption | exact hset_eq | refine hset_at (by omega) ?_)), (by repeat (first | assumption | exact hset_eq | refine hset_at (by omega) ?_)), (by repeat (first | assumption | exact hset_eq | refine hset_at (by omega) ?_)), (by repeat (first | assumption | exact hset_eq | refine hset_at (by omega) ?_)), ⟨_, hset_eq⟩, hn, rO, rD, rW⟩ hset_eq (fun w h1 h2 => ?_) (by repeat (first | exact SO.rf | assumption | refine SO.set ?_ (by omega) (by omega))))
          · repeat' (first | exact LE_0 | refine LE_s rfl ?_ | refine LE_s (I_c (by first | omega | (simp only [sm]; omega))) ?_ | refine LE_s (J_c (by first | omega | exact Int.pow_succ _ _ | exact (Int.pow_succ _ _).symm | (simp only [sm]; omega))) ?_ | refine LE_n ?_)
          · by_cases z : w = sy o ((i : Int) - 9)
            · rw [z, updI_eq, ey]
            · rw [updI_ne z, tly_no (P := posb O D W n b) (o := o) (i := i) (fun y => z y.2.symm)]; exact hF w h1 h2
      ·
        have e : mot (posb O D W n b) o (i + 1) = mx (mot (posb O D W n b) o i) (tly (posb O D W n b) o (i + 1) (sy o ((i : Int) - 9))) := if_pos c41
        have ey := tly_yes (P := posb O D W n b) (o := o) (i := i) ⟨c41, rfl⟩ -- go
        refine wp_iload_n (pc := 44) dX8_leftAtMost_44 rfl ?_
        refine wp_iload (pc := 45) dX8_leftAtMost_45 rfl ?_
        refine wp_iadd (pc := 47) dX8_leftAtMost_47 ?_
        refine wp_bipush (pc := 48) (y := 9) dX8_leftAtMost_48 (by decide) ?_
        refine wp_Sp (pc := 50) dX8_leftAtMost_50 cl_X8_28 (sp_D_within (by first | assumption | omega) (by first | assumption | omega)) rfl rfl (by decide) (Nat.le_of_ble_eq_true rfl) ?_
        change wp _ _ _ _ _ _ _ _ (Value.int (I (sy o ((i : Int) - 9))) :: _) _
        refine wp_istore (pc := 53) dX8_leftAtMost_53 (by decide) ?_
        refine wp_aload_n (pc := 55) dX8_leftAtMost_55 rfl ?_
        refine wp_getf (pc := 56) dX8_leftAtMost_56 gf_X8_21 (by repeat (first | assumption | exact hset_eq | refine hset_at (by omega) ?_)) (by rfl) ?_
        refine wp_iload (pc := 59) dX8_leftAtMost_59 rfl ?_
        first | refine wp_dup2 (pc := 61) dX8_leftAtMost_61 rfl rfl ?_ | refine wp_dup2l (pc := 61) dX8_leftAtMost_61 rfl ?_
        refine wp_iald (pc := 62) dX8_leftAtMost_62 h4 (by omega) (by omega) (by decide) ?_
        refine wp_topE (hF _ hsy.1 hsy.2) ?_
        refine wp_iconst (pc := 63) dX8_leftAtMost_63 ?_
        refine wp_iadd (pc := 64) dX8_leftAtMost_64 ?_
        refine wp_iast (pc := 65) dX8_leftAtMost_65 h4 (by omega) (by omega) (by decide) ?_
        refine wp_iload_n (pc := 66) dX8_leftAtMost_66 rfl ?_
        refine wp_aload_n (pc := 67) dX8_leftAtMost_67 rfl ?_
        refine wp_getf (pc := 68) dX8_leftAtMost_68 gf_X8_21 (by repeat (first | assumption | exact hset_eq | refine hset_at (by omega) ?_)) (by rfl) ?_
        refine wp_iload (pc := 71) dX8_leftAtMost_71 rfl ?_
        refine wp_iald (pc := 73) dX8_leftAtMost_73 hset_eq (by omega) (by omega) (by decide) ?_
        refine wp_topE (updI_eq.trans ey.symm) ?_
        refine wp_max (pc := 74) dX8_leftAtMost_74 ml_X8_36 ma_max_s ma_ini ma_max_c (by decide) (by decide) (by decide) (by decide) (Nat.le_of_ble_eq_true rfl) (by omega) (by omega) ?_
        rw [← e]
        refine wp_istore_n (pc := 77) dX8_leftAtMost_77 (by decide) ?_
        refine wp_iinc (pc := 78) dX8_leftAtMost_78 rfl (by decide) ?_
        refine wp_goto (pc := 81) 27 dX8_leftAtMost_81 (by decide) ?_
        first
        | refine wp_ls ?_ (ih (i + 1) (by omega) (by omega) hp2 F hs' h4 (fun w h1 h2 => ?_) hS)
          · repeat' (first | exact LE_0 | refine LE_s rfl ?_ | refine LE_s (I_c (by first | omega | (simp only [sm]; omega))) ?_ | refine LE_s (J_c (by first | omega | exact Int.pow_succ _ _ | exact (Int.pow_succ _ _).symm | (simp only [sm]; omega))) ?_ | refine LE_n ?_)
          · rw [tly_no (P := posb O D W n b) (o := o) (i := i) (fun z => c41 z.1)]; exact hF w h1 h2
        | refine wp_ls ?_ (ih (i + 1) (by omega) (by omega) _ (updI F (sy o ((i : Int) - 9)) (tly (posb O D W n b) o i (sy o ((i : Int) - 9)) + 1)) ⟨(by repeat (first | assumption | exact hset_eq | refine hset_at (by omega) ?_)), (by repeat (first | assumption | exact hset_eq | refine hset_at (by omega) ?_)), (by repeat (first | assumption | exact hset_eq | refine hset_at (by omega) ?_)), (by repeat (first | assumption | exact hset_eq | refine hset_at (by omega) ?_)), ⟨_, hset_eq⟩, hn, rO, rD, rW⟩ hset_eq (fun w h1 h2 => ?_) (by repeat (first | exact SO.rf | assumption | refine SO.set ?_ (by omega) (by omega))))
          · repeat' (first | exact LE_0 | refine LE_s rfl ?_ | refine LE_s (I_c (by first | omega | (simp only [sm]; omega))) ?_ | refine LE_s (J_c (by first | omega | exact Int.pow_succ _ _ | exact (Int.pow_succ _ _).symm | (simp only [sm]; omega))) ?_ | refine LE_n ?_)
          · by_cases z : w = sy o ((i : Int) - 9)
            · rw [z, updI_eq, ey]
            · rw [updI_ne z, tly_no (P := posb O D W n b) (o := o) (i := i) (fun y => z y.2.symm)]; exact hF w h1 h2
theorem sp_Shifts_leftAtMost (hs : ShiftsAt hp s O D W n) (rb : 0 ≤ b ∧ b ≤ 1) (ro : 0 ≤ o ∧ o ≤ 9) : Sp g MX8_leftAtMost (rm 3 0 0) [.ref s, .int (I b), .int (I o)] hp (Eff (.int (I (mot (posb O D W n b) o 19))) (fun hp2 => ShiftsAt hp2 s O D W n ∧ SO hp hp2 s (s + 5))) := by
  have hs' := hs
  obtain ⟨s0, s1, s2, s3, ⟨F0, s4⟩, hn, rO, rD, rW⟩ := hs
  refine Sp_mk rfl (Nat.le_of_ble_eq_true rfl) ?_
  show wp g _ _ _ 0 0 0 [some (.ref s), some (.int (I b)), some (.int (I o)), none, none, none] [] hp
  refine wp_iconst (pc := 0) dX8_leftAtMost_0 ?_
  refine wp_istore_n (pc := 1) dX8_leftAtMost_1 (by decide) ?_
  refine lp_Shifts_left1 ?_ 11 0 (by omega) (by omega) hp F0 hs' s4 (fun w h1 h2 => by omega) SO.rf
  intro hp2 F hs2 h4 hF hS
  have hs2' := hs2
  obtain ⟨s0, s1, s2, s3, ⟨F1, s4⟩, hn, rO, rD, rW⟩ := hs2
  refine wp_iconst (pc := 21) dX8_leftAtMost_21 ?_
  refine wp_istore_n (pc := 22) dX8_leftAtMost_22 (by decide) ?_
  refine wp_bipush (pc := 23) (y := (-9)) dX8_leftAtMost_23 (by decide) ?_
  refine wp_istore (pc := 25) dX8_leftAtMost_25 (by decide) ?_
  exact lp_Shifts_left2 rb ro 20 0 (by omega) (by omega) hp2 F hs2' h4 (fun w h1 h2 => hF w h1 h2) hS
/-! Hearsay -/
def HearAt (hp : Hp) (h : Nat) (A V : Int → Int) (n : Nat) : Prop := hp.2 h = some (.inr (.inr (3, [.ref (h + 1), .ref (h + 2), .int (I (n : Int))]))) ∧ hp.2 (h + 1) = some (.inl (.int, 12, A)) ∧ hp.2 (h + 2) = some (.inl (.int, 12, V)) ∧ n ≤ 12 ∧ (∀ i, 0 ≤ A i ∧ A i ≤ 4) ∧ (∀ i, 0 ≤ V i ∧ V i ≤ 99)
theorem HearAt.off {A V : Int → Int} (k : HearAt hp h A V n) (hS : ∀ x, h ≤ x → x < h + 3 → hp2.2 x = hp.2 x) : HearAt hp2 h A V n := by
  obtain ⟨s0, s1, s2, r⟩ := k
  exact ⟨(hS _ (by omega) (by omega)).trans s0, (hS _ (by omega) (by omega)).trans s1, (hS _ (by omega) (by omega)).trans s2, r⟩
theorem HearAt.fr {A V : Int → Int} (k : HearAt hp h A V n) {lo hi : Nat} (hS : SO hp hp2 lo hi) (hd : hi ≤ h ∨ h + 3 ≤ lo) : HearAt hp2 h A V n := k.off fun x _ _ => hS.2 x (by omega)
theorem sp_Hearsay_size {A V : Int → Int} (k : HearAt hp h A V n) : Sp g MX3_size (rm 0 0 0) [.ref h] hp (Pur (.int (I (n : Int))) hp) := by
  obtain ⟨s0, s1, s2, hn, rA, rV⟩ := k
  refine Sp_mk rfl (Nat.le_of_ble_eq_true rfl) ?_
  show wp g _ _ _ 0 0 0 [some (.ref h)] [] hp
  refine wp_aload_n (pc := 0) dX3_size_0 rfl ?_
  refine wp_getf (pc := 1) dX3_size_1 gf_X3_18 (by repeat (first | assumption | exact hset_eq | refine hset_at (by omega) ?_)) (by rfl) ?_
  exact wp_ir (pc := 4) dX3_size_4 rfl (by decide) (by decide) (by first | rfl | omega) rfl
theorem sp_Hearsay_clear {A V : Int → Int} (k : HearAt hp h A V n) : Sp g MX3_clear (rm 0 0 0) [.ref h] hp (Eff (.int (I (n : Int))) (fun hp2 => HearAt hp2 h A V 0 ∧ SO hp hp2 h (h + 3))) := by
  obtain ⟨s0, s1, s2, hn, rA, rV⟩ := k
  refine Sp_mk rfl (Nat.le_of_ble_eq_true rfl) ?_
  show wp g _ _ _ 0 0 0 [some (.ref h), none] [] hp
  refine wp_aload_n (pc := 0) dX3_clear_0 rfl ?_
  refine wp_getf (pc := 1) dX3_clear_1 gf_X3_18 (by repeat (first | assumption | exact hset_eq | refine hset_at (by omega) ?_)) (by rfl) ?_
  refine wp_istore_n (pc := 4) dX3_clear_4 (by decide) ?_
  refine wp_aload_n (pc := 5) dX3_clear_5 rfl ?_
  refine wp_iconst (pc := 6) dX3_clear_6 ?_
  refine wp_putf (pc := 7) dX3_clear_7 pf_X3_18 (by repeat (first | assumption | exact hset_eq | refine hset_at (by omega) ?_)) (by first | decide | exact Nat.lt_of_sub_pos (by decide) | simp) rfl rfl (by first | decide | intro h; cases h) ?_
  refine wp_iload_n (pc := 10) dX3_clear_10 rfl ?_
  exact wp_ir (pc := 11) dX3_clear_11 rfl (by decide) (by decide) (by first | rfl | omega) ⟨⟨hset_eq, (by repeat (first | assumption | exact hset_eq | refine hset_at (by omega) ?_)), (by repeat (first | assumption | exact hset_eq | refine hset_at (by omega) ?_)), by omega, rA, rV⟩, (by repeat (first | exact SO.rf | assumption | refine SO.set ?_ (by omega) (by omega)))⟩
def mof (a : Int) : Int := if a = 0 then 99 else if a = 1 ∨ a = 3 then 1 else if a = 2 then 9 else if a = 4 then 99 else -1
theorem sp_Hearsay_mostOf (ra : InR a) : Sp g MX3_mostOf (rm 0 0 0) [.int (I a)] hp (Pur (.int (I (mof a))) hp) := by
  refine Sp_mk rfl (Nat.le_of_ble_eq_true rfl) ?_
  show wp g _ _ _ 0 0 0 [some (.int (I a))] [] hp
  refine wp_iload_n (pc := 0) dX3_mostOf_0 rfl ?_
  by_cases hz : a < 0 ∨ 4 < a
  · refine wp_tswOut (pc := 1) 47 dX3_mostOf_1 ra hz (by decide) ?_
    refine wp_iconst (pc := 47) dX3_mostOf_47 ?_
    exact wp_ir dX3_mostOf_48 rfl (by decide) (by decide) (by unfold mof; repeat' split <;> omega) rfl
  rcases (show a = 0 ∨ a = 1 ∨ a = 2 ∨ a = 3 ∨ a = 4 by omega) with e | e | e | e | e
  · subst e
    refine wp_tswIn (pc := 1) 36 dX3_mostOf_1 ra (by decide) (by decide) rfl (by decide) ?_
    refine wp_bipush (y := 99) (pc := 36) dX3_mostOf_36 (by decide) ?_
    exact wp_ir dX3_mostOf_38 rfl (by decide) (by decide) rfl rfl
  · subst e
    refine wp_tswIn (pc := 1) 39 dX3_mostOf_1 ra (by decide) (by decide) rfl (by decide) ?_
    refine wp_iconst (pc := 39) dX3_mostOf_39 ?_
    exact wp_ir dX3_mostOf_40 rfl (by decide) (by decide) rfl rfl
  · subst e
    refine wp_tswIn (pc := 1) 41 dX3_mostOf_1 ra (by decide) (by decide) rfl (by decide) ?_
    refine wp_bipush (y := 9) (pc := 41) dX3_mostOf_41 (by decide) ?_
    exact wp_ir dX3_mostOf_43 rfl (by decide) (by decide) rfl rfl
  · subst e
    refine wp_tswIn (pc := 1) 39 dX3_mostOf_1 ra (by decide) (by decide) rfl (by decide) ?_
    refine wp_iconst (pc := 39) dX3_mostOf_39 ?_
    exact wp_ir dX3_mostOf_40 rfl (by decide) (by decide) rfl rfl
  · subst e
    refine wp_tswIn (pc := 1) 44 dX3_mostOf_1 ra (by decide) (by decide) rfl (by decide) ?_
    refine wp_bipush (y := 99) (pc := 44) dX3_mostOf_44 (by decide) ?_
    exact wp_ir dX3_mostOf_46 rfl (by decide) (by decide) rfl rfl
theorem mof_in (a : Int) : -1 ≤ mof a ∧ mof a ≤ 99 := by unfold mof; repeat' split <;> omega
theorem mof_a {a v : Int} (h : 0 ≤ v) (h2 : v ≤ mof a) : 0 ≤ a ∧ a ≤ 4 := by unfold mof at h2; repeat' (split at h2 <;> try omega)
theorem sp_Hearsay_add {A V : Int → Int} (k : HearAt hp h A V n) (ra : InR a) (rv : InR v) : Sp g MX3_add (rm 1 0 0) [.ref h, .int (I a), .int (I v)] hp (Eff (.int (I (if n < 12 ∧ 0 ≤ v ∧ v ≤ mof a then (n : Int) + 1 else -1))) (fun hp2 => (if n < 12 ∧ 0 ≤ v ∧ v ≤ mof a then HearAt hp2 h (updI A n a) (updI V n v) (n + 1) else HearAt hp2 h A V n) ∧ SO hp hp2 h (h + 3))) := by
  have k' := k
  obtain ⟨s0, s1, s2, hn, rA, rV⟩ := k
  have hm := mof_in a
  refine Sp_mk rfl (Nat.le_of_ble_eq_true rfl) ?_
  show wp g _ _ _ 0 0 0 [some (.ref h), some (.int (I a)), some (.int (I v))] [] hp
  refine wp_aload_n (pc := 0) dX3_add_0 rfl ?_
  refine wp_getf (pc := 1) dX3_add_1 gf_X3_18 (by repeat (first | assumption | exact hset_eq | refine hset_at (by omega) ?_)) (by rfl) ?_
  refine wp_bipush (pc := 4) (y := 12) dX3_add_4 (by decide) ?_
  refine wp_icmp_ge (pc := 6) 21 dX3_add_6 (by decide) (by omega) (by omega) (fun c6 => ?_) (fun c6 => ?_)
  ·
    refine wp_iconst (pc := 21) dX3_add_21 ?_
    exact wp_ir (pc := 22) dX3_add_22 rfl (by decide) (by decide) (by rw [if_neg (by omega)]) ⟨by rw [if_neg (by omega)]; exact k', SO.rf⟩
  ·
    refine wp_iload_n (pc := 9) dX3_add_9 rfl ?_
    refine wp_if_lt (pc := 10) 21 dX3_add_10 (by decide) (by omega) (fun c10 => ?_) (fun c10 => ?_)
    ·
      refine wp_iconst (pc := 21) dX3_add_21 ?_
      exact wp_ir (pc := 22) dX3_add_22 rfl (by decide) (by decide) (by rw [if_neg (by omega)]) ⟨by rw [if_neg (by omega)]; exact k', SO.rf⟩
    ·
      refine wp_iload_n (pc := 13) dX3_add_13 rfl ?_
      refine wp_iload_n (pc := 14) dX3_add_14 rfl ?_
      refine wp_Sp (pc := 15) dX3_add_15 cl_X3_22 (sp_Hearsay_mostOf (by first | assumption | omega)) rfl rfl (by decide) (Nat.le_of_ble_eq_true rfl) ?_
      refine wp_icmp_le (pc := 18) 23 dX3_add_18 (by decide) (by omega) (by omega) (fun c18 => ?_) (fun c18 => ?_)
      ·
        have hma := mof_a (a := a) (v := v) (by omega) (by omega)
        refine wp_aload_n (pc := 23) dX3_add_23 rfl ?_
        refine wp_getf (pc := 24) dX3_add_24 gf_X3_11 (by repeat (first | assumption | exact hset_eq | refine hset_at (by omega) ?_)) (by rfl) ?_
        refine wp_aload_n (pc := 27) dX3_add_27 rfl ?_
        refine wp_getf (pc := 28) dX3_add_28 gf_X3_18 (by repeat (first | assumption | exact hset_eq | refine hset_at (by omega) ?_)) (by rfl) ?_
        refine wp_iload_n (pc := 31) dX3_add_31 rfl ?_
        refine wp_iast (pc := 32) dX3_add_32 (by repeat (first | assumption | exact hset_eq | refine hset_at (by omega) ?_)) (by omega) (by omega) (by decide) ?_
        refine wp_aload_n (pc := 33) dX3_add_33 rfl ?_
        refine wp_getf (pc := 34) dX3_add_34 gf_X3_15 (by repeat (first | assumption | exact hset_eq | refine hset_at (by omega) ?_)) (by rfl) ?_
        refine wp_aload_n (pc := 37) dX3_add_37 rfl ?_
        refine wp_getf (pc := 38) dX3_add_38 gf_X3_18 (by repeat (first | assumption | exact hset_eq | refine hset_at (by omega) ?_)) (by rfl) ?_
        refine wp_iload_n (pc := 41) dX3_add_41 rfl ?_
        refine wp_iast (pc := 42) dX3_add_42 (by repeat (first | assumption | exact hset_eq | refine hset_at (by omega) ?_)) (by omega) (by omega) (by decide) ?_
        refine wp_aload_n (pc := 43) dX3_add_43 rfl ?_
        refine wp_dup (pc := 44) dX3_add_44 rfl ?_
        refine wp_getf (pc := 45) dX3_add_45 gf_X3_18 (by repeat (first | assumption | exact hset_eq | refine hset_at (by omega) ?_)) (by rfl) ?_
        refine wp_iconst (pc := 48) dX3_add_48 ?_
        refine wp_iadd (pc := 49) dX3_add_49 ?_
        refine wp_putf (pc := 50) dX3_add_50 pf_X3_18 (by repeat (first | assumption | exact hset_eq | refine hset_at (by omega) ?_)) (by first | decide | exact Nat.lt_of_sub_pos (by decide) | simp) rfl rfl (by first | decide | intro h; cases h) ?_
        refine wp_aload_n (pc := 53) dX3_add_53 rfl ?_
        refine wp_getf (pc := 54) dX3_add_54 gf_X3_18 (by repeat (first | assumption | exact hset_eq | refine hset_at (by omega) ?_)) (by rfl) ?_
        exact wp_ir (pc := 57) dX3_add_57 rfl (by decide) (by decide) (by rw [if_pos (by omega)]) ⟨by rw [if_pos (by omega)]; exact ⟨hset_eq, (by repeat (first | assumption | exact hset_eq | refine hset_at (by omega) ?_)), (by repeat (first | assumption | exact hset_eq | refine hset_at (by omega) ?_)), by omega, updI_all (P := fun x => 0 ≤ x ∧ x ≤ 4) rA hma, updI_all (P := fun x => 0 ≤ x ∧ x ≤ 99) rV (by omega)⟩, (by repeat (first | exact SO.rf | assumption | refine SO.set ?_ (by omega) (by omega)))⟩
      ·
        refine wp_iconst (pc := 21) dX3_add_21 ?_
        exact wp_ir (pc := 22) dX3_add_22 rfl (by decide) (by decide) (by rw [if_neg (by omega)]) ⟨by rw [if_neg (by omega)]; exact k', SO.rf⟩
end SH

