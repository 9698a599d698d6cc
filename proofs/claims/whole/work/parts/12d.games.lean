/-! Games -/
section GA
variable {g : GT} {hp hp2 : Hp} {G r N h n k : Nat} {W Y Z F : Int → Int} {T : Nat → Int → Int} {a b c d o v x y : Int} {l : List Int}
def GamesAt (hp : Hp) (G : Nat) : Prop := hp.2 G = some (.inr (.inr (2, [.ref (G + 1), .ref (G + 2), .ref (G + 3)]))) ∧ (∃ W, hp.2 (G + 1) = some (.inl (.boolean, 400, W)) ∧ ∀ i, 0 ≤ W i ∧ W i ≤ 1) ∧ (∃ Y, hp.2 (G + 2) = some (.inl (.long, 7, Y))) ∧ ∃ Z, hp.2 (G + 3) = some (.inl (.int, 10, Z))
theorem GamesAt.off (hG : GamesAt hp G) (hS : ∀ x, G ≤ x → x < G + 4 → hp2.2 x = hp.2 x) : GamesAt hp2 G := by
  obtain ⟨g0, ⟨W, g1, rW⟩, ⟨Y, g2⟩, ⟨Z, g3⟩⟩ := hG
  exact ⟨(hS _ (by omega) (by omega)).trans g0, ⟨W, (hS _ (by omega) (by omega)).trans g1, rW⟩, ⟨Y, (hS _ (by omega) (by omega)).trans g2⟩, ⟨Z, (hS _ (by omega) (by omega)).trans g3⟩⟩
theorem GamesAt.fr (hG : GamesAt hp G) {lo hi : Nat} (hS : SO hp hp2 lo hi) (hd : hi ≤ G ∨ G + 4 ≤ lo) : GamesAt hp2 G := hG.off fun x _ _ => hS.2 x (by omega)
/-! the bank -/
abbrev los (W : Int → Int) (c o : Int) : Prop := 0 ≤ c * 4 + o ∧ c * 4 + o < 400 ∧ W (c * 4 + o) = 0
theorem sp_Games_loses (g0 : hp.2 G = some (.inr (.inr (2, [.ref (G + 1), .ref (G + 2), .ref (G + 3)])))) (g1 : hp.2 (G + 1) = some (.inl (.boolean, 400, W))) (rW : ∀ i, 0 ≤ W i ∧ W i ≤ 1) (rc : 0 ≤ c ∧ c ≤ 1000) (ro : 0 ≤ o ∧ o ≤ 3) : Sp g MX2_loses (rm 0 0 0) [.ref G, .int (I c), .int (I o)] hp (Pur (.int (B (los W c o))) hp) := by
  have := rW (c * 4 + o)
  refine Sp_mk rfl (Nat.le_of_ble_eq_true rfl) ?_
  show wp g _ _ _ 0 0 0 [some (.ref G), some (.int (I c)), some (.int (I o)), none] [] hp
  refine wp_iload_n (pc := 0) dX2_loses_0 rfl ?_
  refine wp_iconst (pc := 1) dX2_loses_1 ?_
  refine wp_imul (pc := 2) dX2_loses_2 ?_
  refine wp_iload_n (pc := 3) dX2_loses_3 rfl ?_
  refine wp_iadd (pc := 4) dX2_loses_4 ?_
  refine wp_istore_n (pc := 5) dX2_loses_5 (by decide) ?_
  refine wp_iload_n (pc := 6) dX2_loses_6 rfl ?_
  refine wp_if_lt (pc := 7) 32 dX2_loses_7 (by decide) (by omega) (fun c7 => ?_) (fun c7 => ?_)
  ·
    refine wp_iconst (pc := 32) dX2_loses_32 ?_
    first | exact wp_z1 (pc := 33) dX2_loses_33 rfl (by decide) (by decide) (by omega) rfl | exact wp_z0 (pc := 33) dX2_loses_33 rfl (by decide) (by decide) (by omega) rfl | exact wp_zb (pc := 33) dX2_loses_33 rfl (by decide) (by decide) Iff.rfl rfl
  ·
    refine wp_iload_n (pc := 10) dX2_loses_10 rfl ?_
    refine wp_aload_n (pc := 11) dX2_loses_11 rfl ?_
    refine wp_getf (pc := 12) dX2_loses_12 gf_X2_11 (by repeat (first | assumption | exact hset_eq | refine hset_at (by omega) ?_)) (by rfl) ?_
    refine wp_alen (pc := 15) dX2_loses_15 g1 ?_
    refine wp_icmp_ge (pc := 16) 32 dX2_loses_16 (by decide) (by omega) (by omega) (fun c16 => ?_) (fun c16 => ?_)
    ·
      refine wp_iconst (pc := 32) dX2_loses_32 ?_
      first | exact wp_z1 (pc := 33) dX2_loses_33 rfl (by decide) (by decide) (by omega) rfl | exact wp_z0 (pc := 33) dX2_loses_33 rfl (by decide) (by decide) (by omega) rfl | exact wp_zb (pc := 33) dX2_loses_33 rfl (by decide) (by decide) Iff.rfl rfl
    ·
      refine wp_aload_n (pc := 19) dX2_loses_19 rfl ?_
      refine wp_getf (pc := 20) dX2_loses_20 gf_X2_11 (by repeat (first | assumption | exact hset_eq | refine hset_at (by omega) ?_)) (by rfl) ?_
      refine wp_iload_n (pc := 23) dX2_loses_23 rfl ?_
      refine wp_zald (pc := 24) dX2_loses_24 g1 (by omega) (by omega) (by decide) ?_
      first | refine wp_ifb_ne (pc := 25) 32 dX2_loses_25 (by decide) (fun c25 => ?_) (fun c25 => ?_) | refine wp_if_ne (pc := 25) 32 dX2_loses_25 (by decide) (by omega) (fun c25 => ?_) (fun c25 => ?_)
      ·
        refine wp_iconst (pc := 32) dX2_loses_32 ?_
        first | exact wp_z1 (pc := 33) dX2_loses_33 rfl (by decide) (by decide) (by omega) rfl | exact wp_z0 (pc := 33) dX2_loses_33 rfl (by decide) (by decide) (by omega) rfl | exact wp_zb (pc := 33) dX2_loses_33 rfl (by decide) (by decide) Iff.rfl rfl
      ·
        refine wp_iconst (pc := 28) dX2_loses_28 ?_
        refine wp_goto (pc := 29) 33 dX2_loses_29 (by decide) ?_
        first | exact wp_z1 (pc := 33) dX2_loses_33 rfl (by decide) (by decide) (by omega) rfl | exact wp_z0 (pc := 33) dX2_loses_33 rfl (by decide) (by decide) (by omega) rfl | exact wp_zb (pc := 33) dX2_loses_33 rfl (by decide) (by decide) Iff.rfl rfl
/-- the least number that wins with c coins, by the table W -/
def ltk (W : Int → Int) (c o k : Int) : Int := if los W (c - 1) (o % 2 * 2 + o / 2) then 1 else if (0 < c / 2 ∧ los W (c - c / 2) (o % 2 * 2 + o / 2)) ∧ 2 ≤ o ∧ k ≤ c ∧ los W (c - k) (o % 2 * 2) then mi (c / 2) k else if 0 < c / 2 ∧ los W (c - c / 2) (o % 2 * 2 + o / 2) then c / 2 else if 2 ≤ o ∧ k ≤ c ∧ los W (c - k) (o % 2 * 2) then k else 0
def ltr (q r : Prop) [Decidable q] [Decidable r] (c a : Int) : Int := if q ∧ r then mi (c / 2) a else if q then c / 2 else if r then a else 0
theorem jn_lt2 {q r : Prop} [Decidable q] [Decidable r] (rc : 1 ≤ c ∧ c ≤ 99) (rk : 2 ≤ a ∧ a ≤ 9) : wp g MX2_leastTake (rm 1 0 0) (Pur (.int (I (ltr q r c a))) hp) 0 0 85 [some (.ref G), some (.int (I c)), some (.int (I o)), some (.int (I a)), some (.int (I x)), some (.int (I (c / 2))), some (.int (B q)), none] [.int (B r)] hp := by
  refine wp_istore (pc := 85) dX2_leastTake_85 (by decide) ?_
  refine wp_iload (pc := 87) dX2_leastTake_87 rfl ?_
  first | refine wp_ifb_eq (pc := 89) 104 dX2_leastTake_89 (by decide) (fun c89 => ?_) (fun c89 => ?_) | refine wp_if_eq (pc := 89) 104 dX2_leastTake_89 (by decide) (by omega) (fun c89 => ?_) (fun c89 => ?_)
  ·
    refine wp_iload (pc := 104) dX2_leastTake_104 rfl ?_
    first | refine wp_ifb_eq (pc := 106) 112 dX2_leastTake_106 (by decide) (fun c106 => ?_) (fun c106 => ?_) | refine wp_if_eq (pc := 106) 112 dX2_leastTake_106 (by decide) (by omega) (fun c106 => ?_) (fun c106 => ?_)
    ·
      refine wp_iload (pc := 112) dX2_leastTake_112 rfl ?_
      first | refine wp_ifb_eq (pc := 114) 121 dX2_leastTake_114 (by decide) (fun c114 => ?_) (fun c114 => ?_) | refine wp_if_eq (pc := 114) 121 dX2_leastTake_114 (by decide) (by omega) (fun c114 => ?_) (fun c114 => ?_)
      ·
        refine wp_iconst (pc := 121) dX2_leastTake_121 ?_
        exact wp_ir (pc := 122) dX2_leastTake_122 rfl (by decide) (by decide) (by unfold ltr; first | contradiction | simp [*]) rfl
      ·
        refine wp_iload_n (pc := 117) dX2_leastTake_117 rfl ?_
        refine wp_goto (pc := 118) 122 dX2_leastTake_118 (by decide) ?_
        exact wp_ir (pc := 122) dX2_leastTake_122 rfl (by decide) (by decide) (by unfold ltr; first | contradiction | simp [*]) rfl
    ·
      refine wp_iload (pc := 109) dX2_leastTake_109 rfl ?_
      exact wp_ir (pc := 111) dX2_leastTake_111 rfl (by decide) (by decide) (by unfold ltr; first | contradiction | simp [*]) rfl
  ·
    refine wp_iload (pc := 92) dX2_leastTake_92 rfl ?_
    first | refine wp_ifb_eq (pc := 94) 104 dX2_leastTake_94 (by decide) (fun c94 => ?_) (fun c94 => ?_) | refine wp_if_eq (pc := 94) 104 dX2_leastTake_94 (by decide) (by omega) (fun c94 => ?_) (fun c94 => ?_)
    ·
      refine wp_iload (pc := 104) dX2_leastTake_104 rfl ?_
      first | refine wp_ifb_eq (pc := 106) 112 dX2_leastTake_106 (by decide) (fun c106 => ?_) (fun c106 => ?_) | refine wp_if_eq (pc := 106) 112 dX2_leastTake_106 (by decide) (by omega) (fun c106 => ?_) (fun c106 => ?_)
      ·
        refine wp_iload (pc := 112) dX2_leastTake_112 rfl ?_
        first | refine wp_ifb_eq (pc := 114) 121 dX2_leastTake_114 (by decide) (fun c114 => ?_) (fun c114 => ?_) | refine wp_if_eq (pc := 114) 121 dX2_leastTake_114 (by decide) (by omega) (fun c114 => ?_) (fun c114 => ?_)
        ·
          refine wp_iconst (pc := 121) dX2_leastTake_121 ?_
          exact wp_ir (pc := 122) dX2_leastTake_122 rfl (by decide) (by decide) (by unfold ltr; first | contradiction | simp [*]) rfl
        ·
          refine wp_iload_n (pc := 117) dX2_leastTake_117 rfl ?_
          refine wp_goto (pc := 118) 122 dX2_leastTake_118 (by decide) ?_
          exact wp_ir (pc := 122) dX2_leastTake_122 rfl (by decide) (by decide) (by unfold ltr; first | contradiction | simp [*]) rfl
      ·
        refine wp_iload (pc := 109) dX2_leastTake_109 rfl ?_
        exact wp_ir (pc := 111) dX2_leastTake_111 rfl (by decide) (by decide) (by unfold ltr; first | contradiction | simp [*]) rfl
    ·
      refine wp_iload (pc := 97) dX2_leastTake_97 rfl ?_
      refine wp_iload_n (pc := 99) dX2_leastTake_99 rfl ?_
      refine wp_min (pc := 100) dX2_leastTake_100 ml_X2_31 ma_min_s ma_ini ma_min_c (by decide) (by decide) (by decide) (by decide) (Nat.le_of_ble_eq_true rfl) (by omega) (by omega) ?_
      exact wp_ir (pc := 103) dX2_leastTake_103 rfl (by decide) (by decide) (by unfold ltr; first | contradiction | simp [*]) rfl
theorem jn_lt1 {q : Prop} [Decidable q] (g0 : hp.2 G = some (.inr (.inr (2, [.ref (G + 1), .ref (G + 2), .ref (G + 3)])))) (g1 : hp.2 (G + 1) = some (.inl (.boolean, 400, W))) (rW : ∀ i, 0 ≤ W i ∧ W i ≤ 1) (rc : 1 ≤ c ∧ c ≤ 99) (ro : 0 ≤ o ∧ o ≤ 3) (rk : 2 ≤ a ∧ a ≤ 9) : wp g MX2_leastTake (rm 1 0 0) (Pur (.int (I (ltr q (2 ≤ o ∧ a ≤ c ∧ los W (c - a) (o % 2 * 2)) c a))) hp) 0 0 53 [some (.ref G), some (.int (I c)), some (.int (I o)), some (.int (I a)), some (.int (I x)), some (.int (I (c / 2))), none, none] [.int (B q)] hp := by
  refine wp_istore (pc := 53) dX2_leastTake_53 (by decide) ?_
  refine wp_iload_n (pc := 55) dX2_leastTake_55 rfl ?_
  refine wp_iconst (pc := 56) dX2_leastTake_56 ?_
  refine wp_icmp_lt (pc := 57) 84 dX2_leastTake_57 (by decide) (by omega) (by omega) (fun c57 => ?_) (fun c57 => ?_)
  ·
    refine wp_iconst (pc := 84) dX2_leastTake_84 ?_
    refine wp_topB (q := 2 ≤ o ∧ a ≤ c ∧ los W (c - a) (o % 2 * 2)) (by first | rw [if_pos (by omega)] | rw [if_neg (by omega)]) ?_
    exact jn_lt2 rc rk
  ·
    refine wp_iload_n (pc := 60) dX2_leastTake_60 rfl ?_
    refine wp_iload_n (pc := 61) dX2_leastTake_61 rfl ?_
    refine wp_icmp_lt (pc := 62) 84 dX2_leastTake_62 (by decide) (by omega) (by omega) (fun c62 => ?_) (fun c62 => ?_)
    ·
      refine wp_iconst (pc := 84) dX2_leastTake_84 ?_
      refine wp_topB (q := 2 ≤ o ∧ a ≤ c ∧ los W (c - a) (o % 2 * 2)) (by first | rw [if_pos (by omega)] | rw [if_neg (by omega)]) ?_
      exact jn_lt2 rc rk
    ·
      refine wp_aload_n (pc := 65) dX2_leastTake_65 rfl ?_
      refine wp_iload_n (pc := 66) dX2_leastTake_66 rfl ?_
      refine wp_iload_n (pc := 67) dX2_leastTake_67 rfl ?_
      refine wp_isub (pc := 68) dX2_leastTake_68 ?_
      refine wp_iload_n (pc := 69) dX2_leastTake_69 rfl ?_
      refine wp_iconst (pc := 70) dX2_leastTake_70 ?_
      refine wp_irem (pc := 71) dX2_leastTake_71 (by decide) (I_rem (by omega) (by omega) (by omega) (by omega)) ?_
      refine wp_iconst (pc := 72) dX2_leastTake_72 ?_
      refine wp_imul (pc := 73) dX2_leastTake_73 ?_
      refine wp_Vp (pc := 74) dX2_leastTake_74 cl_X2_27 (sp_Games_loses (by first | assumption | omega) (by first | assumption | omega) (by first | assumption | omega) (by first | assumption | omega) (by first | assumption | omega)) rfl rfl (by repeat (first | assumption | exact hset_eq | refine hset_at (by omega) ?_)) (by rfl) (by decide) (Nat.le_of_ble_eq_true rfl) ?_
      first | refine wp_ifb_eq (pc := 77) 84 dX2_leastTake_77 (by decide) (fun c77 => ?_) (fun c77 => ?_) | refine wp_if_eq (pc := 77) 84 dX2_leastTake_77 (by decide) (by omega) (fun c77 => ?_) (fun c77 => ?_)
      ·
        refine wp_iconst (pc := 84) dX2_leastTake_84 ?_
        refine wp_topB (q := 2 ≤ o ∧ a ≤ c ∧ los W (c - a) (o % 2 * 2)) (by first | rw [if_pos (by omega)] | rw [if_neg (by omega)]) ?_
        exact jn_lt2 rc rk
      ·
        refine wp_iconst (pc := 80) dX2_leastTake_80 ?_
        refine wp_goto (pc := 81) 85 dX2_leastTake_81 (by decide) ?_
        refine wp_topB (q := 2 ≤ o ∧ a ≤ c ∧ los W (c - a) (o % 2 * 2)) (by first | rw [if_pos (by omega)] | rw [if_neg (by omega)]) ?_
        exact jn_lt2 rc rk
theorem sp_Games_leastTake (g0 : hp.2 G = some (.inr (.inr (2, [.ref (G + 1), .ref (G + 2), .ref (G + 3)])))) (g1 : hp.2 (G + 1) = some (.inl (.boolean, 400, W))) (rW : ∀ i, 0 ≤ W i ∧ W i ≤ 1) (rc : 1 ≤ c ∧ c ≤ 99) (ro : 0 ≤ o ∧ o ≤ 3) (rk : 2 ≤ a ∧ a ≤ 9) : Sp g MX2_leastTake (rm 1 0 0) [.ref G, .int (I c), .int (I o), .int (I a)] hp (Pur (.int (I (ltk W c o a))) hp) := by
  refine Sp_mk rfl (Nat.le_of_ble_eq_true rfl) ?_
  show wp g _ _ _ 0 0 0 [some (.ref G), some (.int (I c)), some (.int (I o)), some (.int (I a)), none, none, none, none] [] hp
  refine wp_iload_n (pc := 0) dX2_leastTake_0 rfl ?_
  refine wp_iconst (pc := 1) dX2_leastTake_1 ?_
  refine wp_irem (pc := 2) dX2_leastTake_2 (by decide) (I_rem (by omega) (by omega) (by omega) (by omega)) ?_
  refine wp_iconst (pc := 3) dX2_leastTake_3 ?_
  refine wp_imul (pc := 4) dX2_leastTake_4 ?_
  refine wp_iload_n (pc := 5) dX2_leastTake_5 rfl ?_
  refine wp_iconst (pc := 6) dX2_leastTake_6 ?_
  refine wp_idiv (pc := 7) dX2_leastTake_7 (by decide) (I_div (by omega) (by omega) (by omega) (by omega)) ?_
  refine wp_iadd (pc := 8) dX2_leastTake_8 ?_
  refine wp_istore (pc := 9) dX2_leastTake_9 (by decide) ?_
  refine wp_aload_n (pc := 11) dX2_leastTake_11 rfl ?_
  refine wp_iload_n (pc := 12) dX2_leastTake_12 rfl ?_
  refine wp_iconst (pc := 13) dX2_leastTake_13 ?_
  refine wp_isub (pc := 14) dX2_leastTake_14 ?_
  refine wp_iload (pc := 15) dX2_leastTake_15 rfl ?_
  refine wp_Vp (pc := 17) dX2_leastTake_17 cl_X2_27 (sp_Games_loses (by first | assumption | omega) (by first | assumption | omega) (by first | assumption | omega) (by first | assumption | omega) (by first | assumption | omega)) rfl rfl (by repeat (first | assumption | exact hset_eq | refine hset_at (by omega) ?_)) (by rfl) (by decide) (Nat.le_of_ble_eq_true rfl) ?_
  first | refine wp_ifb_eq (pc := 20) 25 dX2_leastTake_20 (by decide) (fun c20 => ?_) (fun c20 => ?_) | refine wp_if_eq (pc := 20) 25 dX2_leastTake_20 (by decide) (by omega) (fun c20 => ?_) (fun c20 => ?_)
  ·
    have e : ltk W c o a = ltr (0 < c / 2 ∧ los W (c - c / 2) (o % 2 * 2 + o / 2)) (2 ≤ o ∧ a ≤ c ∧ los W (c - a) (o % 2 * 2)) c a := by unfold ltk; rw [if_neg c20]; rfl
    rw [e] -- go
    refine wp_iload_n (pc := 25) dX2_leastTake_25 rfl ?_
    refine wp_iconst (pc := 26) dX2_leastTake_26 ?_
    refine wp_idiv (pc := 27) dX2_leastTake_27 (by decide) (I_div (by omega) (by omega) (by omega) (by omega)) ?_
    refine wp_istore (pc := 28) dX2_leastTake_28 (by decide) ?_
    refine wp_iload (pc := 30) dX2_leastTake_30 rfl ?_
    refine wp_if_le (pc := 32) 52 dX2_leastTake_32 (by decide) (by omega) (fun c32 => ?_) (fun c32 => ?_)
    ·
      refine wp_iconst (pc := 52) dX2_leastTake_52 ?_
      refine wp_topB (q := 0 < c / 2 ∧ los W (c - c / 2) (o % 2 * 2 + o / 2)) (by first | rw [if_pos (by omega)] | rw [if_neg (by omega)]) ?_
      exact jn_lt1 g0 g1 rW rc ro rk
    ·
      refine wp_aload_n (pc := 35) dX2_leastTake_35 rfl ?_
      refine wp_iload_n (pc := 36) dX2_leastTake_36 rfl ?_
      refine wp_iload (pc := 37) dX2_leastTake_37 rfl ?_
      refine wp_isub (pc := 39) dX2_leastTake_39 ?_
      refine wp_iload (pc := 40) dX2_leastTake_40 rfl ?_
      refine wp_Vp (pc := 42) dX2_leastTake_42 cl_X2_27 (sp_Games_loses (by first | assumption | omega) (by first | assumption | omega) (by first | assumption | omega) (by first | assumption | omega) (by first | assumption | omega)) rfl rfl (by repeat (first | assumption | exact hset_eq | refine hset_at (by omega) ?_)) (by rfl) (by decide) (Nat.le_of_ble_eq_true rfl) ?_
      first | refine wp_ifb_eq (pc := 45) 52 dX2_leastTake_45 (by decide) (fun c45 => ?_) (fun c45 => ?_) | refine wp_if_eq (pc := 45) 52 dX2_leastTake_45 (by decide) (by omega) (fun c45 => ?_) (fun c45 => ?_)
      ·
        refine wp_iconst (pc := 52) dX2_leastTake_52 ?_
        refine wp_topB (q := 0 < c / 2 ∧ los W (c - c / 2) (o % 2 * 2 + o / 2)) (by first | rw [if_pos (by omega)] | rw [if_neg (by omega)]) ?_
        exact jn_lt1 g0 g1 rW rc ro rk
      ·
        refine wp_iconst (pc := 48) dX2_leastTake_48 ?_
        refine wp_goto (pc := 49) 53 dX2_leastTake_49 (by decide) ?_
        refine wp_topB (q := 0 < c / 2 ∧ los W (c - c / 2) (o % 2 * 2 + o / 2)) (by first | rw [if_pos (by omega)] | rw [if_neg (by omega)]) ?_
        exact jn_lt1 g0 g1 rW rc ro rk
  ·
    refine wp_iconst (pc := 23) dX2_leastTake_23 ?_
    exact wp_ir (pc := 24) dX2_leastTake_24 rfl (by decide) (by decide) (by unfold ltk; rw [if_pos c20]) rfl
/-! the whole table, by coins -/
def tkw (a : Int) : Nat → Int → Int
  | 0 => fun _ => 1
  | n + 1 => fun i => if i < 4 * ((n : Int) + 1) then tkw a n i else if 0 < ltk (tkw a n) ((n : Int) + 1) (i - 4 * ((n : Int) + 1)) a then 1 else 0
theorem tkw_in (a : Int) : ∀ (n : Nat) (i : Int), 0 ≤ tkw a n i ∧ tkw a n i ≤ 1
  | 0, i => by unfold tkw; omega
  | n + 1, i => by
    have := tkw_in a n i
    unfold tkw
    split
    · exact this
    · split <;> omega
theorem los_congr {W W' : Int → Int} {c o : Int} {m : Int} (h : ∀ i, 0 ≤ i → i < 4 * m → W i = W' i) (hc : c < m) (ho : o ≤ 3) : los W c o ↔ los W' c o := by
  unfold los
  constructor
  · intro ⟨h1, h2, h3⟩
    exact ⟨h1, h2, by rw [← h _ h1 (by omega)]; exact h3⟩
  · intro ⟨h1, h2, h3⟩
    exact ⟨h1, h2, by rw [h _ h1 (by omega)]; exact h3⟩
theorem ltk_congr {W W' : Int → Int} {c o a : Int} (h : ∀ i, 0 ≤ i → i < 4 * c → W i = W' i) (hc : 1 ≤ c) (ho : 0 ≤ o ∧ o ≤ 3) (ha : 2 ≤ a) : ltk W c o a = ltk W' c o a := by
  have e1 := los_congr (W := W) (W' := W') (c := c - 1) (o := o % 2 * 2 + o / 2) h (by omega) (by omega)
  have e3 := los_congr (W := W) (W' := W') (c := c - a) (o := o % 2 * 2) h (by omega) (by omega)
  unfold ltk
  by_cases hh : 0 < c / 2
  · have e2 := los_congr (W := W) (W' := W') (c := c - c / 2) (o := o % 2 * 2 + o / 2) h (by omega) (by omega)
    simp only [e1, e2, e3]
  · simp only [e1, e3, hh, false_and, if_false]
theorem tkw_mono (a : Int) {i : Int} {n : Nat} : ∀ m : Nat, n ≤ m → i < 4 * ((n : Int) + 1) → tkw a m i = tkw a n i
  | 0, h, _ => by rw [show n = 0 by omega]
  | m + 1, h, hi => by
    by_cases e : n = m + 1
    · rw [e]
    · show (if i < 4 * ((m : Int) + 1) then tkw a m i else _) = _
      rw [if_pos (by omega), tkw_mono a m (by omega) hi]
theorem lp_win0 {Q : Option Value → Hp → Prop} (K : ∀ hp2 W, GamesAt hp2 G → hp2.2 (G + 1) = some (.inl (.boolean, 400, W)) → (∀ i, 0 ≤ W i ∧ W i ≤ 1) → (∀ i : Int, 0 ≤ i → i < 4 → W i = 1) → SO hp hp2 G (G + 4) → wp g MX2_winningTake (rm 2 0 0) Q 0 0 38 [some (.ref G), some (.int (I b)), some (.int (I a)), none, none] [] hp2) : ∀ (m i : Nat), 4 < i + m → i ≤ 4 → ∀ (hp2 : Hp) (W : Int → Int) (hG : GamesAt hp2 G) (g1 : hp2.2 (G + 1) = some (.inl (.boolean, 400, W))) (rW : ∀ i, 0 ≤ W i ∧ W i ≤ 1) (hW : ∀ j : Int, 0 ≤ j → j < i → W j = 1) (hS : SO hp hp2 G (G + 4)), wp g MX2_winningTake (rm 2 0 0) Q 0 0 20 [some (.ref G), some (.int (I b)), some (.int (I a)), some (.int (I (i : Int))), none] [] hp2 := by
  intro m
  induction m with
  | zero => intro i h1 h2; exact absurd h1 (by omega)
  | succ m ih =>
    intro i h1 h2 hp2 W hG g1 rW hW hS
    have hG' := hG
    obtain ⟨g0, -, ⟨Y, g2⟩, ⟨Z, g3⟩⟩ := hG
    refine wp_iload_n (pc := 20) dX2_winningTake_20 rfl ?_
    refine wp_iconst (pc := 21) dX2_winningTake_21 ?_
    refine wp_icmp_ge (pc := 22) 38 dX2_winningTake_22 (by decide) (by omega) (by omega) (fun c22 => ?_) (fun c22 => ?_)
    ·
      refine wp_ls ?_ (K hp2 W hG' g1 rW (fun j h1 h2 => hW j h1 (by omega)) hS)
      · repeat' (first | exact LE_0 | refine LE_s rfl ?_ | refine LE_s (I_c (by first | omega | (simp only [sm]; omega))) ?_ | refine LE_s (J_c (by first | omega | exact Int.pow_succ _ _ | exact (Int.pow_succ _ _).symm | (simp only [sm]; omega))) ?_ | refine LE_n ?_)
    ·
      refine wp_aload_n (pc := 25) dX2_winningTake_25 rfl ?_
      refine wp_getf (pc := 26) dX2_winningTake_26 gf_X2_11 (by repeat (first | assumption | exact hset_eq | refine hset_at (by omega) ?_)) (by rfl) ?_
      refine wp_iload_n (pc := 29) dX2_winningTake_29 rfl ?_
      refine wp_iconst (pc := 30) dX2_winningTake_30 ?_
      refine wp_zast (pc := 31) (v := 1) dX2_winningTake_31 g1 (by omega) (by omega) (by decide) rfl ?_
      refine wp_iinc (pc := 32) dX2_winningTake_32 rfl (by decide) ?_
      refine wp_goto (pc := 35) 20 dX2_winningTake_35 (by decide) ?_
      refine wp_ls ?_ (ih (i + 1) (by omega) (by omega) _ (updI W (i : Int) 1) ⟨(by repeat (first | assumption | exact hset_eq | refine hset_at (by omega) ?_)), ⟨_, hset_eq, updI_all (P := fun x => 0 ≤ x ∧ x ≤ 1) rW (by omega)⟩, ⟨Y, (by repeat (first | assumption | exact hset_eq | refine hset_at (by omega) ?_))⟩, ⟨Z, (by repeat (first | assumption | exact hset_eq | refine hset_at (by omega) ?_))⟩⟩ hset_eq (updI_all (P := fun x => 0 ≤ x ∧ x ≤ 1) rW (by omega)) (fun w h1 h2 => ?_) (by repeat (first | exact SO.rf | assumption | refine SO.set ?_ (by omega) (by omega))))
      · repeat' (first | exact LE_0 | refine LE_s rfl ?_ | refine LE_s (I_c (by first | omega | (simp only [sm]; omega))) ?_ | refine LE_s (J_c (by first | omega | exact Int.pow_succ _ _ | exact (Int.pow_succ _ _).symm | (simp only [sm]; omega))) ?_ | refine LE_n ?_)
      · unfold updI
        split
        · rfl
        · exact hW w h1 (by omega)
theorem lp_win2 (ra : 2 ≤ a ∧ a ≤ 9) (hn : n < 99) (hb : b ≤ 99 ∧ (n : Int) + 1 ≤ b) {Q : Option Value → Hp → Prop} (K : ∀ hp2 W, GamesAt hp2 G → hp2.2 (G + 1) = some (.inl (.boolean, 400, W)) → (∀ i, 0 ≤ W i ∧ W i ≤ 1) → (∀ i : Int, 0 ≤ i → i < 4 * ((n : Int) + 2) → W i = tkw a (n + 1) i) → SO hp hp2 G (G + 4) → wp g MX2_winningTake (rm 2 0 0) Q 0 0 40 [some (.ref G), some (.int (I b)), some (.int (I a)), some (.int (I ((n : Int) + 2))), none] [] hp2) : ∀ (m i : Nat), 4 < i + m → i ≤ 4 → ∀ (hp2 : Hp) (W : Int → Int) (hG : GamesAt hp2 G) (g1 : hp2.2 (G + 1) = some (.inl (.boolean, 400, W))) (rW : ∀ i, 0 ≤ W i ∧ W i ≤ 1) (hW : ∀ j : Int, 0 ≤ j → j < 4 * ((n : Int) + 1) + i → W j = tkw a (n + 1) j) (hS : SO hp hp2 G (G + 4)), wp g MX2_winningTake (rm 2 0 0) Q 0 0 48 [some (.ref G), some (.int (I b)), some (.int (I a)), some (.int (I ((n : Int) + 1))), some (.int (I (i : Int)))] [] hp2 := by
  intro m
  induction m with
  | zero => intro i h1 h2; exact absurd h1 (by omega)
  | succ m ih =>
    intro i h1 h2 hp2 W hG g1 rW hW hS
    have hG' := hG
    obtain ⟨g0, -, ⟨Y, g2⟩, ⟨Z, g3⟩⟩ := hG
    refine wp_iload (pc := 48) dX2_winningTake_48 rfl ?_
    refine wp_iconst (pc := 50) dX2_winningTake_50 ?_
    refine wp_icmp_ge (pc := 51) 87 dX2_winningTake_51 (by decide) (by omega) (by omega) (fun c51 => ?_) (fun c51 => ?_)
    ·
      refine wp_iinc (pc := 87) dX2_winningTake_87 rfl (by decide) ?_
      refine wp_goto (pc := 90) 40 dX2_winningTake_90 (by decide) ?_
      refine wp_ls ?_ (K hp2 W hG' g1 rW (fun j h1 h2 => hW j h1 (by omega)) hS)
      · repeat' (first | exact LE_0 | refine LE_s rfl ?_ | refine LE_s (I_c (by first | omega | (simp only [sm]; omega))) ?_ | refine LE_s (J_c (by first | omega | exact Int.pow_succ _ _ | exact (Int.pow_succ _ _).symm | (simp only [sm]; omega))) ?_ | refine LE_n ?_)
    ·
      have elt : ltk W ((n : Int) + 1) i a = ltk (tkw a n) ((n : Int) + 1) i a := ltk_congr (fun j h1 h2 => by rw [hW j h1 (by omega)]; exact tkw_mono a (n + 1) (by omega) h2) (by omega) (by omega) (by omega)
      have elr : ltk W ((n : Int) + 1) i a ≥ 0 ∧ ltk W ((n : Int) + 1) i a ≤ 99 := by unfold ltk mi; repeat' split <;> omega
      refine wp_aload_n (pc := 54) dX2_winningTake_54 rfl ?_
      refine wp_getf (pc := 55) dX2_winningTake_55 gf_X2_11 (by repeat (first | assumption | exact hset_eq | refine hset_at (by omega) ?_)) (by rfl) ?_
      refine wp_iload_n (pc := 58) dX2_winningTake_58 rfl ?_
      refine wp_iconst (pc := 59) dX2_winningTake_59 ?_
      refine wp_imul (pc := 60) dX2_winningTake_60 ?_
      refine wp_iload (pc := 61) dX2_winningTake_61 rfl ?_
      refine wp_iadd (pc := 63) dX2_winningTake_63 ?_
      refine wp_aload_n (pc := 64) dX2_winningTake_64 rfl ?_
      refine wp_iload_n (pc := 65) dX2_winningTake_65 rfl ?_
      refine wp_iload (pc := 66) dX2_winningTake_66 rfl ?_
      refine wp_iload_n (pc := 68) dX2_winningTake_68 rfl ?_
      refine wp_Vp (pc := 69) dX2_winningTake_69 cl_X2_23 (sp_Games_leastTake g0 g1 rW (by omega) (by omega) ra) rfl rfl (by repeat (first | assumption | exact hset_eq | refine hset_at (by omega) ?_)) (by rfl) (by decide) (Nat.le_of_ble_eq_true rfl) ?_
      refine wp_if_le (pc := 72) 79 dX2_winningTake_72 (by decide) (by omega) (fun c72 => ?_) (fun c72 => ?_)
      ·
        refine wp_iconst (pc := 79) dX2_winningTake_79 ?_
        first
        | have ev : tkw a (n + 1) (((n : Int) + 1) * 4 + i) = 0 := by show (if _ then _ else _) = _; rw [if_neg (by omega), show ((n : Int) + 1) * 4 + (i : Int) - 4 * ((n : Int) + 1) = i by omega, ← elt, if_neg (by omega)]
          refine wp_zast (pc := 80) (v := tkw a (n + 1) (((n : Int) + 1) * 4 + i)) dX2_winningTake_80 g1 (by omega) (by omega) (by decide) (by rw [ev]; rfl) ?_
          refine wp_iinc (pc := 81) dX2_winningTake_81 rfl (by decide) ?_
          refine wp_goto (pc := 84) 48 dX2_winningTake_84 (by decide) ?_
          refine wp_ls ?_ (ih (i + 1) (by omega) (by omega) _ (updI W (((n : Int) + 1) * 4 + i) (tkw a (n + 1) (((n : Int) + 1) * 4 + i))) ⟨(by repeat (first | assumption | exact hset_eq | refine hset_at (by omega) ?_)), ⟨_, hset_eq, updI_all (P := fun x => 0 ≤ x ∧ x ≤ 1) rW (tkw_in _ _ _)⟩, ⟨Y, (by repeat (first | assumption | exact hset_eq | refine hset_at (by omega) ?_))⟩, ⟨Z, (by repeat (first | assumption | exact hset_eq | refine hset_at (by omega) ?_))⟩⟩ hset_eq (updI_all (P := fun x => 0 ≤ x ∧ x ≤ 1) rW (tkw_in _ _ _)) (fun w h1 h2 => ?_) (by repeat (first | exact SO.rf | assumption | refine SO.set ?_ (by omega) (by omega))))
          · repeat' (first | exact LE_0 | refine LE_s rfl ?_ | refine LE_s (I_c (by first | omega | (simp only [sm]; omega))) ?_ | refine LE_s (J_c (by first | omega | exact Int.pow_succ _ _ | exact (Int.pow_succ _ _).symm | (simp only [sm]; omega))) ?_ | refine LE_n ?_)
          · by_cases z : w = ((n : Int) + 1) * 4 + i
            · rw [z, updI_eq]
            · rw [updI_ne z]; exact hW w h1 (by omega)
        | have ev : tkw a (n + 1) (((n : Int) + 1) * 4 + i) = 1 := by show (if _ then _ else _) = _; rw [if_neg (by omega), show ((n : Int) + 1) * 4 + (i : Int) - 4 * ((n : Int) + 1) = i by omega, ← elt, if_pos (by omega)]
          refine wp_zast (pc := 80) (v := tkw a (n + 1) (((n : Int) + 1) * 4 + i)) dX2_winningTake_80 g1 (by omega) (by omega) (by decide) (by rw [ev]; rfl) ?_
          refine wp_iinc (pc := 81) dX2_winningTake_81 rfl (by decide) ?_
          refine wp_goto (pc := 84) 48 dX2_winningTake_84 (by decide) ?_
          refine wp_ls ?_ (ih (i + 1) (by omega) (by omega) _ (updI W (((n : Int) + 1) * 4 + i) (tkw a (n + 1) (((n : Int) + 1) * 4 + i))) ⟨(by repeat (first | assumption | exact hset_eq | refine hset_at (by omega) ?_)), ⟨_, hset_eq, updI_all (P := fun x => 0 ≤ x ∧ x ≤ 1) rW (tkw_in _ _ _)⟩, ⟨Y, (by repeat (first | assumption | exact hset_eq | refine hset_at (by omega) ?_))⟩, ⟨Z, (by repeat (first | assumption | exact hset_eq | refine hset_at (by omega) ?_))⟩⟩ hset_eq (updI_all (P := fun x => 0 ≤ x ∧ x ≤ 1) rW (tkw_in _ _ _)) (fun w h1 h2 => ?_) (by repeat (first | exact SO.rf | assumption | refine SO.set ?_ (by omega) (by omega))))
          · repeat' (first | exact LE_0 | refine LE_s rfl ?_ | refine LE_s (I_c (by first | omega | (simp only [sm]; omega))) ?_ | refine LE_s (J_c (by first | omega | exact Int.pow_succ _ _ | exact (Int.pow_succ _ _).symm | (simp only [sm]; omega))) ?_ | refine LE_n ?_)
          · by_cases z : w = ((n : Int) + 1) * 4 + i
            · rw [z, updI_eq]
            · rw [updI_ne z]; exact hW w h1 (by omega)
      ·
        refine wp_iconst (pc := 75) dX2_winningTake_75 ?_
        refine wp_goto (pc := 76) 80 dX2_winningTake_76 (by decide) ?_
        first
        | have ev : tkw a (n + 1) (((n : Int) + 1) * 4 + i) = 0 := by show (if _ then _ else _) = _; rw [if_neg (by omega), show ((n : Int) + 1) * 4 + (i : Int) - 4 * ((n : Int) + 1) = i by omega, ← elt, if_neg (by omega)]
          refine wp_zast (pc := 80) (v := tkw a (n + 1) (((n : Int) + 1) * 4 + i)) dX2_winningTake_80 g1 (by omega) (by omega) (by decide) (by rw [ev]; rfl) ?_
          refine wp_iinc (pc := 81) dX2_winningTake_81 rfl (by decide) ?_
          refine wp_goto (pc := 84) 48 dX2_winningTake_84 (by decide) ?_
          refine wp_ls ?_ (ih (i + 1) (by omega) (by omega) _ (updI W (((n : Int) + 1) * 4 + i) (tkw a (n + 1) (((n : Int) + 1) * 4 + i))) ⟨(by repeat (first | assumption | exact hset_eq | refine hset_at (by omega) ?_)), ⟨_, hset_eq, updI_all (P := fun x => 0 ≤ x ∧ x ≤ 1) rW (tkw_in _ _ _)⟩, ⟨Y, (by repeat (first | assumption | exact hset_eq | refine hset_at (by omega) ?_))⟩, ⟨Z, (by repeat (first | assumption | exact hset_eq | refine hset_at (by omega) ?_))⟩⟩ hset_eq (updI_all (P := fun x => 0 ≤ x ∧ x ≤ 1) rW (tkw_in _ _ _)) (fun w h1 h2 => ?_) (by repeat (first | exact SO.rf | assumption | refine SO.set ?_ (by omega) (by omega))))
          · repeat' (first | exact LE_0 | refine LE_s rfl ?_ | refine LE_s (I_c (by first | omega | (simp only [sm]; omega))) ?_ | refine LE_s (J_c (by first | omega | exact Int.pow_succ _ _ | exact (Int.pow_succ _ _).symm | (simp only [sm]; omega))) ?_ | refine LE_n ?_)
          · by_cases z : w = ((n : Int) + 1) * 4 + i
            · rw [z, updI_eq]
            · rw [updI_ne z]; exact hW w h1 (by omega)
        | have ev : tkw a (n + 1) (((n : Int) + 1) * 4 + i) = 1 := by show (if _ then _ else _) = _; rw [if_neg (by omega), show ((n : Int) + 1) * 4 + (i : Int) - 4 * ((n : Int) + 1) = i by omega, ← elt, if_pos (by omega)]
          refine wp_zast (pc := 80) (v := tkw a (n + 1) (((n : Int) + 1) * 4 + i)) dX2_winningTake_80 g1 (by omega) (by omega) (by decide) (by rw [ev]; rfl) ?_
          refine wp_iinc (pc := 81) dX2_winningTake_81 rfl (by decide) ?_
          refine wp_goto (pc := 84) 48 dX2_winningTake_84 (by decide) ?_
          refine wp_ls ?_ (ih (i + 1) (by omega) (by omega) _ (updI W (((n : Int) + 1) * 4 + i) (tkw a (n + 1) (((n : Int) + 1) * 4 + i))) ⟨(by repeat (first | assumption | exact hset_eq | refine hset_at (by omega) ?_)), ⟨_, hset_eq, updI_all (P := fun x => 0 ≤ x ∧ x ≤ 1) rW (tkw_in _ _ _)⟩, ⟨Y, (by repeat (first | assumption | exact hset_eq | refine hset_at (by omega) ?_))⟩, ⟨Z, (by repeat (first | assumption | exact hset_eq | refine hset_at (by omega) ?_))⟩⟩ hset_eq (updI_all (P := fun x => 0 ≤ x ∧ x ≤ 1) rW (tkw_in _ _ _)) (fun w h1 h2 => ?_) (by repeat (first | exact SO.rf | assumption | refine SO.set ?_ (by omega) (by omega))))
          · repeat' (first | exact LE_0 | refine LE_s rfl ?_ | refine LE_s (I_c (by first | omega | (simp only [sm]; omega))) ?_ | refine LE_s (J_c (by first | omega | exact Int.pow_succ _ _ | exact (Int.pow_succ _ _).symm | (simp only [sm]; omega))) ?_ | refine LE_n ?_)
          · by_cases z : w = ((n : Int) + 1) * 4 + i
            · rw [z, updI_eq]
            · rw [updI_ne z]; exact hW w h1 (by omega)
theorem lp_win1 (ra : 2 ≤ a ∧ a ≤ 9) (hb : 1 ≤ k ∧ k ≤ 99) : ∀ (m i : Nat), k < i + m → i ≤ k → ∀ (hp2 : Hp) (W : Int → Int) (hG : GamesAt hp2 G) (g1 : hp2.2 (G + 1) = some (.inl (.boolean, 400, W))) (rW : ∀ i, 0 ≤ W i ∧ W i ≤ 1) (hW : ∀ j : Int, 0 ≤ j → j < 4 * ((i : Int) + 1) → W j = tkw a i j) (hS : SO hp hp2 G (G + 4)), wp g MX2_winningTake (rm 2 0 0) (Eff (.int (I (ltk (tkw a (k - 1)) k 3 a))) (fun hp2 => GamesAt hp2 G ∧ SO hp hp2 G (G + 4))) 0 0 40 [some (.ref G), some (.int (I (k : Int))), some (.int (I a)), some (.int (I ((i : Int) + 1))), none] [] hp2 := by
  intro m
  induction m with
  | zero => intro i h1 h2; exact absurd h1 (by omega)
  | succ m ih =>
    intro i h1 h2 hp2 W hG g1 rW hW hS
    have hG' := hG
    obtain ⟨g0, -, ⟨Y, g2⟩, ⟨Z, g3⟩⟩ := hG
    refine wp_iload_n (pc := 40) dX2_winningTake_40 rfl ?_
    refine wp_iload_n (pc := 41) dX2_winningTake_41 rfl ?_
    refine wp_icmp_gt (pc := 42) 93 dX2_winningTake_42 (by decide) (by omega) (by omega) (fun c42 => ?_) (fun c42 => ?_)
    ·
      have e : i = k := by omega
      subst e
      have elt : ltk W (i : Int) 3 a = ltk (tkw a (i - 1)) i 3 a := ltk_congr (fun j h1 h2 => by rw [hW j h1 (by omega)]; exact tkw_mono a i (by omega) (by omega)) (by omega) (by omega) (by omega) -- go
      refine wp_aload_n (pc := 93) dX2_winningTake_93 rfl ?_
      refine wp_iload_n (pc := 94) dX2_winningTake_94 rfl ?_
      refine wp_iconst (pc := 95) dX2_winningTake_95 ?_
      refine wp_iload_n (pc := 96) dX2_winningTake_96 rfl ?_
      refine wp_Vp (pc := 97) dX2_winningTake_97 cl_X2_23 (sp_Games_leastTake g0 g1 rW (by omega) (by omega) ra) rfl rfl (by repeat (first | assumption | exact hset_eq | refine hset_at (by omega) ?_)) (by rfl) (by decide) (Nat.le_of_ble_eq_true rfl) ?_
      exact wp_ir (pc := 100) dX2_winningTake_100 rfl (by decide) (by decide) elt ⟨hG', hS⟩
    ·
      refine wp_iconst (pc := 45) dX2_winningTake_45 ?_
      refine wp_istore (pc := 46) dX2_winningTake_46 (by decide) ?_
      refine wp_ls ?_ (lp_win2 (n := i) (b := (k : Int)) ra (by omega) (by omega) (fun hp3 W3 hG3 g13 rW3 hW3 hS3 => wp_ls ?_ (ih (i + 1) (by omega) (by omega) hp3 W3 hG3 g13 rW3 (fun j h1 h2 => hW3 j h1 (by omega)) hS3)) 5 0 (by omega) (by omega) hp2 W hG' g1 rW (fun j h1 h2 => by rw [hW j h1 (by omega)]; exact (tkw_mono a (i + 1) (by omega) (by omega)).symm) hS)
      · repeat' (first | exact LE_0 | refine LE_s rfl ?_ | refine LE_s (I_c (by first | omega | (simp only [sm]; omega))) ?_ | refine LE_s (J_c (by first | omega | exact Int.pow_succ _ _ | exact (Int.pow_succ _ _).symm | (simp only [sm]; omega))) ?_ | refine LE_n ?_)
      · repeat' (first | exact LE_0 | refine LE_s rfl ?_ | refine LE_s (I_c (by first | omega | (simp only [sm]; omega))) ?_ | refine LE_s (J_c (by first | omega | exact Int.pow_succ _ _ | exact (Int.pow_succ _ _).symm | (simp only [sm]; omega))) ?_ | refine LE_n ?_)
theorem sp_Games_winningTake (hG : GamesAt hp G) (ra : 2 ≤ a ∧ a ≤ 9) (hb : 1 ≤ k ∧ k ≤ 99) : Sp g MX2_winningTake (rm 2 0 0) [.ref G, .int (I (k : Int)), .int (I a)] hp (Eff (.int (I (ltk (tkw a (k - 1)) k 3 a))) (fun hp2 => GamesAt hp2 G ∧ SO hp hp2 G (G + 4))) := by
  have hG' := hG
  obtain ⟨g0, ⟨W, g1, rW⟩, ⟨Y, g2⟩, ⟨Z, g3⟩⟩ := hG
  refine Sp_mk rfl (Nat.le_of_ble_eq_true rfl) ?_
  show wp g _ _ _ 0 0 0 [some (.ref G), some (.int (I (k : Int))), some (.int (I a)), none, none] [] hp
  refine wp_iload_n (pc := 0) dX2_winningTake_0 rfl ?_
  refine wp_iconst (pc := 1) dX2_winningTake_1 ?_
  refine wp_icmp_lt (pc := 2) 16 dX2_winningTake_2 (by decide) (by omega) (by omega) (fun c2 => ?_) (fun c2 => ?_)
  ·
    omega
  ·
    refine wp_iload_n (pc := 5) dX2_winningTake_5 rfl ?_
    refine wp_bipush (pc := 6) (y := 99) dX2_winningTake_6 (by decide) ?_
    refine wp_icmp_gt (pc := 8) 16 dX2_winningTake_8 (by decide) (by omega) (by omega) (fun c8 => ?_) (fun c8 => ?_)
    ·
      omega
    ·
      refine wp_iload_n (pc := 11) dX2_winningTake_11 rfl ?_
      refine wp_iconst (pc := 12) dX2_winningTake_12 ?_
      refine wp_icmp_ge (pc := 13) 18 dX2_winningTake_13 (by decide) (by omega) (by omega) (fun c13 => ?_) (fun c13 => ?_)
      ·
        refine wp_iconst (pc := 18) dX2_winningTake_18 ?_
        refine wp_istore_n (pc := 19) dX2_winningTake_19 (by decide) ?_
        refine wp_ls ?_ (lp_win0 (a := a) (b := (k : Int)) (fun hp3 W3 hG3 g13 rW3 hW3 hS3 => ?_) 5 0 (by omega) (by omega) hp W hG' g1 rW (fun j h1 h2 => by omega) SO.rf)
        · repeat' (first | exact LE_0 | refine LE_s rfl ?_ | refine LE_s (I_c (by first | omega | (simp only [sm]; omega))) ?_ | refine LE_s (J_c (by first | omega | exact Int.pow_succ _ _ | exact (Int.pow_succ _ _).symm | (simp only [sm]; omega))) ?_ | refine LE_n ?_)
        · refine wp_iconst (pc := 38) dX2_winningTake_38 ?_
          refine wp_istore_n (pc := 39) dX2_winningTake_39 (by decide) ?_
          refine wp_ls ?_ (lp_win1 ra hb (k + 1) 0 (by omega) (by omega) hp3 W3 hG3 g13 rW3 (fun j h1 h2 => by rw [hW3 j h1 (by omega)]; rfl) hS3)
          repeat' (first | exact LE_0 | refine LE_s rfl ?_ | refine LE_s (I_c (by first | omega | (simp only [sm]; omega))) ?_ | refine LE_s (J_c (by first | omega | exact Int.pow_succ _ _ | exact (Int.pow_succ _ _).symm | (simp only [sm]; omega))) ?_ | refine LE_n ?_)
      ·
        omega
end GA

