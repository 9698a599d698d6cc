/-! Hearsay: who fits -/
section HF
variable {g : GT} {hp hp2 : Hp} {H R h N n k i j s : Nat} {T : Nat → Int → Int} {A V F : Int → Int} {a b c x y p v : Int} {cs : List Int}
/-- is it so of k, that (a, v) -/
def iso (cs : List Int) (T : Nat → Int → Int) (N k : Nat) (a v : Int) : Bool := if a = 0 then decide (v ≤ T 2 (k : Int)) else if a = 1 then decide ((T 5 (k : Int) = 0) ↔ (v = 0)) else if a = 2 then decide (k ≠ 0 ∧ wv cs T (k : Int) 0 = v) else if a = 3 then decide ((0 < oby T (k : Int) N) ↔ (v = 1)) else decide (T 4 (k : Int) ≤ v)
theorem wp_zx {M : MI} {Rm : Room} {P : Hp → Prop} {pc kk nn : Nat} {ls : List (Option Value)} {q : Prop} [Decidable q] {z : Int} (d : decode M.2.1 pc = .ok (.ireturn, 1)) (hr : M.2.2.2 = some .boolean) (hk : kk ≤ Rm.cells) (hn : nn ≤ Rm.slots) (hz : z = if q then 1 else 0) (h : P hp) : wp g M Rm (Eff (.int (B q)) P) kk nn pc ls [.int (I z)] hp := by
  rw [hz, ← B_I]
  exact wp_zreturn d hr hk hn ⟨rfl, h⟩
theorem sp_Hearsay_isSo (hT : TownAt hp h T) (hI : TI T N) (hR : RuleAt hp R cs) (hk : k < 6) (ra : 0 ≤ a ∧ a ≤ 4) (rv : 0 ≤ v ∧ v ≤ 99) (d2 : h + 8 ≤ R ∨ R + 4 ≤ h) : Sp g MX3_isSo (rm 3 0 0) [.ref h, .ref R, .int (I (k : Int)), .int (I a), .int (I v)] hp (Eff (.int (B (iso cs T N k a v = true))) (fun hp2 => RuleAt hp2 R cs ∧ SO hp hp2 R (R + 4))) := by
  have hI' := hI
  obtain ⟨i8, iN, i0, i1, i2, i3, i4, i5, i6, i7⟩ := hI
  have hT' := hT
  obtain ⟨t0, t1, t2, t3, t4, t5, t6, t7⟩ := hT
  have hR' := hR
  obtain ⟨⟨sk, lnn, at_, Sg, St, Sk, r0, rr⟩, hok⟩ := hR
  have h2 := i2 (k : Int)
  have h4 := i4 (k : Int)
  have hw := wv_in cs T (k : Int) 0
  have ho := oby_in hI' (p := (k : Int))
  refine Sp_mk rfl (Nat.le_of_ble_eq_true rfl) ?_
  show wp g _ _ _ 0 0 0 [some (.ref h), some (.ref R), some (.int (I (k : Int))), some (.int (I a)), some (.int (I v))] [] hp
  refine wp_iload_n (pc := 0) dX3_isSo_0 rfl ?_
  rcases (show a = 0 ∨ a = 1 ∨ a = 2 ∨ a = 3 ∨ a = 4 by omega) with e | e | e | e | e
  · subst e
    refine wp_tswIn (pc := 1) 32 dX3_isSo_1 (by omega) (by decide) (by decide) rfl (by decide) ?_
    refine wp_aload_n (pc := 32) dX3_isSo_32 rfl ?_
    refine wp_getf (pc := 33) dX3_isSo_33 gf_X3_35 (by repeat (first | assumption | exact hset_eq | refine hset_at (by omega) ?_)) (by rfl) ?_
    refine wp_iload_n (pc := 36) dX3_isSo_36 rfl ?_
    refine wp_iald (pc := 37) dX3_isSo_37 (by repeat (first | assumption | exact hset_eq | refine hset_at (by omega) ?_)) (by omega) (by omega) (by decide) ?_
    refine wp_iload (pc := 38) dX3_isSo_38 rfl ?_
    refine wp_icmp_lt (pc := 40) 47 dX3_isSo_40 (by decide) (by omega) (by omega) (fun c40 => ?_) (fun c40 => ?_)
    ·
      refine wp_iconst (pc := 47) dX3_isSo_47 ?_
      exact wp_zx (pc := 48) dX3_isSo_48 rfl (by decide) (by decide) (by show _ = if (decide _ : Bool) = true then _ else _; simp only [decide_eq_true_eq]; first | rw [if_pos (by omega)] | rw [if_neg (by omega)]) ⟨hR', SO.rf⟩
    ·
      refine wp_iconst (pc := 43) dX3_isSo_43 ?_
      refine wp_goto (pc := 44) 48 dX3_isSo_44 (by decide) ?_
      exact wp_zx (pc := 48) dX3_isSo_48 rfl (by decide) (by decide) (by show _ = if (decide _ : Bool) = true then _ else _; simp only [decide_eq_true_eq]; first | rw [if_pos (by omega)] | rw [if_neg (by omega)]) ⟨hR', SO.rf⟩
  · subst e
    refine wp_tswIn (pc := 1) 49 dX3_isSo_1 (by omega) (by decide) (by decide) rfl (by decide) ?_
    refine wp_aload_n (pc := 49) dX3_isSo_49 rfl ?_
    refine wp_iload_n (pc := 50) dX3_isSo_50 rfl ?_
    refine wp_Vp (pc := 51) dX3_isSo_51 cl_X3_38 (sp_Town_lives hT' hI' (by omega) (by omega)) rfl rfl (by repeat (first | assumption | exact hset_eq | refine hset_at (by omega) ?_)) (by rfl) (by decide) (Nat.le_of_ble_eq_true rfl) ?_
    refine wp_iload (pc := 54) dX3_isSo_54 rfl ?_
    first | refine wp_ifb_ne (pc := 56) 63 dX3_isSo_56 (by decide) (fun c56 => ?_) (fun c56 => ?_) | refine wp_if_ne (pc := 56) 63 dX3_isSo_56 (by decide) (by omega) (fun c56 => ?_) (fun c56 => ?_)
    ·
      refine wp_iconst (pc := 63) dX3_isSo_63 ?_
      refine wp_topB (q := v = 0) (by first | rw [if_pos (by omega)] | rw [if_neg (by omega)]) ?_
      refine wp_icmpx_ne (pc := 64) 71 dX3_isSo_64 (by decide) (fun c64 => ?_) (fun c64 => ?_)
      ·
        refine wp_iconst (pc := 71) dX3_isSo_71 ?_
        exact wp_zx (pc := 72) dX3_isSo_72 rfl (by decide) (by decide) (by show _ = if (decide _ : Bool) = true then _ else _; simp only [decide_eq_true_eq]; rw [B_eq] at c64; first | rw [if_pos c64] | rw [if_neg c64]) ⟨hR', SO.rf⟩
      ·
        refine wp_iconst (pc := 67) dX3_isSo_67 ?_
        refine wp_goto (pc := 68) 72 dX3_isSo_68 (by decide) ?_
        exact wp_zx (pc := 72) dX3_isSo_72 rfl (by decide) (by decide) (by show _ = if (decide _ : Bool) = true then _ else _; simp only [decide_eq_true_eq]; rw [B_eq] at c64; first | rw [if_pos c64] | rw [if_neg c64]) ⟨hR', SO.rf⟩
    ·
      refine wp_iconst (pc := 59) dX3_isSo_59 ?_
      refine wp_goto (pc := 60) 64 dX3_isSo_60 (by decide) ?_
      refine wp_topB (q := v = 0) (by first | rw [if_pos (by omega)] | rw [if_neg (by omega)]) ?_
      refine wp_icmpx_ne (pc := 64) 71 dX3_isSo_64 (by decide) (fun c64 => ?_) (fun c64 => ?_)
      ·
        refine wp_iconst (pc := 71) dX3_isSo_71 ?_
        exact wp_zx (pc := 72) dX3_isSo_72 rfl (by decide) (by decide) (by show _ = if (decide _ : Bool) = true then _ else _; simp only [decide_eq_true_eq]; rw [B_eq] at c64; first | rw [if_pos c64] | rw [if_neg c64]) ⟨hR', SO.rf⟩
      ·
        refine wp_iconst (pc := 67) dX3_isSo_67 ?_
        refine wp_goto (pc := 68) 72 dX3_isSo_68 (by decide) ?_
        exact wp_zx (pc := 72) dX3_isSo_72 rfl (by decide) (by decide) (by show _ = if (decide _ : Bool) = true then _ else _; simp only [decide_eq_true_eq]; rw [B_eq] at c64; first | rw [if_pos c64] | rw [if_neg c64]) ⟨hR', SO.rf⟩
  · subst e
    refine wp_tswIn (pc := 1) 73 dX3_isSo_1 (by omega) (by decide) (by decide) rfl (by decide) ?_
    refine wp_iload_n (pc := 73) dX3_isSo_73 rfl ?_
    first | refine wp_ifb_eq (pc := 74) 93 dX3_isSo_74 (by decide) (fun c74 => ?_) (fun c74 => ?_) | refine wp_if_eq (pc := 74) 93 dX3_isSo_74 (by decide) (by omega) (fun c74 => ?_) (fun c74 => ?_)
    ·
      refine wp_iconst (pc := 93) dX3_isSo_93 ?_
      exact wp_zx dX3_isSo_94 rfl (by decide) (by decide) (by show _ = if (decide _ : Bool) = true then _ else _; simp only [decide_eq_true_eq]; rw [if_neg (by omega)]) ⟨hR', SO.rf⟩
    ·
      refine wp_aload_n (pc := 77) dX3_isSo_77 rfl ?_
      refine wp_aload_n (pc := 78) dX3_isSo_78 rfl ?_
      refine wp_iload_n (pc := 79) dX3_isSo_79 rfl ?_
      refine wp_iconst (pc := 80) dX3_isSo_80 ?_
      refine wp_Vs (pc := 81) dX3_isSo_81 cl_X3_42 (sp_Rule_words hR' hT' hI' (by omega) (by omega) d2) rfl rfl r0 (by rfl) (by decide) (Nat.le_of_ble_eq_true rfl) (fun hp81 e81 => ?_)
      refine wp_iload (pc := 84) dX3_isSo_84 rfl ?_
      refine wp_icmp_ne (pc := 86) 93 dX3_isSo_86 (by decide) (by omega) (by omega) (fun c86 => ?_) (fun c86 => ?_)
      ·
        refine wp_iconst (pc := 93) dX3_isSo_93 ?_
        exact wp_zx (pc := 94) dX3_isSo_94 rfl (by decide) (by decide) (by show _ = if (decide _ : Bool) = true then _ else _; simp only [decide_eq_true_eq]; first | rw [if_pos (by omega)] | rw [if_neg (by omega)]) e81
      ·
        refine wp_iconst (pc := 89) dX3_isSo_89 ?_
        refine wp_goto (pc := 90) 94 dX3_isSo_90 (by decide) ?_
        exact wp_zx (pc := 94) dX3_isSo_94 rfl (by decide) (by decide) (by show _ = if (decide _ : Bool) = true then _ else _; simp only [decide_eq_true_eq]; first | rw [if_pos (by omega)] | rw [if_neg (by omega)]) e81
  · subst e
    refine wp_tswIn (pc := 1) 95 dX3_isSo_1 (by omega) (by decide) (by decide) rfl (by decide) ?_
    refine wp_aload_n (pc := 95) dX3_isSo_95 rfl ?_
    refine wp_iload_n (pc := 96) dX3_isSo_96 rfl ?_
    refine wp_Vp (pc := 97) dX3_isSo_97 cl_X3_48 (sp_Town_owedBy hT' hI' (by omega) (by omega)) rfl rfl (by repeat (first | assumption | exact hset_eq | refine hset_at (by omega) ?_)) (by rfl) (by decide) (Nat.le_of_ble_eq_true rfl) ?_
    refine wp_if_le (pc := 100) 107 dX3_isSo_100 (by decide) (by omega) (fun c100 => ?_) (fun c100 => ?_)
    ·
      refine wp_iconst (pc := 107) dX3_isSo_107 ?_
      refine wp_topB (q := 0 < oby T (k : Int) N) (by first | rw [if_pos (by omega)] | rw [if_neg (by omega)]) ?_
      refine wp_iload (pc := 108) dX3_isSo_108 rfl ?_
      refine wp_iconst (pc := 110) dX3_isSo_110 ?_
      refine wp_icmp_ne (pc := 111) 118 dX3_isSo_111 (by decide) (by omega) (by omega) (fun c111 => ?_) (fun c111 => ?_)
      ·
        refine wp_iconst (pc := 118) dX3_isSo_118 ?_
        refine wp_topB (q := v = 1) (by first | rw [if_pos (by omega)] | rw [if_neg (by omega)]) ?_
        refine wp_icmpx_ne (pc := 119) 126 dX3_isSo_119 (by decide) (fun c119 => ?_) (fun c119 => ?_)
        ·
          refine wp_iconst (pc := 126) dX3_isSo_126 ?_
          exact wp_zx (pc := 127) dX3_isSo_127 rfl (by decide) (by decide) (by show _ = if (decide _ : Bool) = true then _ else _; simp only [decide_eq_true_eq]; rw [B_eq] at c119; first | rw [if_pos c119] | rw [if_neg c119]) ⟨hR', SO.rf⟩
        ·
          refine wp_iconst (pc := 122) dX3_isSo_122 ?_
          refine wp_goto (pc := 123) 127 dX3_isSo_123 (by decide) ?_
          exact wp_zx (pc := 127) dX3_isSo_127 rfl (by decide) (by decide) (by show _ = if (decide _ : Bool) = true then _ else _; simp only [decide_eq_true_eq]; rw [B_eq] at c119; first | rw [if_pos c119] | rw [if_neg c119]) ⟨hR', SO.rf⟩
      ·
        refine wp_iconst (pc := 114) dX3_isSo_114 ?_
        refine wp_goto (pc := 115) 119 dX3_isSo_115 (by decide) ?_
        refine wp_topB (q := v = 1) (by first | rw [if_pos (by omega)] | rw [if_neg (by omega)]) ?_
        refine wp_icmpx_ne (pc := 119) 126 dX3_isSo_119 (by decide) (fun c119 => ?_) (fun c119 => ?_)
        ·
          refine wp_iconst (pc := 126) dX3_isSo_126 ?_
          exact wp_zx (pc := 127) dX3_isSo_127 rfl (by decide) (by decide) (by show _ = if (decide _ : Bool) = true then _ else _; simp only [decide_eq_true_eq]; rw [B_eq] at c119; first | rw [if_pos c119] | rw [if_neg c119]) ⟨hR', SO.rf⟩
        ·
          refine wp_iconst (pc := 122) dX3_isSo_122 ?_
          refine wp_goto (pc := 123) 127 dX3_isSo_123 (by decide) ?_
          exact wp_zx (pc := 127) dX3_isSo_127 rfl (by decide) (by decide) (by show _ = if (decide _ : Bool) = true then _ else _; simp only [decide_eq_true_eq]; rw [B_eq] at c119; first | rw [if_pos c119] | rw [if_neg c119]) ⟨hR', SO.rf⟩
    ·
      refine wp_iconst (pc := 103) dX3_isSo_103 ?_
      refine wp_goto (pc := 104) 108 dX3_isSo_104 (by decide) ?_
      refine wp_topB (q := 0 < oby T (k : Int) N) (by first | rw [if_pos (by omega)] | rw [if_neg (by omega)]) ?_
      refine wp_iload (pc := 108) dX3_isSo_108 rfl ?_
      refine wp_iconst (pc := 110) dX3_isSo_110 ?_
      refine wp_icmp_ne (pc := 111) 118 dX3_isSo_111 (by decide) (by omega) (by omega) (fun c111 => ?_) (fun c111 => ?_)
      ·
        refine wp_iconst (pc := 118) dX3_isSo_118 ?_
        refine wp_topB (q := v = 1) (by first | rw [if_pos (by omega)] | rw [if_neg (by omega)]) ?_
        refine wp_icmpx_ne (pc := 119) 126 dX3_isSo_119 (by decide) (fun c119 => ?_) (fun c119 => ?_)
        ·
          refine wp_iconst (pc := 126) dX3_isSo_126 ?_
          exact wp_zx (pc := 127) dX3_isSo_127 rfl (by decide) (by decide) (by show _ = if (decide _ : Bool) = true then _ else _; simp only [decide_eq_true_eq]; rw [B_eq] at c119; first | rw [if_pos c119] | rw [if_neg c119]) ⟨hR', SO.rf⟩
        ·
          refine wp_iconst (pc := 122) dX3_isSo_122 ?_
          refine wp_goto (pc := 123) 127 dX3_isSo_123 (by decide) ?_
          exact wp_zx (pc := 127) dX3_isSo_127 rfl (by decide) (by decide) (by show _ = if (decide _ : Bool) = true then _ else _; simp only [decide_eq_true_eq]; rw [B_eq] at c119; first | rw [if_pos c119] | rw [if_neg c119]) ⟨hR', SO.rf⟩
      ·
        refine wp_iconst (pc := 114) dX3_isSo_114 ?_
        refine wp_goto (pc := 115) 119 dX3_isSo_115 (by decide) ?_
        refine wp_topB (q := v = 1) (by first | rw [if_pos (by omega)] | rw [if_neg (by omega)]) ?_
        refine wp_icmpx_ne (pc := 119) 126 dX3_isSo_119 (by decide) (fun c119 => ?_) (fun c119 => ?_)
        ·
          refine wp_iconst (pc := 126) dX3_isSo_126 ?_
          exact wp_zx (pc := 127) dX3_isSo_127 rfl (by decide) (by decide) (by show _ = if (decide _ : Bool) = true then _ else _; simp only [decide_eq_true_eq]; rw [B_eq] at c119; first | rw [if_pos c119] | rw [if_neg c119]) ⟨hR', SO.rf⟩
        ·
          refine wp_iconst (pc := 122) dX3_isSo_122 ?_
          refine wp_goto (pc := 123) 127 dX3_isSo_123 (by decide) ?_
          exact wp_zx (pc := 127) dX3_isSo_127 rfl (by decide) (by decide) (by show _ = if (decide _ : Bool) = true then _ else _; simp only [decide_eq_true_eq]; rw [B_eq] at c119; first | rw [if_pos c119] | rw [if_neg c119]) ⟨hR', SO.rf⟩
  · subst e
    refine wp_tswOut (pc := 1) 128 dX3_isSo_1 (by omega) (by omega) (by decide) ?_
    refine wp_aload_n (pc := 128) dX3_isSo_128 rfl ?_
    refine wp_getf (pc := 129) dX3_isSo_129 gf_X3_51 (by repeat (first | assumption | exact hset_eq | refine hset_at (by omega) ?_)) (by rfl) ?_
    refine wp_iload_n (pc := 132) dX3_isSo_132 rfl ?_
    refine wp_iald (pc := 133) dX3_isSo_133 (by repeat (first | assumption | exact hset_eq | refine hset_at (by omega) ?_)) (by omega) (by omega) (by decide) ?_
    refine wp_iload (pc := 134) dX3_isSo_134 rfl ?_
    refine wp_icmp_gt (pc := 136) 143 dX3_isSo_136 (by decide) (by omega) (by omega) (fun c136 => ?_) (fun c136 => ?_)
    ·
      refine wp_iconst (pc := 143) dX3_isSo_143 ?_
      exact wp_zx (pc := 144) dX3_isSo_144 rfl (by decide) (by decide) (by show _ = if (decide _ : Bool) = true then _ else _; simp only [decide_eq_true_eq]; first | rw [if_pos (by omega)] | rw [if_neg (by omega)]) ⟨hR', SO.rf⟩
    ·
      refine wp_iconst (pc := 139) dX3_isSo_139 ?_
      refine wp_goto (pc := 140) 144 dX3_isSo_140 (by decide) ?_
      exact wp_zx (pc := 144) dX3_isSo_144 rfl (by decide) (by decide) (by show _ = if (decide _ : Bool) = true then _ else _; simp only [decide_eq_true_eq]; first | rw [if_pos (by omega)] | rw [if_neg (by omega)]) ⟨hR', SO.rf⟩
def ftP (cs : List Int) (T : Nat → Int → Int) (N : Nat) (A V : Int → Int) (n : Nat) : Nat → Bool := fun k => allb (fun i => iso cs T N k (A (i : Int)) (V (i : Int))) n
theorem lp_fit2 (hI : TI T N) (hk : k < N) (d1 : H + 3 ≤ R ∨ R + 4 ≤ H) (d2 : h + 8 ≤ R ∨ R + 4 ≤ h) {Q : Option Value → Hp → Prop} (K : ∀ hp3, HearAt hp3 H A V n → TownAt hp3 h T → RuleAt hp3 R cs → SO hp hp3 R (R + 4) → wp g MX3_fitting (rm 4 0 0) Q 0 0 63 [some (.ref H), some (.ref h), some (.ref R), some (.int (I x)), some (.int (I (k : Int))), some (.int (B (ftP cs T N A V n k = true))), none] [] hp3) : ∀ (m i : Nat), n < i + m → i ≤ n → ∀ (hp2 : Hp) (hH : HearAt hp2 H A V n) (hT : TownAt hp2 h T) (hR : RuleAt hp2 R cs) (hS : SO hp hp2 R (R + 4)), wp g MX3_fitting (rm 4 0 0) Q 0 0 20 [some (.ref H), some (.ref h), some (.ref R), some (.int (I x)), some (.int (I (k : Int))), some (.int (B (allb (fun i => iso cs T N k (A (i : Int)) (V (i : Int))) i = true))), some (.int (I (i : Int)))] [] hp2 := by
  intro m
  induction m with
  | zero => intro i h1 h2; exact absurd h1 (by omega)
  | succ m ih =>
    intro i h1 h2 hp2 hH hT hR hS
    have hH' := hH
    obtain ⟨s0, s1, s2, hn, rA, rV⟩ := hH
    have iN := hI.2.1
    have hA := rA (i : Int)
    have hV := rV (i : Int)
    refine wp_iload (pc := 20) dX3_fitting_20 rfl ?_
    refine wp_aload_n (pc := 22) dX3_fitting_22 rfl ?_
    refine wp_getf (pc := 23) dX3_fitting_23 gf_X3_18 (by repeat (first | assumption | exact hset_eq | refine hset_at (by omega) ?_)) (by rfl) ?_
    refine wp_icmp_ge (pc := 26) 63 dX3_fitting_26 (by decide) (by omega) (by omega) (fun c26 => ?_) (fun c26 => ?_)
    ·
      have e : i = n := by omega
      subst e
      refine wp_ls ?_ (K hp2 hH' hT hR hS)
      repeat' (first | exact LE_0 | refine LE_s rfl ?_ | refine LE_s (I_c (by first | omega | (simp only [sm]; omega))) ?_ | refine LE_s (J_c (by first | omega | exact Int.pow_succ _ _ | exact (Int.pow_succ _ _).symm | exact (Int.pow_zero _).symm | (simp only [sm]; omega))) ?_ | refine LE_n ?_)
    ·
      refine wp_iload (pc := 29) dX3_fitting_29 rfl ?_
      first | refine wp_ifb_eq (pc := 31) 63 dX3_fitting_31 (by decide) (fun c31 => ?_) (fun c31 => ?_) | refine wp_if_eq (pc := 31) 63 dX3_fitting_31 (by decide) (by omega) (fun c31 => ?_) (fun c31 => ?_)
      ·
        have hz : ¬ ftP cs T N A V n k = true := fun z => c31 ((allb_iff _ _).mpr (fun j hj => (allb_iff _ _).mp z j (by omega)))
        have he : B (allb (fun i => iso cs T N k (A (i : Int)) (V (i : Int))) i = true) = B (ftP cs T N A V n k = true) := (B_eq _ _).mpr ⟨fun z => absurd z c31, fun z => absurd z hz⟩
        rw [he]
        refine wp_ls ?_ (K hp2 hH' hT hR hS)
        repeat' (first | exact LE_0 | refine LE_s rfl ?_ | refine LE_s (I_c (by first | omega | (simp only [sm]; omega))) ?_ | refine LE_s (J_c (by first | omega | exact Int.pow_succ _ _ | exact (Int.pow_succ _ _).symm | exact (Int.pow_zero _).symm | (simp only [sm]; omega))) ?_ | refine LE_n ?_)
      ·
        refine wp_aload_n (pc := 34) dX3_fitting_34 rfl ?_
        refine wp_aload_n (pc := 35) dX3_fitting_35 rfl ?_
        refine wp_iload (pc := 36) dX3_fitting_36 rfl ?_
        refine wp_aload_n (pc := 38) dX3_fitting_38 rfl ?_
        refine wp_getf (pc := 39) dX3_fitting_39 gf_X3_11 (by repeat (first | assumption | exact hset_eq | refine hset_at (by omega) ?_)) (by rfl) ?_
        refine wp_iload (pc := 42) dX3_fitting_42 rfl ?_
        refine wp_iald (pc := 44) dX3_fitting_44 (by repeat (first | assumption | exact hset_eq | refine hset_at (by omega) ?_)) (by omega) (by omega) (by decide) ?_
        refine wp_aload_n (pc := 45) dX3_fitting_45 rfl ?_
        refine wp_getf (pc := 46) dX3_fitting_46 gf_X3_15 (by repeat (first | assumption | exact hset_eq | refine hset_at (by omega) ?_)) (by rfl) ?_
        refine wp_iload (pc := 49) dX3_fitting_49 rfl ?_
        refine wp_iald (pc := 51) dX3_fitting_51 (by repeat (first | assumption | exact hset_eq | refine hset_at (by omega) ?_)) (by omega) (by omega) (by decide) ?_
        refine wp_Ss (pc := 52) dX3_fitting_52 cl_X3_31 (sp_Hearsay_isSo hT hI hR (by omega) hA hV d2) rfl rfl (by decide) (Nat.le_of_ble_eq_true rfl) (fun hp52 e52 => ?_)
        refine wp_istore (pc := 55) dX3_fitting_55 (by decide) ?_
        refine wp_iinc (pc := 57) dX3_fitting_57 rfl (by decide) ?_
        refine wp_goto (pc := 60) 20 dX3_fitting_60 (by decide) ?_
        have he : B (iso cs T N k (A (i : Int)) (V (i : Int)) = true) = B (allb (fun i => iso cs T N k (A (i : Int)) (V (i : Int))) (i + 1) = true) := (B_eq _ _).mpr ⟨fun z => by show (allb _ i && iso cs T N k (A (i : Int)) (V (i : Int))) = true; rw [c31, z]; rfl, fun z => (allb_iff _ _).mp z i (by omega)⟩
        rw [he]
        refine wp_ls ?_ (ih (i + 1) (by omega) (by omega) hp52 (hH'.fr e52.2 (by omega)) (hT.fr e52.2 (by omega)) e52.1 (hS.tr e52.2))
        repeat' (first | exact LE_0 | refine LE_s rfl ?_ | refine LE_s (I_c (by first | omega | (simp only [sm]; omega))) ?_ | refine LE_s (J_c (by first | omega | exact Int.pow_succ _ _ | exact (Int.pow_succ _ _).symm | exact (Int.pow_zero _).symm | (simp only [sm]; omega))) ?_ | refine LE_n ?_)
theorem lp_fit1 (hI : TI T N) (d1 : H + 3 ≤ R ∨ R + 4 ≤ H) (d2 : h + 8 ≤ R ∨ R + 4 ≤ h) : ∀ (m i : Nat), N < i + m → i ≤ N → ∀ (hp2 : Hp) (hH : HearAt hp2 H A V n) (hT : TownAt hp2 h T) (hR : RuleAt hp2 R cs) (hS : SO hp hp2 R (R + 4)), wp g MX3_fitting (rm 4 0 0) (Eff (.int (I ((bits (ftP cs T N A V n) N : Nat) : Int))) (fun hp2 => RuleAt hp2 R cs ∧ SO hp hp2 R (R + 4))) 0 0 5 [some (.ref H), some (.ref h), some (.ref R), some (.int (I ((bits (ftP cs T N A V n) i : Nat) : Int))), some (.int (I (i : Int))), none, none] [] hp2 := by
  intro m
  induction m with
  | zero => intro i h1 h2; exact absurd h1 (by omega)
  | succ m ih =>
    intro i h1 h2 hp2 hH hT hR hS
    have iN := hI.2.1
    have i8 := hI.1
    have hT' := hT
    obtain ⟨t0, t1, t2, t3, t4, t5, t6, t7⟩ := hT
    have K : ∀ hp3, HearAt hp3 H A V n → TownAt hp3 h T → RuleAt hp3 R cs → SO hp hp3 R (R + 4) → i < N → wp g MX3_fitting (rm 4 0 0) (Eff (.int (I ((bits (ftP cs T N A V n) N : Nat) : Int))) (fun hp2 => RuleAt hp2 R cs ∧ SO hp hp2 R (R + 4))) 0 0 63 [some (.ref H), some (.ref h), some (.ref R), some (.int (I ((bits (ftP cs T N A V n) i : Nat) : Int))), some (.int (I (i : Int))), some (.int (B (ftP cs T N A V n i = true))), none] [] hp3 := by
      intro hp3 hH3 hT3 hR3 hS3 hi
      refine wp_iload (pc := 63) dX3_fitting_63 rfl ?_
      first | refine wp_ifb_eq (pc := 65) 75 dX3_fitting_65 (by decide) (fun c65 => ?_) (fun c65 => ?_) | refine wp_if_eq (pc := 65) 75 dX3_fitting_65 (by decide) (by omega) (fun c65 => ?_) (fun c65 => ?_)
      ·
        have e : bits (ftP cs T N A V n) (i + 1) = bits (ftP cs T N A V n) i := by show _ ||| _ = _; rw [if_neg c65, Nat.or_zero]
        rw [← e] -- go
        refine wp_iinc (pc := 75) dX3_fitting_75 rfl (by decide) ?_
        refine wp_goto (pc := 78) 5 dX3_fitting_78 (by decide) ?_
        refine wp_ls ?_ (ih (i + 1) (by omega) (by omega) hp3 hH3 hT3 hR3 hS3)
        repeat' (first | exact LE_0 | refine LE_s rfl ?_ | refine LE_s (I_c (by first | omega | (simp only [sm]; omega))) ?_ | refine LE_s (J_c (by first | omega | exact Int.pow_succ _ _ | exact (Int.pow_succ _ _).symm | exact (Int.pow_zero _).symm | (simp only [sm]; omega))) ?_ | refine LE_n ?_)
      ·
        have e : bits (ftP cs T N A V n) (i + 1) = bits (ftP cs T N A V n) i ||| 2 ^ i := by show _ ||| _ = _; rw [if_pos c65]
        skip -- go
        refine wp_iload_n (pc := 68) dX3_fitting_68 rfl ?_
        refine wp_iconst (pc := 69) dX3_fitting_69 ?_
        refine wp_iload (pc := 70) dX3_fitting_70 rfl ?_
        refine wp_ishl (pc := 72) dX3_fitting_72 (I_shl (by omega)) ?_
        refine wp_ior (pc := 73) dX3_fitting_73 I_or ?_
        rw [← e]
        refine wp_istore_n (pc := 74) dX3_fitting_74 (by decide) ?_
        refine wp_iinc (pc := 75) dX3_fitting_75 rfl (by decide) ?_
        refine wp_goto (pc := 78) 5 dX3_fitting_78 (by decide) ?_
        refine wp_ls ?_ (ih (i + 1) (by omega) (by omega) hp3 hH3 hT3 hR3 hS3)
        repeat' (first | exact LE_0 | refine LE_s rfl ?_ | refine LE_s (I_c (by first | omega | (simp only [sm]; omega))) ?_ | refine LE_s (J_c (by first | omega | exact Int.pow_succ _ _ | exact (Int.pow_succ _ _).symm | exact (Int.pow_zero _).symm | (simp only [sm]; omega))) ?_ | refine LE_n ?_)
    refine wp_iload (pc := 5) dX3_fitting_5 rfl ?_
    refine wp_aload_n (pc := 7) dX3_fitting_7 rfl ?_
    refine wp_getf (pc := 8) dX3_fitting_8 gf_X3_26 (by repeat (first | assumption | exact hset_eq | refine hset_at (by omega) ?_)) (by rfl) ?_
    refine wp_icmp_ge (pc := 11) 81 dX3_fitting_11 (by decide) (by omega) (by omega) (fun c11 => ?_) (fun c11 => ?_)
    ·
      have e : i = N := by omega
      subst e -- go
      refine wp_iload_n (pc := 81) dX3_fitting_81 rfl ?_
      exact wp_ir (pc := 82) dX3_fitting_82 rfl (by decide) (by decide) (by first | rfl | omega) ⟨hR, hS⟩
    ·
      refine wp_iconst (pc := 14) dX3_fitting_14 ?_
      refine wp_istore (pc := 15) dX3_fitting_15 (by decide) ?_
      refine wp_iconst (pc := 17) dX3_fitting_17 ?_
      refine wp_istore (pc := 18) dX3_fitting_18 (by decide) ?_
      refine wp_ls ?_ (lp_fit2 (hp := hp) (k := i) (x := ((bits (ftP cs T N A V n) i : Nat) : Int)) hI (by omega) d1 d2 (fun hp3 z1 z2 z3 z4 => K hp3 z1 z2 z3 z4 (by omega)) (n + 1) 0 (by omega) (by omega) hp2 hH hT' hR hS)
      rw [show B (allb (fun i => iso cs T N _ (A (i : Int)) (V (i : Int))) 0 = true) = I 1 from rfl]
      repeat' (first | exact LE_0 | refine LE_s rfl ?_ | refine LE_s (I_c (by first | omega | (simp only [sm]; omega))) ?_ | refine LE_s (J_c (by first | omega | exact Int.pow_succ _ _ | exact (Int.pow_succ _ _).symm | exact (Int.pow_zero _).symm | (simp only [sm]; omega))) ?_ | refine LE_n ?_)
theorem sp_Hearsay_fitting (hI : TI T N) (d1 : H + 3 ≤ R ∨ R + 4 ≤ H) (d2 : h + 8 ≤ R ∨ R + 4 ≤ h) (hH : HearAt hp H A V n) (hT : TownAt hp h T) (hR : RuleAt hp R cs) : Sp g MX3_fitting (rm 4 0 0) [.ref H, .ref h, .ref R] hp (Eff (.int (I ((bits (ftP cs T N A V n) N : Nat) : Int))) (fun hp2 => RuleAt hp2 R cs ∧ SO hp hp2 R (R + 4))) := by
  refine Sp_mk rfl (Nat.le_of_ble_eq_true rfl) ?_
  show wp g _ _ _ 0 0 0 [some (.ref H), some (.ref h), some (.ref R), none, none, none, none] [] hp
  refine wp_iconst (pc := 0) dX3_fitting_0 ?_
  refine wp_istore_n (pc := 1) dX3_fitting_1 (by decide) ?_
  refine wp_iconst (pc := 2) dX3_fitting_2 ?_
  refine wp_istore (pc := 3) dX3_fitting_3 (by decide) ?_
  refine wp_ls ?_ (lp_fit1 hI d1 d2 (N + 1) 0 (by omega) (by omega) hp hH hT hR SO.rf)
  repeat' (first | exact LE_0 | refine LE_s rfl ?_ | refine LE_s (I_c (by first | omega | (simp only [sm]; omega))) ?_ | refine LE_s (J_c (by first | omega | exact Int.pow_succ _ _ | exact (Int.pow_succ _ _).symm | exact (Int.pow_zero _).symm | (simp only [sm]; omega))) ?_ | refine LE_n ?_)
end HF

