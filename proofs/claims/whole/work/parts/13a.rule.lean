/-! Rule: the steps run by a stack -/
section RA
variable {g : GT} {hp hp2 : Hp} {R h N n k i j : Nat} {T : Nat → Int → Int} {Sg St Sk : Int → Int} {a b c x y ln at_ : Int} {cs s : List Int}
theorem wp_irx {M : MI} {Rm : Room} {P : Hp → Prop} {pc kk nn : Nat} {ls : List (Option Value)} {x y : Int32} (d : decode M.2.1 pc = .ok (.ireturn, 1)) (hr : M.2.2.2 = some .int) (hk : kk ≤ Rm.cells) (hn : nn ≤ Rm.slots) (hq : x = y) (h : P hp) : wp g M Rm (Eff (.int y) P) kk nn pc ls [.int x] hp := by
  subst hq
  exact wp_ireturn d hr hk hn ⟨rfl, h⟩
theorem wp_topx {M : MI} {Rm : Room} {Q : Option Value → Hp → Prop} {pc kk nn : Nat} {ls : List (Option Value)} {st : List Value} {x y : Int32} (e : x = y) (h : wp g M Rm Q kk nn pc ls (.int y :: st) hp) : wp g M Rm Q kk nn pc ls (.int x :: st) hp := by
  rw [e]
  exact h
/-- the int that a number is -/
def nz (k : Int) : Int := (I k).toInt
theorem nz_I (k : Int) : I (nz k) = I k := by unfold nz; exact (I_of _).symm
theorem nz_in (k : Int) : InR (nz k) := by
  unfold nz
  have h1 := Int32.le_toInt (I k)
  have h2 := Int32.toInt_lt (I k)
  omega
theorem nz_id {k : Int} (h : InR k) : nz k = k := I_toInt h
abbrev isT (c : Int) : Prop := c = 111 ∨ c = 100 ∨ c = 116 ∨ c = 101 ∨ c = 102 ∨ c = 110
theorem sp_Rule_isThing (ra : InR a) : Sp g MX7_isThing (rm 0 0 0) [.int (I a)] hp (Pur (.int (B (isT a))) hp) := by
  refine Sp_mk rfl (Nat.le_of_ble_eq_true rfl) ?_
  show wp g _ _ _ 0 0 0 [some (.int (I a))] [] hp
  refine wp_iload_n (pc := 0) dX7_isThing_0 rfl ?_
  refine wp_bipush (pc := 1) (y := 111) dX7_isThing_1 (by decide) ?_
  refine wp_icmp_eq (pc := 3) 36 dX7_isThing_3 (by decide) (by omega) (by omega) (fun c3 => ?_) (fun c3 => ?_)
  ·
    refine wp_iconst (pc := 36) dX7_isThing_36 ?_
    refine wp_goto (pc := 37) 41 dX7_isThing_37 (by decide) ?_
    first | exact wp_z1 (pc := 41) dX7_isThing_41 rfl (by decide) (by decide) (by first | (left; assumption) | omega) rfl | exact wp_z0 (pc := 41) dX7_isThing_41 rfl (by decide) (by decide) (by first | (left; assumption) | omega) rfl | exact wp_zb (pc := 41) dX7_isThing_41 rfl (by decide) (by decide) Iff.rfl rfl
  ·
    refine wp_iload_n (pc := 6) dX7_isThing_6 rfl ?_
    refine wp_bipush (pc := 7) (y := 100) dX7_isThing_7 (by decide) ?_
    refine wp_icmp_eq (pc := 9) 36 dX7_isThing_9 (by decide) (by omega) (by omega) (fun c9 => ?_) (fun c9 => ?_)
    ·
      refine wp_iconst (pc := 36) dX7_isThing_36 ?_
      refine wp_goto (pc := 37) 41 dX7_isThing_37 (by decide) ?_
      first | exact wp_z1 (pc := 41) dX7_isThing_41 rfl (by decide) (by decide) (by first | (left; assumption) | omega) rfl | exact wp_z0 (pc := 41) dX7_isThing_41 rfl (by decide) (by decide) (by first | (left; assumption) | omega) rfl | exact wp_zb (pc := 41) dX7_isThing_41 rfl (by decide) (by decide) Iff.rfl rfl
    ·
      refine wp_iload_n (pc := 12) dX7_isThing_12 rfl ?_
      refine wp_bipush (pc := 13) (y := 116) dX7_isThing_13 (by decide) ?_
      refine wp_icmp_eq (pc := 15) 36 dX7_isThing_15 (by decide) (by omega) (by omega) (fun c15 => ?_) (fun c15 => ?_)
      ·
        refine wp_iconst (pc := 36) dX7_isThing_36 ?_
        refine wp_goto (pc := 37) 41 dX7_isThing_37 (by decide) ?_
        first | exact wp_z1 (pc := 41) dX7_isThing_41 rfl (by decide) (by decide) (by first | (left; assumption) | omega) rfl | exact wp_z0 (pc := 41) dX7_isThing_41 rfl (by decide) (by decide) (by first | (left; assumption) | omega) rfl | exact wp_zb (pc := 41) dX7_isThing_41 rfl (by decide) (by decide) Iff.rfl rfl
      ·
        refine wp_iload_n (pc := 18) dX7_isThing_18 rfl ?_
        refine wp_bipush (pc := 19) (y := 101) dX7_isThing_19 (by decide) ?_
        refine wp_icmp_eq (pc := 21) 36 dX7_isThing_21 (by decide) (by omega) (by omega) (fun c21 => ?_) (fun c21 => ?_)
        ·
          refine wp_iconst (pc := 36) dX7_isThing_36 ?_
          refine wp_goto (pc := 37) 41 dX7_isThing_37 (by decide) ?_
          first | exact wp_z1 (pc := 41) dX7_isThing_41 rfl (by decide) (by decide) (by first | (left; assumption) | omega) rfl | exact wp_z0 (pc := 41) dX7_isThing_41 rfl (by decide) (by decide) (by first | (left; assumption) | omega) rfl | exact wp_zb (pc := 41) dX7_isThing_41 rfl (by decide) (by decide) Iff.rfl rfl
        ·
          refine wp_iload_n (pc := 24) dX7_isThing_24 rfl ?_
          refine wp_bipush (pc := 25) (y := 102) dX7_isThing_25 (by decide) ?_
          refine wp_icmp_eq (pc := 27) 36 dX7_isThing_27 (by decide) (by omega) (by omega) (fun c27 => ?_) (fun c27 => ?_)
          ·
            refine wp_iconst (pc := 36) dX7_isThing_36 ?_
            refine wp_goto (pc := 37) 41 dX7_isThing_37 (by decide) ?_
            first | exact wp_z1 (pc := 41) dX7_isThing_41 rfl (by decide) (by decide) (by first | (left; assumption) | omega) rfl | exact wp_z0 (pc := 41) dX7_isThing_41 rfl (by decide) (by decide) (by first | (left; assumption) | omega) rfl | exact wp_zb (pc := 41) dX7_isThing_41 rfl (by decide) (by decide) Iff.rfl rfl
          ·
            refine wp_iload_n (pc := 30) dX7_isThing_30 rfl ?_
            refine wp_bipush (pc := 31) (y := 110) dX7_isThing_31 (by decide) ?_
            refine wp_icmp_ne (pc := 33) 40 dX7_isThing_33 (by decide) (by omega) (by omega) (fun c33 => ?_) (fun c33 => ?_)
            ·
              refine wp_iconst (pc := 40) dX7_isThing_40 ?_
              first | exact wp_z1 (pc := 41) dX7_isThing_41 rfl (by decide) (by decide) (by first | (left; assumption) | omega) rfl | exact wp_z0 (pc := 41) dX7_isThing_41 rfl (by decide) (by decide) (by first | (left; assumption) | omega) rfl | exact wp_zb (pc := 41) dX7_isThing_41 rfl (by decide) (by decide) Iff.rfl rfl
            ·
              refine wp_iconst (pc := 36) dX7_isThing_36 ?_
              refine wp_goto (pc := 37) 41 dX7_isThing_37 (by decide) ?_
              first | exact wp_z1 (pc := 41) dX7_isThing_41 rfl (by decide) (by decide) (by first | (left; assumption) | omega) rfl | exact wp_z0 (pc := 41) dX7_isThing_41 rfl (by decide) (by decide) (by first | (left; assumption) | omega) rfl | exact wp_zb (pc := 41) dX7_isThing_41 rfl (by decide) (by decide) Iff.rfl rfl
def jn (o a b : Int) : Int := nz (if o = 43 then a + b else if o = 45 then a - b else if o = 42 then a * b else if o = 47 then (if b = 0 then 0 else a.tdiv b) else if o = 60 then (if a < b then 1 else 0) else if o = 62 then (if b < a then 1 else 0) else if a = b then 1 else 0)
def env (T : Nat → Int → Int) (p q : Int) (c : Int) : Int := if c = 111 then T 0 (p * 6 + q) else if c = 100 then (if T 5 q = 0 then 0 else 1) else if c = 116 then T 4 q else if c = 101 then T 1 (p * 6 + q) else if c = 102 then T 1 (q * 6 + p) else T 7 0 % 12
theorem env_in (hI : TI T N) (p q c : Int) : 0 ≤ env T p q c ∧ env T p q c ≤ 99 := by
  obtain ⟨i8, iN, i0, i1, i2, i3, i4, i5, i6, i7⟩ := hI
  have h1 := i0 (p * 6 + q)
  have h2 := i4 q
  have h3 := i1 (p * 6 + q)
  have h4 := i1 (q * 6 + p)
  unfold env
  repeat' split
  all_goals omega
theorem sp_Rule_thing (hT : TownAt hp h T) (hI : TI T N) (hc : isT c) (ra : 0 ≤ a ∧ a < 6) (rb : 0 ≤ b ∧ b < 6) : Sp g MX7_thing (rm 1 0 0) [.int (I c), .ref h, .int (I a), .int (I b)] hp (Pur (.int (I (env T a b c))) hp) := by
  have hI' := hI
  obtain ⟨i8, iN, i0, i1, i2, i3, i4, i5, i6, i7⟩ := hI
  have hT' := hT
  obtain ⟨t0, t1, t2, t3, t4, t5, t6, t7⟩ := hT
  refine Sp_mk rfl (Nat.le_of_ble_eq_true rfl) ?_
  show wp g _ _ _ 0 0 0 [some (.int (I c)), some (.ref h), some (.int (I a)), some (.int (I b))] [] hp
  refine wp_iload_n (pc := 0) dX7_thing_0 rfl ?_
  rcases hc with e | e | e | e | e | e
  · subst e
    refine wp_lsw (pc := 1) 52 dX7_thing_1 (by decide) (by omega) rfl (by decide) ?_
    refine wp_aload_n (pc := 52) dX7_thing_52 rfl ?_
    refine wp_getf (pc := 53) dX7_thing_53 gf_X7_113 (by repeat (first | assumption | exact hset_eq | refine hset_at (by omega) ?_)) (by rfl) ?_
    refine wp_iload_n (pc := 56) dX7_thing_56 rfl ?_
    refine wp_iload_n (pc := 57) dX7_thing_57 rfl ?_
    refine wp_Sp (pc := 58) dX7_thing_58 cl_X7_118 sp_D_pair rfl rfl (by decide) (Nat.le_of_ble_eq_true rfl) ?_
    refine wp_iald (pc := 61) dX7_thing_61 (by repeat (first | assumption | exact hset_eq | refine hset_at (by omega) ?_)) (by omega) (by omega) (by decide) ?_
    exact wp_ir (pc := 62) dX7_thing_62 rfl (by decide) (by decide) (by first | rfl | omega) rfl
  · subst e
    refine wp_lsw (pc := 1) 63 dX7_thing_1 (by decide) (by omega) rfl (by decide) ?_
    refine wp_aload_n (pc := 63) dX7_thing_63 rfl ?_
    refine wp_iload_n (pc := 64) dX7_thing_64 rfl ?_
    refine wp_Vp (pc := 65) dX7_thing_65 cl_X7_121 (sp_Town_lives (by first | assumption | omega) (by first | assumption | omega) (by first | assumption | omega) (by first | assumption | omega)) rfl rfl (by repeat (first | assumption | exact hset_eq | refine hset_at (by omega) ?_)) (by rfl) (by decide) (Nat.le_of_ble_eq_true rfl) ?_
    first | refine wp_ifb_eq (pc := 68) 75 dX7_thing_68 (by decide) (fun c68 => ?_) (fun c68 => ?_) | refine wp_if_eq (pc := 68) 75 dX7_thing_68 (by decide) (by omega) (fun c68 => ?_) (fun c68 => ?_)
    ·
      refine wp_iconst (pc := 75) dX7_thing_75 ?_
      exact wp_ir (pc := 76) dX7_thing_76 rfl (by decide) (by decide) (by unfold env; rw [if_neg (by decide), if_pos rfl]; split <;> first | rfl | contradiction) rfl
    ·
      refine wp_iconst (pc := 71) dX7_thing_71 ?_
      refine wp_goto (pc := 72) 76 dX7_thing_72 (by decide) ?_
      exact wp_ir (pc := 76) dX7_thing_76 rfl (by decide) (by decide) (by unfold env; rw [if_neg (by decide), if_pos rfl]; split <;> first | rfl | contradiction) rfl
  · subst e
    refine wp_lsw (pc := 1) 77 dX7_thing_1 (by decide) (by omega) rfl (by decide) ?_
    refine wp_aload_n (pc := 77) dX7_thing_77 rfl ?_
    refine wp_getf (pc := 78) dX7_thing_78 gf_X7_124 (by repeat (first | assumption | exact hset_eq | refine hset_at (by omega) ?_)) (by rfl) ?_
    refine wp_iload_n (pc := 81) dX7_thing_81 rfl ?_
    refine wp_iald (pc := 82) dX7_thing_82 (by repeat (first | assumption | exact hset_eq | refine hset_at (by omega) ?_)) (by omega) (by omega) (by decide) ?_
    exact wp_ir (pc := 83) dX7_thing_83 rfl (by decide) (by decide) (by first | rfl | omega) rfl
  · subst e
    refine wp_lsw (pc := 1) 84 dX7_thing_1 (by decide) (by omega) rfl (by decide) ?_
    refine wp_aload_n (pc := 84) dX7_thing_84 rfl ?_
    refine wp_getf (pc := 85) dX7_thing_85 gf_X7_127 (by repeat (first | assumption | exact hset_eq | refine hset_at (by omega) ?_)) (by rfl) ?_
    refine wp_iload_n (pc := 88) dX7_thing_88 rfl ?_
    refine wp_iload_n (pc := 89) dX7_thing_89 rfl ?_
    refine wp_Sp (pc := 90) dX7_thing_90 cl_X7_118 sp_D_pair rfl rfl (by decide) (Nat.le_of_ble_eq_true rfl) ?_
    refine wp_iald (pc := 93) dX7_thing_93 (by repeat (first | assumption | exact hset_eq | refine hset_at (by omega) ?_)) (by omega) (by omega) (by decide) ?_
    exact wp_ir (pc := 94) dX7_thing_94 rfl (by decide) (by decide) (by first | rfl | omega) rfl
  · subst e
    refine wp_lsw (pc := 1) 95 dX7_thing_1 (by decide) (by omega) rfl (by decide) ?_
    refine wp_aload_n (pc := 95) dX7_thing_95 rfl ?_
    refine wp_getf (pc := 96) dX7_thing_96 gf_X7_127 (by repeat (first | assumption | exact hset_eq | refine hset_at (by omega) ?_)) (by rfl) ?_
    refine wp_iload_n (pc := 99) dX7_thing_99 rfl ?_
    refine wp_iload_n (pc := 100) dX7_thing_100 rfl ?_
    refine wp_Sp (pc := 101) dX7_thing_101 cl_X7_118 sp_D_pair rfl rfl (by decide) (Nat.le_of_ble_eq_true rfl) ?_
    refine wp_iald (pc := 104) dX7_thing_104 (by repeat (first | assumption | exact hset_eq | refine hset_at (by omega) ?_)) (by omega) (by omega) (by decide) ?_
    exact wp_ir (pc := 105) dX7_thing_105 rfl (by decide) (by decide) (by first | rfl | omega) rfl
  · subst e
    refine wp_lsw (pc := 1) 106 dX7_thing_1 (by decide) (by omega) rfl (by decide) ?_
    refine wp_aload_n (pc := 106) dX7_thing_106 rfl ?_
    refine wp_getf (pc := 107) dX7_thing_107 gf_X7_130 (by repeat (first | assumption | exact hset_eq | refine hset_at (by omega) ?_)) (by rfl) ?_
    refine wp_bipush (pc := 110) (y := 12) dX7_thing_110 (by decide) ?_
    refine wp_irem (pc := 112) dX7_thing_112 (by decide) (I_rem (by omega) (by omega) (by omega) (by omega)) ?_
    exact wp_ir (pc := 113) dX7_thing_113 rfl (by decide) (by decide) (by first | rfl | omega) rfl
theorem sp_Rule_join (hc : c = 43 ∨ c = 45 ∨ c = 42 ∨ c = 47 ∨ c = 60 ∨ c = 62 ∨ c = 61) (ra : InR a) (rb : InR b) : Sp g MX7_join (rm 0 0 0) [.int (I c), .int (I a), .int (I b)] hp (Pur (.int (I (jn c a b))) hp) := by
  refine Sp_mk rfl (Nat.le_of_ble_eq_true rfl) ?_
  show wp g _ _ _ 0 0 0 [some (.int (I c)), some (.int (I a)), some (.int (I b))] [] hp
  refine wp_iload_n (pc := 0) dX7_join_0 rfl ?_
  rcases hc with e | e | e | e | e | e | e
  · subst e
    refine wp_lsw (pc := 1) 60 dX7_join_1 (by decide) (by omega) rfl (by decide) ?_
    refine wp_iload_n (pc := 60) dX7_join_60 rfl ?_
    refine wp_iload_n (pc := 61) dX7_join_61 rfl ?_
    refine wp_iadd (pc := 62) dX7_join_62 ?_
    exact wp_irx (pc := 63) dX7_join_63 rfl (by decide) (by decide) (nz_I _).symm rfl
  · subst e
    refine wp_lsw (pc := 1) 64 dX7_join_1 (by decide) (by omega) rfl (by decide) ?_
    refine wp_iload_n (pc := 64) dX7_join_64 rfl ?_
    refine wp_iload_n (pc := 65) dX7_join_65 rfl ?_
    refine wp_isub (pc := 66) dX7_join_66 ?_
    exact wp_irx (pc := 67) dX7_join_67 rfl (by decide) (by decide) (nz_I _).symm rfl
  · subst e
    refine wp_lsw (pc := 1) 68 dX7_join_1 (by decide) (by omega) rfl (by decide) ?_
    refine wp_iload_n (pc := 68) dX7_join_68 rfl ?_
    refine wp_iload_n (pc := 69) dX7_join_69 rfl ?_
    refine wp_imul (pc := 70) dX7_join_70 ?_
    exact wp_irx (pc := 71) dX7_join_71 rfl (by decide) (by decide) (nz_I _).symm rfl
  · subst e
    refine wp_lsw (pc := 1) 72 dX7_join_1 (by decide) (by omega) rfl (by decide) ?_
    refine wp_iload_n (pc := 72) dX7_join_72 rfl ?_
    first | refine wp_ifb_ne (pc := 73) 80 dX7_join_73 (by decide) (fun c73 => ?_) (fun c73 => ?_) | refine wp_if_ne (pc := 73) 80 dX7_join_73 (by decide) (by omega) (fun c73 => ?_) (fun c73 => ?_)
    ·
      refine wp_iload_n (pc := 80) dX7_join_80 rfl ?_
      refine wp_iload_n (pc := 81) dX7_join_81 rfl ?_
      refine wp_idiv (pc := 82) dX7_join_82 (I_ne0 rb c73) (I_tdiv ra rb) ?_
      exact wp_irx (pc := 83) dX7_join_83 rfl (by decide) (by decide) (by unfold jn; rw [nz_I]; first | (rw [if_neg (by decide), if_neg (by decide), if_neg (by decide), if_pos rfl, if_neg c73]; done) | (rw [if_neg (by decide), if_neg (by decide), if_neg (by decide), if_pos rfl, if_pos (by omega)]; done)) rfl
    ·
      refine wp_iconst (pc := 76) dX7_join_76 ?_
      refine wp_goto (pc := 77) 83 dX7_join_77 (by decide) ?_
      exact wp_irx (pc := 83) dX7_join_83 rfl (by decide) (by decide) (by unfold jn; rw [nz_I]; first | (rw [if_neg (by decide), if_neg (by decide), if_neg (by decide), if_pos rfl, if_neg c73]; done) | (rw [if_neg (by decide), if_neg (by decide), if_neg (by decide), if_pos rfl, if_pos (by omega)]; done)) rfl
  · subst e
    refine wp_lsw (pc := 1) 84 dX7_join_1 (by decide) (by omega) rfl (by decide) ?_
    refine wp_iload_n (pc := 84) dX7_join_84 rfl ?_
    refine wp_iload_n (pc := 85) dX7_join_85 rfl ?_
    refine wp_icmp_ge (pc := 86) 93 dX7_join_86 (by decide) (by omega) (by omega) (fun c86 => ?_) (fun c86 => ?_)
    ·
      refine wp_iconst (pc := 93) dX7_join_93 ?_
      exact wp_irx (pc := 94) dX7_join_94 rfl (by decide) (by decide) (by unfold jn; rw [nz_I]; first | (rw [if_neg (by decide), if_neg (by decide), if_neg (by decide), if_neg (by decide), if_pos rfl, if_pos (by omega)]; done) | (rw [if_neg (by decide), if_neg (by decide), if_neg (by decide), if_neg (by decide), if_pos rfl, if_neg (by omega)]; done)) rfl
    ·
      refine wp_iconst (pc := 89) dX7_join_89 ?_
      refine wp_goto (pc := 90) 94 dX7_join_90 (by decide) ?_
      exact wp_irx (pc := 94) dX7_join_94 rfl (by decide) (by decide) (by unfold jn; rw [nz_I]; first | (rw [if_neg (by decide), if_neg (by decide), if_neg (by decide), if_neg (by decide), if_pos rfl, if_pos (by omega)]; done) | (rw [if_neg (by decide), if_neg (by decide), if_neg (by decide), if_neg (by decide), if_pos rfl, if_neg (by omega)]; done)) rfl
  · subst e
    refine wp_lsw (pc := 1) 95 dX7_join_1 (by decide) (by omega) rfl (by decide) ?_
    refine wp_iload_n (pc := 95) dX7_join_95 rfl ?_
    refine wp_iload_n (pc := 96) dX7_join_96 rfl ?_
    refine wp_icmp_le (pc := 97) 104 dX7_join_97 (by decide) (by omega) (by omega) (fun c97 => ?_) (fun c97 => ?_)
    ·
      refine wp_iconst (pc := 104) dX7_join_104 ?_
      exact wp_irx (pc := 105) dX7_join_105 rfl (by decide) (by decide) (by unfold jn; rw [nz_I]; first | (rw [if_neg (by decide), if_neg (by decide), if_neg (by decide), if_neg (by decide), if_neg (by decide), if_pos rfl, if_pos (by omega)]; done) | (rw [if_neg (by decide), if_neg (by decide), if_neg (by decide), if_neg (by decide), if_neg (by decide), if_pos rfl, if_neg (by omega)]; done)) rfl
    ·
      refine wp_iconst (pc := 100) dX7_join_100 ?_
      refine wp_goto (pc := 101) 105 dX7_join_101 (by decide) ?_
      exact wp_irx (pc := 105) dX7_join_105 rfl (by decide) (by decide) (by unfold jn; rw [nz_I]; first | (rw [if_neg (by decide), if_neg (by decide), if_neg (by decide), if_neg (by decide), if_neg (by decide), if_pos rfl, if_pos (by omega)]; done) | (rw [if_neg (by decide), if_neg (by decide), if_neg (by decide), if_neg (by decide), if_neg (by decide), if_pos rfl, if_neg (by omega)]; done)) rfl
  · subst e
    refine wp_lsw (pc := 1) 106 dX7_join_1 (by decide) (by omega) rfl (by decide) ?_
    refine wp_iload_n (pc := 106) dX7_join_106 rfl ?_
    refine wp_iload_n (pc := 107) dX7_join_107 rfl ?_
    refine wp_icmp_ne (pc := 108) 115 dX7_join_108 (by decide) (by omega) (by omega) (fun c108 => ?_) (fun c108 => ?_)
    ·
      refine wp_iconst (pc := 115) dX7_join_115 ?_
      exact wp_irx (pc := 116) dX7_join_116 rfl (by decide) (by decide) (by unfold jn; rw [nz_I]; first | (rw [if_neg (by decide), if_neg (by decide), if_neg (by decide), if_neg (by decide), if_neg (by decide), if_neg (by decide), if_pos (by omega)]; done) | (rw [if_neg (by decide), if_neg (by decide), if_neg (by decide), if_neg (by decide), if_neg (by decide), if_neg (by decide), if_neg (by omega)]; done)) rfl
    ·
      refine wp_iconst (pc := 111) dX7_join_111 ?_
      refine wp_goto (pc := 112) 116 dX7_join_112 (by decide) ?_
      exact wp_irx (pc := 116) dX7_join_116 rfl (by decide) (by decide) (by unfold jn; rw [nz_I]; first | (rw [if_neg (by decide), if_neg (by decide), if_neg (by decide), if_neg (by decide), if_neg (by decide), if_neg (by decide), if_pos (by omega)]; done) | (rw [if_neg (by decide), if_neg (by decide), if_neg (by decide), if_neg (by decide), if_neg (by decide), if_neg (by decide), if_neg (by omega)]; done)) rfl
/-! the stack -/
abbrev robj (R : Nat) (ln at_ : Int) (n : Int) (tp : Int) : AC := .inr (.inr (7, [.ref (R + 1), .int (I ln), .int (I at_), .ref (R + 2), .int (I n), .ref (R + 3), .int (I tp)]))
def SkR (Sk : Int → Int) (s : List Int) : Prop := ∀ j : Nat, j < s.length → Sk ((s.length - 1 - j : Nat) : Int) = s.getD j 0
/-- the object, its steps, its stack -/
def RunAt (hp : Hp) (R : Nat) (cs s : List Int) : Prop := ∃ (ln at_ : Int) (Sg St Sk : Int → Int), hp.2 R = some (robj R ln at_ cs.length s.length) ∧ hp.2 (R + 1) = some (.inl (.int, 40, Sg)) ∧ hp.2 (R + 2) = some (.inl (.int, 40, St)) ∧ hp.2 (R + 3) = some (.inl (.int, 40, Sk)) ∧ cs.length ≤ 40 ∧ (∀ j : Nat, j < cs.length → St j = cs.getD j 0) ∧ s.length ≤ 40 ∧ SkR Sk s
theorem RunAt.off (k : RunAt hp R cs s) (hS : ∀ x, R ≤ x → x < R + 4 → hp2.2 x = hp.2 x) : RunAt hp2 R cs s := by
  obtain ⟨ln, at_, Sg, St, Sk, r0, r1, r2, r3, q⟩ := k
  exact ⟨ln, at_, Sg, St, Sk, (hS _ (by omega) (by omega)).trans r0, (hS _ (by omega) (by omega)).trans r1, (hS _ (by omega) (by omega)).trans r2, (hS _ (by omega) (by omega)).trans r3, q⟩
theorem sp_Rule_push (k : RunAt hp R cs s) (hl : s.length < 40) : Sp g MX7_push (rm 0 0 0) [.ref R, .int (I a)] hp (Vod (fun hp2 => RunAt hp2 R cs (a :: s) ∧ SO hp hp2 R (R + 4))) := by
  obtain ⟨ln, at_, Sg, St, Sk, r0, r1, r2, r3, hcs, hSt, hs, hSk⟩ := k
  refine Sp_mk rfl (Nat.le_of_ble_eq_true rfl) ?_
  show wp g _ _ _ 0 0 0 [some (.ref R), some (.int (I a))] [] hp
  refine wp_aload_n (pc := 0) dX7_push_0 rfl ?_
  refine wp_getf (pc := 1) dX7_push_1 gf_X7_92 (by repeat (first | assumption | exact hset_eq | refine hset_at (by omega) ?_)) (by rfl) ?_
  refine wp_bipush (pc := 4) (y := 40) dX7_push_4 (by decide) ?_
  refine wp_icmp_ge (pc := 6) 29 dX7_push_6 (by decide) (by omega) (by omega) (fun c6 => ?_) (fun c6 => ?_)
  ·
    omega
  ·
    refine wp_aload_n (pc := 9) dX7_push_9 rfl ?_
    refine wp_getf (pc := 10) dX7_push_10 gf_X7_18 (by repeat (first | assumption | exact hset_eq | refine hset_at (by omega) ?_)) (by rfl) ?_
    refine wp_aload_n (pc := 13) dX7_push_13 rfl ?_
    refine wp_getf (pc := 14) dX7_push_14 gf_X7_92 (by repeat (first | assumption | exact hset_eq | refine hset_at (by omega) ?_)) (by rfl) ?_
    refine wp_iload_n (pc := 17) dX7_push_17 rfl ?_
    refine wp_iast (pc := 18) dX7_push_18 (by repeat (first | assumption | exact hset_eq | refine hset_at (by omega) ?_)) (by omega) (by omega) (by decide) ?_
    refine wp_aload_n (pc := 19) dX7_push_19 rfl ?_
    refine wp_dup (pc := 20) dX7_push_20 rfl ?_
    refine wp_getf (pc := 21) dX7_push_21 gf_X7_92 (by repeat (first | assumption | exact hset_eq | refine hset_at (by omega) ?_)) (by rfl) ?_
    refine wp_iconst (pc := 24) dX7_push_24 ?_
    refine wp_iadd (pc := 25) dX7_push_25 ?_
    refine wp_putf (pc := 26) dX7_push_26 pf_X7_92 (by repeat (first | assumption | exact hset_eq | refine hset_at (by omega) ?_)) (by first | decide | exact Nat.lt_of_sub_pos (by decide) | simp) rfl rfl (by first | decide | intro h; cases h) ?_
    refine wp_vr dX7_push_29 rfl (by decide) (by decide) ⟨⟨ln, at_, Sg, St, updI Sk (s.length : Int) a, hset_eq, (by repeat (first | assumption | exact hset_eq | refine hset_at (by omega) ?_)), (by repeat (first | assumption | exact hset_eq | refine hset_at (by omega) ?_)), (by repeat (first | assumption | exact hset_eq | refine hset_at (by omega) ?_)), hcs, hSt, hl, fun j hj => ?_⟩, (by repeat (first | exact SO.rf | assumption | refine SO.set ?_ (by omega) (by omega)))⟩
    match j, hj with
    | 0, hj =>
      show updI Sk (s.length : Int) a (((s.length + 1) - 1 - 0 : Nat) : Int) = a
      rw [show (s.length + 1) - 1 - 0 = s.length by omega, updI_eq]
    | j + 1, hj =>
      have hj' : j < s.length := by simpa using hj
      show updI Sk (s.length : Int) a (((s.length + 1) - 1 - (j + 1) : Nat) : Int) = s.getD j 0
      rw [updI_ne (by omega), show (s.length + 1) - 1 - (j + 1) = s.length - 1 - j by omega]
      exact hSk j hj'
theorem sp_Rule_pop (k : RunAt hp R cs s) : Sp g MX7_pop (rm 0 0 0) [.ref R] hp (Eff (.int (I (s.headD 0))) (fun hp2 => RunAt hp2 R cs s.tail ∧ SO hp hp2 R (R + 4))) := by
  have k' := k
  obtain ⟨ln, at_, Sg, St, Sk, r0, r1, r2, r3, hcs, hSt, hs, hSk⟩ := k
  cases s with
  | nil =>
    refine Sp_mk rfl (Nat.le_of_ble_eq_true rfl) ?_
    show wp g _ _ _ 0 0 0 [some (.ref R)] [] hp
    refine wp_aload_n (pc := 0) dX7_pop_0 rfl ?_
    refine wp_getf (pc := 1) dX7_pop_1 gf_X7_92 (by repeat (first | assumption | exact hset_eq | refine hset_at (by omega) ?_)) (by rfl) ?_
    refine wp_if_gt (pc := 4) 9 dX7_pop_4 (by decide) (by omega) (fun c4 => ?_) (fun c4 => ?_)
    ·
      exact absurd c4 (by simp)
    ·
      refine wp_iconst (pc := 7) dX7_pop_7 ?_
      exact wp_ir (pc := 8) dX7_pop_8 rfl (by decide) (by decide) (by first | rfl | omega) ⟨k', SO.rf⟩
  | cons v s =>
    have e0 : ((v :: s).length : Int) - 1 = (s.length : Int) := by simp
    have hs' : s.length + 1 ≤ 40 := hs
    refine Sp_mk rfl (Nat.le_of_ble_eq_true rfl) ?_
    show wp g _ _ _ 0 0 0 [some (.ref R)] [] hp
    refine wp_aload_n (pc := 0) dX7_pop_0 rfl ?_
    refine wp_getf (pc := 1) dX7_pop_1 gf_X7_92 (by repeat (first | assumption | exact hset_eq | refine hset_at (by omega) ?_)) (by rfl) ?_
    refine wp_if_gt (pc := 4) 9 dX7_pop_4 (by decide) (by simp; omega) (fun c4 => ?_) (fun c4 => ?_)
    ·
      refine wp_aload_n (pc := 9) dX7_pop_9 rfl ?_
      refine wp_dup (pc := 10) dX7_pop_10 rfl ?_
      refine wp_getf (pc := 11) dX7_pop_11 gf_X7_92 (by repeat (first | assumption | exact hset_eq | refine hset_at (by omega) ?_)) (by rfl) ?_
      refine wp_iconst (pc := 14) dX7_pop_14 ?_
      refine wp_isub (pc := 15) dX7_pop_15 ?_
      refine wp_topE e0 ?_
      refine wp_putf (pc := 16) dX7_pop_16 pf_X7_92 (by repeat (first | assumption | exact hset_eq | refine hset_at (by omega) ?_)) (by first | decide | exact Nat.lt_of_sub_pos (by decide) | simp) rfl rfl (by first | decide | intro h; cases h) ?_
      refine wp_aload_n (pc := 19) dX7_pop_19 rfl ?_
      refine wp_getf (pc := 20) dX7_pop_20 gf_X7_18 (by repeat (first | assumption | exact hset_eq | refine hset_at (by omega) ?_)) (by rfl) ?_
      refine wp_aload_n (pc := 23) dX7_pop_23 rfl ?_
      refine wp_getf (pc := 24) dX7_pop_24 gf_X7_92 (by repeat (first | assumption | exact hset_eq | refine hset_at (by omega) ?_)) (by rfl) ?_
      refine wp_iald (pc := 27) dX7_pop_27 (by repeat (first | assumption | exact hset_eq | refine hset_at (by omega) ?_)) (by omega) (by omega) (by decide) ?_
      exact wp_ir (pc := 28) dX7_pop_28 rfl (by decide) (by decide) (by have := hSk 0 (by simp); simpa using this) ⟨⟨ln, at_, Sg, St, Sk, hset_eq, (by repeat (first | assumption | exact hset_eq | refine hset_at (by omega) ?_)), (by repeat (first | assumption | exact hset_eq | refine hset_at (by omega) ?_)), (by repeat (first | assumption | exact hset_eq | refine hset_at (by omega) ?_)), hcs, hSt, by show s.length ≤ 40; omega, fun j hj => by have := hSk (j + 1) (by simp; exact hj); rw [show (v :: s).length - 1 - (j + 1) = s.length - 1 - j by simp; omega] at this; simpa using this⟩, (by repeat (first | exact SO.rf | assumption | refine SO.set ?_ (by omega) (by omega)))⟩
    ·
      exact absurd c4 (by simp)
/-! the steps as a function -/
def stp (e : Int → Int) (c : Int) (s : List Int) : List Int := if 0 ≤ c then c :: s else if isT (-c) then e (-c) :: s else if c = -126 then nz (-(s.headD 0)) :: s.tail else jn (-c) (s.tail.headD 0) (s.headD 0) :: s.tail.tail
def ex (e : Int → Int) : List Int → List Int → List Int
  | [], s => s
  | c :: cs, s => ex e cs (stp e c s)
theorem ex_app (e : Int → Int) : ∀ (a b s : List Int), ex e (a ++ b) s = ex e b (ex e a s)
  | [], b, s => rfl
  | c :: a, b, s => ex_app e a b (stp e c s)
/-- a step that a rule may hold -/
def okc (c : Int) : Prop := 0 ≤ c ∧ c ≤ 999 ∨ isT (-c) ∨ c = -126 ∨ (-c = 43 ∨ -c = 45 ∨ -c = 42 ∨ -c = 47 ∨ -c = 60 ∨ -c = 62 ∨ -c = 61)
def okl (s : List Int) : Prop := ∀ v ∈ s, InR v
theorem okl_hd (h : okl s) : InR (s.headD 0) := by
  cases s with
  | nil => show InR 0; omega
  | cons v s => exact h v List.mem_cons_self
theorem okl_tl (h : okl s) : okl s.tail := fun v hv => h v (List.mem_of_mem_tail hv)
theorem okl_cons (hv : InR a) (h : okl s) : okl (a :: s) := fun v h' => (List.mem_cons.mp h').elim (fun e => by rw [e]; exact hv) (h v)
theorem jn_in (o a b : Int) : InR (jn o a b) := nz_in _
theorem stp_ok {e : Int → Int} (he : ∀ c, 0 ≤ e c ∧ e c ≤ 99) (hc : okc c) (h : okl s) : okl (stp e c s) ∧ (stp e c s).length ≤ s.length + 1 := by
  unfold stp
  have := he (-c)
  split
  · refine ⟨okl_cons ?_ h, by simp⟩
    unfold okc at hc
    omega
  · split
    · exact ⟨okl_cons (by omega) h, by simp⟩
    · split
      · exact ⟨okl_cons (nz_in _) (okl_tl h), by rw [List.length_cons, List.length_tail]; omega⟩
      · exact ⟨okl_cons (jn_in _ _ _) (okl_tl (okl_tl h)), by rw [List.length_cons, List.length_tail, List.length_tail]; omega⟩
theorem ex_ok {e : Int → Int} (he : ∀ c, 0 ≤ e c ∧ e c ≤ 99) : ∀ (cs s : List Int), (∀ c ∈ cs, okc c) → okl s → okl (ex e cs s) ∧ (ex e cs s).length ≤ s.length + cs.length
  | [], s, _, h => ⟨h, by simp [ex]⟩
  | c :: cs, s, hc, h => by
    have h1 := stp_ok he (hc c List.mem_cons_self) h
    have h2 := ex_ok he cs (stp e c s) (fun x hx => hc x (List.mem_cons_of_mem _ hx)) h1.1
    refine ⟨h2.1, ?_⟩
    show (ex e cs (stp e c s)).length ≤ _
    rw [List.length_cons]
    omega
theorem take_succ_ex (e : Int → Int) {cs : List Int} {i : Nat} (hi : i < cs.length) : ex e (cs.take (i + 1)) [] = stp e (cs.getD i 0) (ex e (cs.take i) []) := by
  have h : cs.take (i + 1) = cs.take i ++ [cs.getD i 0] := by
    rw [List.take_add_one]
    congr 1
    simp [List.getD, hi]
  rw [h, ex_app]
  rfl
/-- WORDS of p of q by the steps cs -/
def wv (cs : List Int) (T : Nat → Int → Int) (p q : Int) : Int := mx 0 (mi 9 ((ex (env T p q) cs []).headD 0))
theorem wv_in (cs : List Int) (T : Nat → Int → Int) (p q : Int) : 0 ≤ wv cs T p q ∧ wv cs T p q ≤ 9 := by unfold wv mx mi; split <;> split <;> omega
theorem lp_words (hI : TI T N) (ra : 0 ≤ a ∧ a < 6) (rb : 0 ≤ b ∧ b < 6) (hcs : cs.length ≤ 40) (hok : ∀ c ∈ cs, okc c) (hd : h + 8 ≤ R ∨ R + 4 ≤ h) (hT : TownAt hp h T) : ∀ (m i : Nat), cs.length < i + m → i ≤ cs.length → ∀ (hp2 : Hp) (k : RunAt hp2 R cs (ex (env T a b) (cs.take i) [])) (hS : SO hp hp2 R (R + 4)), wp g MX7_words (rm 2 0 0) (Eff (.int (I (wv cs T a b))) (fun hp2 => (∃ s, RunAt hp2 R cs s) ∧ SO hp hp2 R (R + 4))) 0 0 8 [some (.ref R), some (.ref h), some (.int (I a)), some (.int (I b)), some (.int (I (i : Int))), none, none] [] hp2 := by
  intro m
  induction m with
  | zero => intro i h1 h2; exact absurd h1 (by omega)
  | succ m ih =>
    intro i h1 h2 hp2 k hS
    have he := fun c => env_in hI a b c
    have hex := ex_ok he (cs.take i) [] (fun c hc => hok c (List.mem_of_mem_take hc)) (fun v hv => by cases hv)
    have hlen : (ex (env T a b) (cs.take i) []).length ≤ i := by have := hex.2; rw [List.length_take] at this; simp at this; omega
    have k' := k
    obtain ⟨ln, at_, Sg, St, Sk, r0, r1, r2, r3, hcs2, hSt, hs, hSk⟩ := k
    have hhd := okl_hd hex.1
    have hT2 := hT.fr hS (by omega)
    refine wp_iload (pc := 8) dX7_words_8 rfl ?_
    refine wp_aload_n (pc := 10) dX7_words_10 rfl ?_
    refine wp_getf (pc := 11) dX7_words_11 gf_X7_58 (by repeat (first | assumption | exact hset_eq | refine hset_at (by omega) ?_)) (by rfl) ?_
    refine wp_icmp_ge (pc := 14) 112 dX7_words_14 (by decide) (by omega) (by omega) (fun c14 => ?_) (fun c14 => ?_)
    ·
      have e : i = cs.length := by omega
      rw [e, List.take_length] at k' hhd -- go
      refine wp_aload_n (pc := 112) dX7_words_112 rfl ?_
      refine wp_Vs (pc := 113) dX7_words_113 cl_X7_103 (sp_Rule_pop k') rfl rfl (by repeat (first | assumption | exact hset_eq | refine hset_at (by omega) ?_)) (by rfl) (by decide) (Nat.le_of_ble_eq_true rfl) (fun hp113 e113 => ?_)
      refine wp_bipush (pc := 116) (y := 9) dX7_words_116 (by decide) ?_
      refine wp_Sp (pc := 118) dX7_words_118 cl_X7_110 (sp_D_within (by first | assumption | omega) (by first | assumption | omega)) rfl rfl (by decide) (Nat.le_of_ble_eq_true rfl) ?_
      exact wp_ir (pc := 121) dX7_words_121 rfl (by decide) (by decide) (by first | rfl | omega) ⟨⟨_, e113.1⟩, hS.tr e113.2⟩
    ·
      have hci := hok _ (show cs.getD i 0 ∈ cs by simp [List.getD, show i < cs.length by omega])
      have etk := take_succ_ex (env T a b) (cs := cs) (i := i) (by omega)
      have eSt := hSt i (by omega)
      have rci : -200 ≤ cs.getD i 0 ∧ cs.getD i 0 ≤ 999 := by unfold okc isT at hci; omega -- go
      refine wp_aload_n (pc := 17) dX7_words_17 rfl ?_
      refine wp_getf (pc := 18) dX7_words_18 gf_X7_15 (by repeat (first | assumption | exact hset_eq | refine hset_at (by omega) ?_)) (by rfl) ?_
      refine wp_iload (pc := 21) dX7_words_21 rfl ?_
      refine wp_iald (pc := 23) dX7_words_23 r2 (by omega) (by omega) (by decide) ?_
      refine wp_topE eSt ?_
      refine wp_istore (pc := 24) dX7_words_24 (by decide) ?_
      refine wp_iload (pc := 26) dX7_words_26 rfl ?_
      refine wp_if_lt (pc := 28) 40 dX7_words_28 (by decide) (by omega) (fun c28 => ?_) (fun c28 => ?_)
      ·
        refine wp_iload (pc := 40) dX7_words_40 rfl ?_
        refine wp_ineg (pc := 42) dX7_words_42 ?_
        refine wp_Sp (pc := 43) dX7_words_43 cl_X7_89 (sp_Rule_isThing (by first | assumption | omega)) rfl rfl (by decide) (Nat.le_of_ble_eq_true rfl) ?_
        first | refine wp_ifb_eq (pc := 46) 65 dX7_words_46 (by decide) (fun c46 => ?_) (fun c46 => ?_) | refine wp_if_eq (pc := 46) 65 dX7_words_46 (by decide) (by omega) (fun c46 => ?_) (fun c46 => ?_)
        ·
          refine wp_iload (pc := 65) dX7_words_65 rfl ?_
          refine wp_bipush (pc := 67) (y := (-126)) dX7_words_67 (by decide) ?_
          refine wp_icmp_ne (pc := 69) 84 dX7_words_69 (by decide) (by omega) (by omega) (fun c69 => ?_) (fun c69 => ?_)
          ·
            have es : stp (env T a b) (cs.getD i 0) (ex (env T a b) (cs.take i) []) = jn (-cs.getD i 0) ((ex (env T a b) (cs.take i) []).tail.headD 0) ((ex (env T a b) (cs.take i) []).headD 0) :: (ex (env T a b) (cs.take i) []).tail.tail := by unfold stp; rw [if_neg (by omega), if_neg c46, if_neg c69]
            rw [← etk] at es
            have hop : -cs.getD i 0 = 43 ∨ -cs.getD i 0 = 45 ∨ -cs.getD i 0 = 42 ∨ -cs.getD i 0 = 47 ∨ -cs.getD i 0 = 60 ∨ -cs.getD i 0 = 62 ∨ -cs.getD i 0 = 61 := by unfold okc at hci; rcases hci with z | z | z | z; omega; exact absurd z c46; exact absurd z c69; exact z
            have hhd2 := okl_hd (okl_tl hex.1) -- go
            refine wp_aload_n (pc := 84) dX7_words_84 rfl ?_
            refine wp_Vs (pc := 85) dX7_words_85 cl_X7_103 (sp_Rule_pop k') rfl rfl (by repeat (first | assumption | exact hset_eq | refine hset_at (by omega) ?_)) (by rfl) (by decide) (Nat.le_of_ble_eq_true rfl) (fun hp85 e85 => ?_)
            obtain ⟨k85, s85⟩ := e85
            have k85' := k85
            obtain ⟨_, _, _, _, _, q85, _⟩ := k85'
            refine wp_istore (pc := 88) dX7_words_88 (by decide) ?_
            refine wp_aload_n (pc := 90) dX7_words_90 rfl ?_
            refine wp_iload (pc := 91) dX7_words_91 rfl ?_
            refine wp_ineg (pc := 93) dX7_words_93 ?_
            refine wp_aload_n (pc := 94) dX7_words_94 rfl ?_
            refine wp_Vs (pc := 95) dX7_words_95 cl_X7_103 (sp_Rule_pop k85) rfl rfl q85 (by rfl) (by decide) (Nat.le_of_ble_eq_true rfl) (fun hp95 e95 => ?_)
            obtain ⟨k95, s95⟩ := e95
            have k95' := k95
            obtain ⟨_, _, _, _, _, q95, _⟩ := k95'
            refine wp_iload (pc := 98) dX7_words_98 rfl ?_
            refine wp_Sp (pc := 100) dX7_words_100 cl_X7_106 (sp_Rule_join hop hhd2 hhd) rfl rfl (by decide) (Nat.le_of_ble_eq_true rfl) ?_
            refine wp_Vn (pc := 103) dX7_words_103 cl_X7_95 (sp_Rule_push k95 (by rw [List.length_tail, List.length_tail]; omega)) rfl rfl q95 (by rfl) (by decide) (Nat.le_of_ble_eq_true rfl) (fun hp103 e103 => ?_)
            obtain ⟨k2, s2⟩ := e103
            rw [← es] at k2
            have s2 := (s85.tr s95).tr s2
            refine wp_iinc (pc := 106) dX7_words_106 rfl (by decide) ?_
            refine wp_goto (pc := 109) 8 dX7_words_109 (by decide) ?_
            refine wp_ls ?_ (ih (i + 1) (by omega) (by omega) _ k2 (hS.tr s2))
            repeat' (first | exact LE_0 | refine LE_s rfl ?_ | refine LE_s (I_c (by first | omega | (simp only [sm]; omega))) ?_ | refine LE_s (J_c (by first | omega | exact Int.pow_succ _ _ | exact (Int.pow_succ _ _).symm | exact (Int.pow_zero _).symm | (simp only [sm]; omega))) ?_ | refine LE_n ?_)
          ·
            have es : stp (env T a b) (cs.getD i 0) (ex (env T a b) (cs.take i) []) = nz (-((ex (env T a b) (cs.take i) []).headD 0)) :: (ex (env T a b) (cs.take i) []).tail := by unfold stp; rw [if_neg (by omega), if_neg c46, if_pos c69]
            rw [← etk] at es -- go
            refine wp_aload_n (pc := 72) dX7_words_72 rfl ?_
            refine wp_aload_n (pc := 73) dX7_words_73 rfl ?_
            refine wp_Vs (pc := 74) dX7_words_74 cl_X7_103 (sp_Rule_pop k') rfl rfl (by repeat (first | assumption | exact hset_eq | refine hset_at (by omega) ?_)) (by rfl) (by decide) (Nat.le_of_ble_eq_true rfl) (fun hp74 e74 => ?_)
            obtain ⟨k74, s74⟩ := e74
            have k74' := k74
            obtain ⟨_, _, _, _, _, q74, _⟩ := k74'
            refine wp_ineg (pc := 77) dX7_words_77 ?_
            refine wp_topx (nz_I _).symm ?_
            refine wp_Vn (pc := 78) dX7_words_78 cl_X7_95 (sp_Rule_push k74 (by rw [List.length_tail]; omega)) rfl rfl q74 (by rfl) (by decide) (Nat.le_of_ble_eq_true rfl) (fun hp78 e78 => ?_)
            obtain ⟨k2, s2⟩ := e78
            rw [← es] at k2
            have s2 := s74.tr s2
            refine wp_goto (pc := 81) 106 dX7_words_81 (by decide) ?_
            refine wp_iinc (pc := 106) dX7_words_106 rfl (by decide) ?_
            refine wp_goto (pc := 109) 8 dX7_words_109 (by decide) ?_
            refine wp_ls ?_ (ih (i + 1) (by omega) (by omega) _ k2 (hS.tr s2))
            repeat' (first | exact LE_0 | refine LE_s rfl ?_ | refine LE_s (I_c (by first | omega | (simp only [sm]; omega))) ?_ | refine LE_s (J_c (by first | omega | exact Int.pow_succ _ _ | exact (Int.pow_succ _ _).symm | exact (Int.pow_zero _).symm | (simp only [sm]; omega))) ?_ | refine LE_n ?_)
        ·
          have es : stp (env T a b) (cs.getD i 0) (ex (env T a b) (cs.take i) []) = env T a b (-cs.getD i 0) :: ex (env T a b) (cs.take i) [] := by unfold stp; rw [if_neg (by omega), if_pos c46]
          rw [← etk] at es -- go
          refine wp_aload_n (pc := 49) dX7_words_49 rfl ?_
          refine wp_iload (pc := 50) dX7_words_50 rfl ?_
          refine wp_ineg (pc := 52) dX7_words_52 ?_
          refine wp_aload_n (pc := 53) dX7_words_53 rfl ?_
          refine wp_iload_n (pc := 54) dX7_words_54 rfl ?_
          refine wp_iload_n (pc := 55) dX7_words_55 rfl ?_
          refine wp_Sp (pc := 56) dX7_words_56 cl_X7_99 (sp_Rule_thing (N := N) hT2 hI c46 ra rb) rfl rfl (by decide) (Nat.le_of_ble_eq_true rfl) ?_
          refine wp_Vn (pc := 59) dX7_words_59 cl_X7_95 (sp_Rule_push k' (by omega)) rfl rfl (by repeat (first | assumption | exact hset_eq | refine hset_at (by omega) ?_)) (by rfl) (by decide) (Nat.le_of_ble_eq_true rfl) (fun hp59 e59 => ?_)
          obtain ⟨k2, s2⟩ := e59
          rw [← es] at k2
          refine wp_goto (pc := 62) 106 dX7_words_62 (by decide) ?_
          refine wp_iinc (pc := 106) dX7_words_106 rfl (by decide) ?_
          refine wp_goto (pc := 109) 8 dX7_words_109 (by decide) ?_
          refine wp_ls ?_ (ih (i + 1) (by omega) (by omega) _ k2 (hS.tr s2))
          repeat' (first | exact LE_0 | refine LE_s rfl ?_ | refine LE_s (I_c (by first | omega | (simp only [sm]; omega))) ?_ | refine LE_s (J_c (by first | omega | exact Int.pow_succ _ _ | exact (Int.pow_succ _ _).symm | exact (Int.pow_zero _).symm | (simp only [sm]; omega))) ?_ | refine LE_n ?_)
      ·
        have es : stp (env T a b) (cs.getD i 0) (ex (env T a b) (cs.take i) []) = cs.getD i 0 :: ex (env T a b) (cs.take i) [] := if_pos (by omega)
        rw [← etk] at es -- go
        refine wp_aload_n (pc := 31) dX7_words_31 rfl ?_
        refine wp_iload (pc := 32) dX7_words_32 rfl ?_
        refine wp_Vn (pc := 34) dX7_words_34 cl_X7_95 (sp_Rule_push k' (by omega)) rfl rfl (by repeat (first | assumption | exact hset_eq | refine hset_at (by omega) ?_)) (by rfl) (by decide) (Nat.le_of_ble_eq_true rfl) (fun hp34 e34 => ?_)
        obtain ⟨k2, s2⟩ := e34
        rw [← es] at k2
        refine wp_goto (pc := 37) 106 dX7_words_37 (by decide) ?_
        refine wp_iinc (pc := 106) dX7_words_106 rfl (by decide) ?_
        refine wp_goto (pc := 109) 8 dX7_words_109 (by decide) ?_
        refine wp_ls ?_ (ih (i + 1) (by omega) (by omega) _ k2 (hS.tr s2))
        repeat' (first | exact LE_0 | refine LE_s rfl ?_ | refine LE_s (I_c (by first | omega | (simp only [sm]; omega))) ?_ | refine LE_s (J_c (by first | omega | exact Int.pow_succ _ _ | exact (Int.pow_succ _ _).symm | exact (Int.pow_zero _).symm | (simp only [sm]; omega))) ?_ | refine LE_n ?_)
/-- a rule that is ready to speak, by its steps -/
def RuleAt (hp : Hp) (R : Nat) (cs : List Int) : Prop := (∃ s, RunAt hp R cs s) ∧ ∀ c ∈ cs, okc c
theorem RuleAt.off (k : RuleAt hp R cs) (hS : ∀ x, R ≤ x → x < R + 4 → hp2.2 x = hp.2 x) : RuleAt hp2 R cs := by
  obtain ⟨⟨s, k⟩, hok⟩ := k
  exact ⟨⟨s, k.off hS⟩, hok⟩
theorem RuleAt.fr (k : RuleAt hp R cs) {lo hi : Nat} (hS : SO hp hp2 lo hi) (hd : hi ≤ R ∨ R + 4 ≤ lo) : RuleAt hp2 R cs := k.off fun x _ _ => hS.2 x (by omega)
theorem sp_Rule_words (k : RuleAt hp R cs) (hT : TownAt hp h T) (hI : TI T N) (ra : 0 ≤ a ∧ a < 6) (rb : 0 ≤ b ∧ b < 6) (hd : h + 8 ≤ R ∨ R + 4 ≤ h) : Sp g MX7_words (rm 2 0 0) [.ref R, .ref h, .int (I a), .int (I b)] hp (Eff (.int (I (wv cs T a b))) (fun hp2 => RuleAt hp2 R cs ∧ SO hp hp2 R (R + 4))) := by
  obtain ⟨⟨s, k⟩, hok⟩ := k
  obtain ⟨ln, at_, Sg, St, Sk, r0, r1, r2, r3, hcs2, hSt, hs, hSk⟩ := k
  refine Sp_mk rfl (Nat.le_of_ble_eq_true rfl) ?_
  show wp g _ _ _ 0 0 0 [some (.ref R), some (.ref h), some (.int (I a)), some (.int (I b)), none, none, none] [] hp
  refine wp_aload_n (pc := 0) dX7_words_0 rfl ?_
  refine wp_iconst (pc := 1) dX7_words_1 ?_
  refine wp_putf (pc := 2) dX7_words_2 pf_X7_92 (by repeat (first | assumption | exact hset_eq | refine hset_at (by omega) ?_)) (by first | decide | exact Nat.lt_of_sub_pos (by decide) | simp) rfl rfl (by first | decide | intro h; cases h) ?_
  refine wp_iconst (pc := 5) dX7_words_5 ?_
  refine wp_istore (pc := 6) dX7_words_6 (by decide) ?_
  refine wp_ls ?_ (wp_post (fun u hq z => ?_) (lp_words (hp := hp) hI ra rb hcs2 hok hd hT (cs.length + 1) 0 (by omega) (by omega) _ ⟨ln, at_, Sg, St, Sk, hset_eq, (by repeat (first | assumption | exact hset_eq | refine hset_at (by omega) ?_)), (by repeat (first | assumption | exact hset_eq | refine hset_at (by omega) ?_)), (by repeat (first | assumption | exact hset_eq | refine hset_at (by omega) ?_)), hcs2, hSt, Nat.zero_le _, fun j hj => by cases hj⟩ (by repeat (first | exact SO.rf | assumption | refine SO.set ?_ (by omega) (by omega)))))
  · repeat' (first | exact LE_0 | refine LE_s rfl ?_ | refine LE_s (I_c (by first | omega | (simp only [sm]; omega))) ?_ | refine LE_s (J_c (by first | omega | exact Int.pow_succ _ _ | exact (Int.pow_succ _ _).symm | exact (Int.pow_zero _).symm | (simp only [sm]; omega))) ?_ | refine LE_n ?_)
  · obtain ⟨z1, z2, z3⟩ := z
    exact ⟨z1, ⟨z2, hok⟩, z3⟩
end RA

