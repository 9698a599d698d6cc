/-! Clock -/
section CL
variable {g : GT} {hp hp2 : Hp} {C R h N n k i j s : Nat} {T : Nat → Int → Int} {F f f' : Int → Int} {a b c x y p : Int} {cs : List Int}
def ClockAt (hp : Hp) (C : Nat) : Prop := hp.2 C = some (.inr (.inr (0, [.ref (C + 1)]))) ∧ ∃ F, hp.2 (C + 1) = some (.inl (.int, 36, F)) ∧ ∀ i, 0 ≤ F i ∧ F i ≤ 9
theorem ClockAt.off (hC : ClockAt hp C) (hS : ∀ x, C ≤ x → x < C + 2 → hp2.2 x = hp.2 x) : ClockAt hp2 C := by
  obtain ⟨c0, F, c1, rF⟩ := hC
  exact ⟨(hS _ (by omega) (by omega)).trans c0, F, (hS _ (by omega) (by omega)).trans c1, rF⟩
theorem ClockAt.fr (hC : ClockAt hp C) {lo hi : Nat} (hS : SO hp hp2 lo hi) (hd : hi ≤ C ∨ C + 2 ≤ lo) : ClockAt hp2 C := hC.off fun x _ _ => hS.2 x (by omega)
/-- the sum of what a set says of p, by the words W -/
def wof (W : Int → Int) (s : Nat) (p : Int) (n : Nat) : Int := sm (fun i => if s.testBit i.toNat then W (i * 6 + p) else 0) n
theorem lp_wordsOf (c0 : hp.2 C = some (.inr (.inr (0, [.ref (C + 1)])))) (c1 : hp.2 (C + 1) = some (.inl (.int, 36, F))) (rp : 0 ≤ p ∧ p < 6) (hs : s < 64) (hN : N ≤ 6) : ∀ (m i : Nat), N < i + m → i ≤ N → wp g MX0_wordsOf (rm 1 0 0) (Pur (.int (I (wof F s p N))) hp) 0 0 6 [some (.ref C), some (.int (I p)), some (.int (I (s : Int))), some (.int (I (N : Int))), some (.int (I (wof F s p i))), some (.int (I (i : Int)))] [] hp := by
  intro m
  induction m with
  | zero => intro i h1 h2; exact absurd h1 (by omega)
  | succ m ih =>
    intro i h1 h2
    refine wp_iload (pc := 6) dX0_wordsOf_6 rfl ?_
    refine wp_iload_n (pc := 8) dX0_wordsOf_8 rfl ?_
    refine wp_icmp_ge (pc := 9) 50 dX0_wordsOf_9 (by decide) (by omega) (by omega) (fun c9 => ?_) (fun c9 => ?_)
    ·
      have e : i = N := by omega
      subst e -- go
      refine wp_iload (pc := 50) dX0_wordsOf_50 rfl ?_
      exact wp_ir (pc := 52) dX0_wordsOf_52 rfl (by decide) (by decide) (by first | rfl | omega) rfl
    ·
      refine wp_iload (pc := 12) dX0_wordsOf_12 rfl ?_
      refine wp_bipush (pc := 14) (y := 6) dX0_wordsOf_14 (by decide) ?_
      refine wp_icmp_ge (pc := 16) 50 dX0_wordsOf_16 (by decide) (by omega) (by omega) (fun c16 => ?_) (fun c16 => ?_)
      ·
        omega
      ·
        refine wp_iload (pc := 19) dX0_wordsOf_19 rfl ?_
        refine wp_iload_n (pc := 21) dX0_wordsOf_21 rfl ?_
        refine wp_Sp (pc := 22) dX0_wordsOf_22 cl_X0_78 (sp_D_isIn (by first | assumption | omega) (by first | assumption | omega)) rfl rfl (by decide) (Nat.le_of_ble_eq_true rfl) ?_
        first | refine wp_ifb_eq (pc := 25) 44 dX0_wordsOf_25 (by decide) (fun c25 => ?_) (fun c25 => ?_) | refine wp_if_eq (pc := 25) 44 dX0_wordsOf_25 (by decide) (by omega) (fun c25 => ?_) (fun c25 => ?_)
        ·
          have e : wof F s p (i + 1) = wof F s p i := by show sm _ i + (if _ then _ else _) = _; rw [if_neg (by rw [Int.toNat_natCast]; exact c25)]; exact Int.add_zero _
          rw [← e] -- go
          refine wp_iinc (pc := 44) dX0_wordsOf_44 rfl (by decide) ?_
          refine wp_goto (pc := 47) 6 dX0_wordsOf_47 (by decide) ?_
          refine wp_ls ?_ (ih (i + 1) (by omega) (by omega))
          · repeat' (first | exact LE_0 | refine LE_s rfl ?_ | refine LE_s (I_c (by first | omega | (simp only [sm]; omega))) ?_ | refine LE_s (J_c (by first | omega | exact Int.pow_succ _ _ | exact (Int.pow_succ _ _).symm | exact (Int.pow_zero _).symm | (simp only [sm]; omega))) ?_ | refine LE_n ?_)
        ·
          have e : wof F s p (i + 1) = wof F s p i + F ((i : Int) * 6 + p) := by show sm _ i + (if _ then _ else _) = _; rw [if_pos (by rw [Int.toNat_natCast]; exact c25)]; rfl
          skip -- go
          refine wp_iload (pc := 28) dX0_wordsOf_28 rfl ?_
          refine wp_aload_n (pc := 30) dX0_wordsOf_30 rfl ?_
          refine wp_getf (pc := 31) dX0_wordsOf_31 gf_X0_9 (by repeat (first | assumption | exact hset_eq | refine hset_at (by omega) ?_)) (by rfl) ?_
          refine wp_iload (pc := 34) dX0_wordsOf_34 rfl ?_
          refine wp_iload_n (pc := 36) dX0_wordsOf_36 rfl ?_
          refine wp_Sp (pc := 37) dX0_wordsOf_37 cl_X0_50 sp_D_pair rfl rfl (by decide) (Nat.le_of_ble_eq_true rfl) ?_
          refine wp_iald (pc := 40) dX0_wordsOf_40 (by repeat (first | assumption | exact hset_eq | refine hset_at (by omega) ?_)) (by omega) (by omega) (by decide) ?_
          refine wp_iadd (pc := 41) dX0_wordsOf_41 ?_
          rw [← e]
          refine wp_istore (pc := 42) dX0_wordsOf_42 (by decide) ?_
          refine wp_iinc (pc := 44) dX0_wordsOf_44 rfl (by decide) ?_
          refine wp_goto (pc := 47) 6 dX0_wordsOf_47 (by decide) ?_
          refine wp_ls ?_ (ih (i + 1) (by omega) (by omega))
          · repeat' (first | exact LE_0 | refine LE_s rfl ?_ | refine LE_s (I_c (by first | omega | (simp only [sm]; omega))) ?_ | refine LE_s (J_c (by first | omega | exact Int.pow_succ _ _ | exact (Int.pow_succ _ _).symm | exact (Int.pow_zero _).symm | (simp only [sm]; omega))) ?_ | refine LE_n ?_)
theorem sp_Clock_wordsOf (c0 : hp.2 C = some (.inr (.inr (0, [.ref (C + 1)])))) (c1 : hp.2 (C + 1) = some (.inl (.int, 36, F))) (rp : 0 ≤ p ∧ p < 6) (hs : s < 64) (hN : N ≤ 6) : Sp g MX0_wordsOf (rm 1 0 0) [.ref C, .int (I p), .int (I (s : Int)), .int (I (N : Int))] hp (Pur (.int (I (wof F s p N))) hp) := by
  refine Sp_mk rfl (Nat.le_of_ble_eq_true rfl) ?_
  show wp g _ _ _ 0 0 0 [some (.ref C), some (.int (I p)), some (.int (I (s : Int))), some (.int (I (N : Int))), none, none] [] hp
  refine wp_iconst (pc := 0) dX0_wordsOf_0 ?_
  refine wp_istore (pc := 1) dX0_wordsOf_1 (by decide) ?_
  refine wp_iconst (pc := 3) dX0_wordsOf_3 ?_
  refine wp_istore (pc := 4) dX0_wordsOf_4 (by decide) ?_
  refine wp_ls ?_ (lp_wordsOf c0 c1 rp hs hN (N + 1) 0 (by omega) (by omega))
  repeat' (first | exact LE_0 | refine LE_s rfl ?_ | refine LE_s (I_c (by first | omega | (simp only [sm]; omega))) ?_ | refine LE_s (J_c (by first | omega | exact Int.pow_succ _ _ | exact (Int.pow_succ _ _).symm | exact (Int.pow_zero _).symm | (simp only [sm]; omega))) ?_ | refine LE_n ?_)
/-- f' below i, f from there on -/
def upto (f f' : Int → Int) (i : Int) : Int → Int := fun x => if 0 ≤ x ∧ x < i then f' x else f x
theorem upto_at (h : 0 ≤ a) : upto f f' a a = f a := if_neg (by omega)
theorem upto_upd {i : Nat} {v : Int} (hv : v = f' (i : Int)) : updI (upto f f' (i : Int)) (i : Int) v = upto f f' ((i : Int) + 1) := by
  funext x
  unfold updI upto
  by_cases e : x = (i : Int)
  · rw [if_pos e, if_pos (by omega), hv, e]
  · rw [if_neg e]
    by_cases z : 0 ≤ x ∧ x < (i : Int)
    · rw [if_pos z, if_pos (by omega)]
    · rw [if_neg z, if_neg (by omega)]
theorem upto_skip {i : Nat} (hv : f (i : Int) = f' (i : Int)) : upto f f' (i : Int) = upto f f' ((i : Int) + 1) := by
  funext x
  unfold upto
  by_cases e : x = (i : Int)
  · rw [if_neg (by omega), if_pos (by omega), e, hv]
  · by_cases z : 0 ≤ x ∧ x < (i : Int)
    · rw [if_pos z, if_pos (by omega)]
    · rw [if_neg z, if_neg (by omega)]
theorem upto_0 : upto f f' 0 = f := by
  funext x
  unfold upto
  rw [if_neg (by omega)]
/-- hearing: honour and heard of one -/
def heH (W : Int → Int) (T : Nat → Int → Int) (N : Nat) : Int → Int := fun i => if T 5 i = 0 then T 3 i else mi 9999 (T 3 i + wof W (bits (lv T) N) i N)
def heB (T : Nat → Int → Int) (N : Nat) : Int → Int := fun i => if T 5 i = 0 then T 6 i else (((T 6 i).toNat ||| bits (lv T) N : Nat) : Int)
def two (T : Nat → Int → Int) (a b : Nat) (f f' : Int → Int) : Nat → Int → Int := fun k => if k = a then f else if k = b then f' else T k
def heT (W : Int → Int) (T : Nat → Int → Int) (N : Nat) (i : Int) : Nat → Int → Int := two T 3 6 (upto (T 3) (heH W T N) i) (upto (T 6) (heB T N) i)
theorem mi9 {x : Int} (h : 0 ≤ x) : 0 ≤ mi 9999 x ∧ mi 9999 x ≤ 9999 := by unfold mi; split <;> omega
theorem wof_in {W : Int → Int} (hW : ∀ i, 0 ≤ W i ∧ W i ≤ 9) (hN : N ≤ 6) : 0 ≤ wof W s p N ∧ wof W s p N ≤ 54 := by
  have := sm_range (f := fun i => if s.testBit i.toNat then W (i * 6 + p) else 0) (lo := 0) (hi := 9) (n := N) (fun i _ => by
    have := hW ((i : Int) * 6 + p)
    split <;> omega)
  unfold wof
  omega
theorem or64 {a b : Nat} (ha : a < 64) (hb : b < 64) : a ||| b < 64 := Nat.or_lt_two_pow (n := 6) ha hb
theorem heT_I {W : Int → Int} (hI : TI T N) (hW : ∀ i, 0 ≤ W i ∧ W i ≤ 9) : TI (heT W T N x) N := by
  obtain ⟨i8, iN, i0, i1, i2, i3, i4, i5, i6, i7⟩ := hI
  refine ⟨i8, iN, i0, i1, i2, fun y => ?_, i4, i5, fun y => ?_, i7⟩
  · show 0 ≤ upto (T 3) (heH W T N) x y ∧ upto (T 3) (heH W T N) x y ≤ 9999
    unfold upto heH
    split
    · split
      · exact i3 y
      · have := i3 y
        exact mi9 (by have := (wof_in (s := bits (lv T) N) (p := y) hW iN).1; omega)
    · exact i3 y
  · show 0 ≤ upto (T 6) (heB T N) x y ∧ upto (T 6) (heB T N) x y < 64
    have h6 := i6 y
    unfold upto heB
    split
    · split
      · exact h6
      · have := or64 (a := (T 6 y).toNat) (b := bits (lv T) N) (by omega) (bits64 iN)
        omega
    · exact h6
theorem lp_hear (hI : TI T N) (rF : ∀ i, 0 ≤ F i ∧ F i ≤ 9) (hd : h + 8 ≤ C ∨ C + 2 ≤ h) : ∀ (m i : Nat), N < i + m → i ≤ N → ∀ (hp2 : Hp) (c0 : hp2.2 C = some (.inr (.inr (0, [.ref (C + 1)])))) (c1 : hp2.2 (C + 1) = some (.inl (.int, 36, F))) (hT : TownAt hp2 h (heT F T N (i : Int))) (hS : SO hp hp2 h (h + 8)), wp g MX0_hear (rm 2 0 0) (Vod (fun hp2 => TownAt hp2 h (heT F T N (N : Int)) ∧ SO hp hp2 h (h + 8))) 0 0 7 [some (.ref C), some (.ref h), some (.int (I ((bits (lv T) N : Nat) : Int))), some (.int (I (i : Int)))] [] hp2 := by
  intro m
  induction m with
  | zero => intro i h1 h2; exact absurd h1 (by omega)
  | succ m ih =>
    intro i h1 h2 hp2 c0 c1 hT hS
    have hI2 := heT_I (x := (i : Int)) hI rF
    have hI' := hI
    obtain ⟨i8, iN, i0, i1, i2, i3, i4, i5, i6, i7⟩ := hI
    have hT' := hT
    obtain ⟨t0, t1, t2, t3, t4, t5, t6, t7⟩ := hT
    have a3 : heT F T N (i : Int) 3 (i : Int) = T 3 (i : Int) := upto_at (by omega)
    have a6 : heT F T N (i : Int) 6 (i : Int) = T 6 (i : Int) := upto_at (by omega)
    have a5 : heT F T N (i : Int) 5 = T 5 := rfl
    have a8 : heT F T N (i : Int) 8 0 = T 8 0 := rfl
    have h3 := i3 (i : Int)
    have h6 := i6 (i : Int)
    have hw := wof_in (s := bits (lv T) N) (p := (i : Int)) rF iN
    have hb := bits64 (P := lv T) iN
    refine wp_iload_n (pc := 7) dX0_hear_7 rfl ?_
    refine wp_aload_n (pc := 8) dX0_hear_8 rfl ?_
    refine wp_getf (pc := 9) dX0_hear_9 gf_X0_40 (by repeat (first | assumption | exact hset_eq | refine hset_at (by omega) ?_)) (by rfl) ?_
    refine wp_icmp_ge (pc := 12) 68 dX0_hear_12 (by decide) (by omega) (by omega) (fun c12 => ?_) (fun c12 => ?_)
    ·
      have e : i = N := by omega
      subst e -- go
      exact wp_vr (pc := 68) dX0_hear_68 rfl (by decide) (by decide) ⟨hT', hS⟩
    ·
      have e6 : T 6 (i : Int) = ((T 6 (i : Int)).toNat : Int) := by omega
      skip -- go
      refine wp_aload_n (pc := 15) dX0_hear_15 rfl ?_
      refine wp_iload_n (pc := 16) dX0_hear_16 rfl ?_
      refine wp_Vp (pc := 17) dX0_hear_17 cl_X0_43 (sp_Town_lives hT' hI2 (by omega) (by omega)) rfl rfl (by repeat (first | assumption | exact hset_eq | refine hset_at (by omega) ?_)) (by rfl) (by decide) (Nat.le_of_ble_eq_true rfl) ?_
      first | refine wp_ifb_ne (pc := 20) 62 dX0_hear_20 (by decide) (fun c20 => ?_) (fun c20 => ?_) | refine wp_if_ne (pc := 20) 62 dX0_hear_20 (by decide) (by omega) (fun c20 => ?_) (fun c20 => ?_)
      ·
        have c20 : T 5 (i : Int) = 0 := c20
        have e1 : heT F T N (i : Int) = heT F T N ((i : Int) + 1) := by
          unfold heT
          rw [upto_skip (f := T 3) (f' := heH F T N) (by unfold heH; rw [if_pos c20]), upto_skip (f := T 6) (f' := heB T N) (by unfold heB; rw [if_pos c20])]
        rw [e1] at hT' -- go
        refine wp_iinc (pc := 62) dX0_hear_62 rfl (by decide) ?_
        refine wp_goto (pc := 65) 7 dX0_hear_65 (by decide) ?_
        first
        | refine wp_ls ?_ (ih (i + 1) (by omega) (by omega) hp2 c0 c1 hT' hS)
          repeat' (first | exact LE_0 | refine LE_s rfl ?_ | refine LE_s (I_c (by first | omega | (simp only [sm]; omega))) ?_ | refine LE_s (J_c (by first | omega | exact Int.pow_succ _ _ | exact (Int.pow_succ _ _).symm | exact (Int.pow_zero _).symm | (simp only [sm]; omega))) ?_ | refine LE_n ?_)
        | refine wp_ls ?_ (ih (i + 1) (by omega) (by omega) _ (hset_at (by omega) (hset_at (by omega) c0)) (hset_at (by omega) (hset_at (by omega) c1)) (by have := (hT'.s3 (a := (i : Int)) (b := mi 9999 (T 3 (i : Int) + wof F (bits (lv T) N) (i : Int) N))).s6 (a := (i : Int)) (b := (((T 6 (i : Int)).toNat ||| bits (lv T) N : Nat) : Int)); rw [e1 _ _ (by unfold heH; rw [if_neg c20]) (by unfold heB; rw [if_neg c20])] at this; exact this) ((hS.set (by omega) (by omega)).set (by omega) (by omega)))
          repeat' (first | exact LE_0 | refine LE_s rfl ?_ | refine LE_s (I_c (by first | omega | (simp only [sm]; omega))) ?_ | refine LE_s (J_c (by first | omega | exact Int.pow_succ _ _ | exact (Int.pow_succ _ _).symm | exact (Int.pow_zero _).symm | (simp only [sm]; omega))) ?_ | refine LE_n ?_)
      ·
        have c20 : ¬ T 5 (i : Int) = 0 := c20
        have e1 : ∀ v w, v = heH F T N (i : Int) → w = heB T N (i : Int) → up (up (heT F T N (i : Int)) 3 (i : Int) v) 6 (i : Int) w = heT F T N ((i : Int) + 1) := by
          intro v w hv hw
          funext x
          unfold up heT two
          by_cases z6 : x = 6
          · subst z6
            exact upto_upd (f := T 6) (f' := heB T N) hw
          · by_cases z3 : x = 3
            · subst z3
              exact upto_upd (f := T 3) (f' := heH F T N) hv
            · rw [if_neg z6, if_neg z3, if_neg z3, if_neg z6, if_neg z3, if_neg z6]
        skip -- go
        refine wp_aload_n (pc := 23) dX0_hear_23 rfl ?_
        refine wp_getf (pc := 24) dX0_hear_24 gf_X0_63 (by repeat (first | assumption | exact hset_eq | refine hset_at (by omega) ?_)) (by rfl) ?_
        refine wp_iload_n (pc := 27) dX0_hear_27 rfl ?_
        refine wp_sipush (pc := 28) (y := 9999) dX0_hear_28 (by decide) ?_
        refine wp_aload_n (pc := 31) dX0_hear_31 rfl ?_
        refine wp_getf (pc := 32) dX0_hear_32 gf_X0_63 (by repeat (first | assumption | exact hset_eq | refine hset_at (by omega) ?_)) (by rfl) ?_
        refine wp_iload_n (pc := 35) dX0_hear_35 rfl ?_
        refine wp_iald (pc := 36) dX0_hear_36 (by repeat (first | assumption | exact hset_eq | refine hset_at (by omega) ?_)) (by omega) (by omega) (by decide) ?_
        refine wp_topE a3 ?_
        refine wp_aload_n (pc := 37) dX0_hear_37 rfl ?_
        refine wp_iload_n (pc := 38) dX0_hear_38 rfl ?_
        refine wp_iload_n (pc := 39) dX0_hear_39 rfl ?_
        refine wp_aload_n (pc := 40) dX0_hear_40 rfl ?_
        refine wp_getf (pc := 41) dX0_hear_41 gf_X0_40 (by repeat (first | assumption | exact hset_eq | refine hset_at (by omega) ?_)) (by rfl) ?_
        refine wp_topE i8 ?_
        refine wp_Vp (pc := 44) dX0_hear_44 cl_X0_66 (sp_Clock_wordsOf c0 c1 (by omega) hb iN) rfl rfl (by repeat (first | assumption | exact hset_eq | refine hset_at (by omega) ?_)) (by rfl) (by decide) (Nat.le_of_ble_eq_true rfl) ?_
        refine wp_iadd (pc := 47) dX0_hear_47 ?_
        refine wp_min (pc := 48) dX0_hear_48 ml_X0_70 ma_min_s ma_ini ma_min_c (by decide) (by decide) (by decide) (by decide) (Nat.le_of_ble_eq_true rfl) (by omega) (by omega) ?_
        refine wp_iast (pc := 51) dX0_hear_51 (by repeat (first | assumption | exact hset_eq | refine hset_at (by omega) ?_)) (by omega) (by omega) (by decide) ?_
        refine wp_aload_n (pc := 52) dX0_hear_52 rfl ?_
        refine wp_getf (pc := 53) dX0_hear_53 gf_X0_75 (by repeat (first | assumption | exact hset_eq | refine hset_at (by omega) ?_)) (by rfl) ?_
        refine wp_iload_n (pc := 56) dX0_hear_56 rfl ?_
        first | refine wp_dup2 (pc := 57) dX0_hear_57 rfl rfl ?_ | refine wp_dup2l (pc := 57) dX0_hear_57 rfl ?_
        refine wp_iald (pc := 58) dX0_hear_58 (hset_at (by omega) t7) (by omega) (by omega) (by decide) ?_
        refine wp_topE (a6.trans e6) ?_
        refine wp_iload_n (pc := 59) dX0_hear_59 rfl ?_
        refine wp_ior (pc := 60) dX0_hear_60 I_or ?_
        refine wp_iast (pc := 61) dX0_hear_61 (by repeat (first | assumption | exact hset_eq | refine hset_at (by omega) ?_)) (by omega) (by omega) (by decide) ?_
        refine wp_iinc (pc := 62) dX0_hear_62 rfl (by decide) ?_
        refine wp_goto (pc := 65) 7 dX0_hear_65 (by decide) ?_
        first
        | refine wp_ls ?_ (ih (i + 1) (by omega) (by omega) hp2 c0 c1 hT' hS)
          repeat' (first | exact LE_0 | refine LE_s rfl ?_ | refine LE_s (I_c (by first | omega | (simp only [sm]; omega))) ?_ | refine LE_s (J_c (by first | omega | exact Int.pow_succ _ _ | exact (Int.pow_succ _ _).symm | exact (Int.pow_zero _).symm | (simp only [sm]; omega))) ?_ | refine LE_n ?_)
        | refine wp_ls ?_ (ih (i + 1) (by omega) (by omega) _ (hset_at (by omega) (hset_at (by omega) c0)) (hset_at (by omega) (hset_at (by omega) c1)) (by have := (hT'.s3 (a := (i : Int)) (b := mi 9999 (T 3 (i : Int) + wof F (bits (lv T) N) (i : Int) N))).s6 (a := (i : Int)) (b := (((T 6 (i : Int)).toNat ||| bits (lv T) N : Nat) : Int)); rw [e1 _ _ (by unfold heH; rw [if_neg c20]) (by unfold heB; rw [if_neg c20])] at this; exact this) ((hS.set (by omega) (by omega)).set (by omega) (by omega)))
          repeat' (first | exact LE_0 | refine LE_s rfl ?_ | refine LE_s (I_c (by first | omega | (simp only [sm]; omega))) ?_ | refine LE_s (J_c (by first | omega | exact Int.pow_succ _ _ | exact (Int.pow_succ _ _).symm | exact (Int.pow_zero _).symm | (simp only [sm]; omega))) ?_ | refine LE_n ?_)
theorem sp_Clock_hear (hT : TownAt hp h T) (hI : TI T N) (c0 : hp.2 C = some (.inr (.inr (0, [.ref (C + 1)])))) (c1 : hp.2 (C + 1) = some (.inl (.int, 36, F))) (rF : ∀ i, 0 ≤ F i ∧ F i ≤ 9) (hd : h + 8 ≤ C ∨ C + 2 ≤ h) : Sp g MX0_hear (rm 2 0 0) [.ref C, .ref h] hp (Vod (fun hp2 => TownAt hp2 h (heT F T N (N : Int)) ∧ SO hp hp2 h (h + 8))) := by
  have hT' := hT
  obtain ⟨t0, t1, t2, t3, t4, t5, t6, t7⟩ := hT
  have e0 : heT F T N 0 = T := by
    funext x
    unfold heT two
    rw [upto_0, upto_0]
    by_cases z3 : x = 3
    · rw [if_pos z3, z3]
    · rw [if_neg z3]
      by_cases z6 : x = 6
      · rw [if_pos z6, z6]
      · rw [if_neg z6]
  refine Sp_mk rfl (Nat.le_of_ble_eq_true rfl) ?_
  show wp g _ _ _ 0 0 0 [some (.ref C), some (.ref h), none, none] [] hp
  refine wp_aload_n (pc := 0) dX0_hear_0 rfl ?_
  refine wp_Vp (pc := 1) dX0_hear_1 cl_X0_59 (sp_Town_livingSet (by first | assumption | omega) (by first | assumption | omega)) rfl rfl (by repeat (first | assumption | exact hset_eq | refine hset_at (by omega) ?_)) (by rfl) (by decide) (Nat.le_of_ble_eq_true rfl) ?_
  refine wp_istore_n (pc := 4) dX0_hear_4 (by decide) ?_
  refine wp_iconst (pc := 5) dX0_hear_5 ?_
  refine wp_istore_n (pc := 6) dX0_hear_6 (by decide) ?_
  refine wp_ls ?_ (lp_hear hI rF hd (N + 1) 0 (by omega) (by omega) hp c0 c1 (by show TownAt hp h (heT F T N 0); rw [e0]; exact hT') SO.rf)
  repeat' (first | exact LE_0 | refine LE_s rfl ?_ | refine LE_s (I_c (by first | omega | (simp only [sm]; omega))) ?_ | refine LE_s (J_c (by first | omega | exact Int.pow_succ _ _ | exact (Int.pow_succ _ _).symm | exact (Int.pow_zero _).symm | (simp only [sm]; omega))) ?_ | refine LE_n ?_)
/-! debts -/
def one (T : Nat → Int → Int) (a : Nat) (f : Int → Int) : Nat → Int → Int := fun k => if k = a then f else T k
theorem one_up : up (one T n f) n a b = one T n (updI f a b) := by
  funext x
  unfold up one
  by_cases z : x = n
  · rw [if_pos z, if_pos rfl, if_pos z]
  · rw [if_neg z, if_neg z, if_neg z]
theorem one_id : one T n (T n) = T := by
  funext x
  unfold one
  by_cases z : x = n
  · rw [if_pos z, z]
  · rw [if_neg z]
theorem upto_jump {a b : Int} (hab : a ≤ b) (h : ∀ x, a ≤ x → x < b → f x = f' x) : upto f f' a = upto f f' b := by
  funext x
  unfold upto
  by_cases z : 0 ≤ x ∧ x < a
  · rw [if_pos z, if_pos (by omega)]
  · rw [if_neg z]
    by_cases z2 : 0 ≤ x ∧ x < b
    · rw [if_pos z2]; exact h x (by omega) z2.2
    · rw [if_neg z2]
theorem upto_updI {x v : Int} (hx : 0 ≤ x) (hv : v = f' x) : updI (upto f f' x) x v = upto f f' (x + 1) := by
  have := upto_upd (f := f) (f' := f') (i := x.toNat) (v := v) (by rw [Int.toNat_of_nonneg hx]; exact hv)
  rwa [Int.toNat_of_nonneg hx] at this
theorem upto_skipI {x : Int} (hx : 0 ≤ x) (hv : f x = f' x) : upto f f' x = upto f f' (x + 1) := by
  have := upto_skip (f := f) (f' := f') (i := x.toNat) (by rw [Int.toNat_of_nonneg hx]; exact hv)
  rwa [Int.toNat_of_nonneg hx] at this
def gDb (T : Nat → Int → Int) (N : Nat) : Int → Int := fun x => if (x / 6 < N ∧ x % 6 < N) ∧ (0 < T 1 x ∧ T 1 x < 99) ∧ T 5 (x / 6) = 0 ∧ T 5 (x % 6) = 0 then T 1 x + 1 else T 1 x
def grT (T : Nat → Int → Int) (N : Nat) (x : Int) : Nat → Int → Int := one T 1 (upto (T 1) (gDb T N) x)
theorem grT_I (hI : TI T N) : TI (grT T N x) N := by
  obtain ⟨i8, iN, i0, i1, i2, i3, i4, i5, i6, i7⟩ := hI
  refine ⟨i8, iN, i0, fun y => ?_, i2, i3, i4, i5, i6, i7⟩
  show 0 ≤ upto (T 1) (gDb T N) x y ∧ upto (T 1) (gDb T N) x y ≤ 99
  have := i1 y
  unfold upto gDb
  split
  · split <;> omega
  · exact this
theorem jn_grow {Q : Option Value → Hp → Prop} {q : Prop} [Decidable q] (hq : q ↔ (0 < T 1 ((n : Int) * 6 + k) ∧ T 1 ((n : Int) * 6 + k) < 99)) (hI : TI T N) (hn : n < N) (hk : k < N) (hT : TownAt hp2 h (grT T N ((n : Int) * 6 + k))) (hS : SO hp hp2 h (h + 8)) (K : ∀ hp3, TownAt hp3 h (grT T N ((n : Int) * 6 + (k + 1))) → SO hp hp3 h (h + 8) → wp g MX0_growDebts (rm 1 0 0) Q 0 0 12 [some (.ref C), some (.ref h), some (.int (I (n : Int))), some (.int (I ((k : Int) + 1))), none, none] [] hp3) : wp g MX0_growDebts (rm 1 0 0) Q 0 0 54 [some (.ref C), some (.ref h), some (.int (I (n : Int))), some (.int (I (k : Int))), some (.int (I ((n : Int) * 6 + k))), none] [.int (B q)] hp2 := by
  have hI2 := grT_I (x := (n : Int) * 6 + k) hI
  obtain ⟨i8, iN, i0, i1, i2, i3, i4, i5, i6, i7⟩ := hI
  have hT' := hT
  obtain ⟨t0, t1, t2, t3, t4, t5, t6, t7⟩ := hT
  have a1 : grT T N ((n : Int) * 6 + k) 1 ((n : Int) * 6 + k) = T 1 ((n : Int) * 6 + k) := upto_at (by omega)
  have d1 : ((n : Int) * 6 + k) / 6 = n := by omega
  have d2 : ((n : Int) * 6 + k) % 6 = k := by omega
  have no : ¬ ((0 < T 1 ((n : Int) * 6 + k) ∧ T 1 ((n : Int) * 6 + k) < 99) ∧ T 5 (n : Int) = 0 ∧ T 5 (k : Int) = 0) → grT T N ((n : Int) * 6 + k) = grT T N ((n : Int) * 6 + (k + 1)) := by
    intro z
    unfold grT
    rw [upto_skipI (f := T 1) (f' := gDb T N) (by omega) (by unfold gDb; rw [if_neg (by rw [d1, d2]; exact fun y => z y.2)]), Int.add_assoc]
  refine wp_istore (pc := 54) dX0_growDebts_54 (by decide) ?_
  refine wp_iload (pc := 56) dX0_growDebts_56 rfl ?_
  first | refine wp_ifb_eq (pc := 58) 88 dX0_growDebts_58 (by decide) (fun c58 => ?_) (fun c58 => ?_) | refine wp_if_eq (pc := 58) 88 dX0_growDebts_58 (by decide) (by omega) (fun c58 => ?_) (fun c58 => ?_)
  ·
    have en := no (fun z => c58 (hq.mpr z.1))
    rw [en] at hT' -- go
    refine wp_iinc (pc := 88) dX0_growDebts_88 rfl (by decide) ?_
    refine wp_goto (pc := 91) 12 dX0_growDebts_91 (by decide) ?_
    first
    | refine wp_ls ?_ (K hp2 hT' hS)
      repeat' (first | exact LE_0 | refine LE_s rfl ?_ | refine LE_s (I_c (by first | omega | (simp only [sm]; omega))) ?_ | refine LE_s (J_c (by first | omega | exact Int.pow_succ _ _ | exact (Int.pow_succ _ _).symm | exact (Int.pow_zero _).symm | (simp only [sm]; omega))) ?_ | refine LE_n ?_)
    | refine wp_ls ?_ (K _ (by have := hT'.s1 (a := (n : Int) * 6 + k) (b := T 1 ((n : Int) * 6 + k) + 1); rw [ey] at this; exact this) (hS.set (by omega) (by omega)))
      repeat' (first | exact LE_0 | refine LE_s rfl ?_ | refine LE_s (I_c (by first | omega | (simp only [sm]; omega))) ?_ | refine LE_s (J_c (by first | omega | exact Int.pow_succ _ _ | exact (Int.pow_succ _ _).symm | exact (Int.pow_zero _).symm | (simp only [sm]; omega))) ?_ | refine LE_n ?_)
  ·
    refine wp_aload_n (pc := 61) dX0_growDebts_61 rfl ?_
    refine wp_iload_n (pc := 62) dX0_growDebts_62 rfl ?_
    refine wp_Vp (pc := 63) dX0_growDebts_63 cl_X0_43 (sp_Town_lives hT' hI2 (by omega) (by omega)) rfl rfl (by repeat (first | assumption | exact hset_eq | refine hset_at (by omega) ?_)) (by rfl) (by decide) (Nat.le_of_ble_eq_true rfl) ?_
    first | refine wp_ifb_eq (pc := 66) 88 dX0_growDebts_66 (by decide) (fun c66 => ?_) (fun c66 => ?_) | refine wp_if_eq (pc := 66) 88 dX0_growDebts_66 (by decide) (by omega) (fun c66 => ?_) (fun c66 => ?_)
    ·
      have en := no (fun z => c66 z.2.1)
      rw [en] at hT' -- go
      refine wp_iinc (pc := 88) dX0_growDebts_88 rfl (by decide) ?_
      refine wp_goto (pc := 91) 12 dX0_growDebts_91 (by decide) ?_
      first
      | refine wp_ls ?_ (K hp2 hT' hS)
        repeat' (first | exact LE_0 | refine LE_s rfl ?_ | refine LE_s (I_c (by first | omega | (simp only [sm]; omega))) ?_ | refine LE_s (J_c (by first | omega | exact Int.pow_succ _ _ | exact (Int.pow_succ _ _).symm | exact (Int.pow_zero _).symm | (simp only [sm]; omega))) ?_ | refine LE_n ?_)
      | refine wp_ls ?_ (K _ (by have := hT'.s1 (a := (n : Int) * 6 + k) (b := T 1 ((n : Int) * 6 + k) + 1); rw [ey] at this; exact this) (hS.set (by omega) (by omega)))
        repeat' (first | exact LE_0 | refine LE_s rfl ?_ | refine LE_s (I_c (by first | omega | (simp only [sm]; omega))) ?_ | refine LE_s (J_c (by first | omega | exact Int.pow_succ _ _ | exact (Int.pow_succ _ _).symm | exact (Int.pow_zero _).symm | (simp only [sm]; omega))) ?_ | refine LE_n ?_)
    ·
      refine wp_aload_n (pc := 69) dX0_growDebts_69 rfl ?_
      refine wp_iload_n (pc := 70) dX0_growDebts_70 rfl ?_
      refine wp_Vp (pc := 71) dX0_growDebts_71 cl_X0_43 (sp_Town_lives hT' hI2 (by omega) (by omega)) rfl rfl (by repeat (first | assumption | exact hset_eq | refine hset_at (by omega) ?_)) (by rfl) (by decide) (Nat.le_of_ble_eq_true rfl) ?_
      first | refine wp_ifb_eq (pc := 74) 88 dX0_growDebts_74 (by decide) (fun c74 => ?_) (fun c74 => ?_) | refine wp_if_eq (pc := 74) 88 dX0_growDebts_74 (by decide) (by omega) (fun c74 => ?_) (fun c74 => ?_)
      ·
        have en := no (fun z => c74 z.2.2)
        rw [en] at hT' -- go
        refine wp_iinc (pc := 88) dX0_growDebts_88 rfl (by decide) ?_
        refine wp_goto (pc := 91) 12 dX0_growDebts_91 (by decide) ?_
        first
        | refine wp_ls ?_ (K hp2 hT' hS)
          repeat' (first | exact LE_0 | refine LE_s rfl ?_ | refine LE_s (I_c (by first | omega | (simp only [sm]; omega))) ?_ | refine LE_s (J_c (by first | omega | exact Int.pow_succ _ _ | exact (Int.pow_succ _ _).symm | exact (Int.pow_zero _).symm | (simp only [sm]; omega))) ?_ | refine LE_n ?_)
        | refine wp_ls ?_ (K _ (by have := hT'.s1 (a := (n : Int) * 6 + k) (b := T 1 ((n : Int) * 6 + k) + 1); rw [ey] at this; exact this) (hS.set (by omega) (by omega)))
          repeat' (first | exact LE_0 | refine LE_s rfl ?_ | refine LE_s (I_c (by first | omega | (simp only [sm]; omega))) ?_ | refine LE_s (J_c (by first | omega | exact Int.pow_succ _ _ | exact (Int.pow_succ _ _).symm | exact (Int.pow_zero _).symm | (simp only [sm]; omega))) ?_ | refine LE_n ?_)
      ·
        have ey : up (grT T N ((n : Int) * 6 + k)) 1 ((n : Int) * 6 + k) (T 1 ((n : Int) * 6 + k) + 1) = grT T N ((n : Int) * 6 + (k + 1)) := by
          unfold grT
          rw [one_up, upto_updI (f := T 1) (f' := gDb T N) (by omega) (by unfold gDb; rw [if_pos (by rw [d1, d2]; exact ⟨by omega, hq.mp c58, c66, c74⟩)]), Int.add_assoc]
        skip -- go
        refine wp_aload_n (pc := 77) dX0_growDebts_77 rfl ?_
        refine wp_getf (pc := 78) dX0_growDebts_78 gf_X0_82 (by repeat (first | assumption | exact hset_eq | refine hset_at (by omega) ?_)) (by rfl) ?_
        refine wp_iload (pc := 81) dX0_growDebts_81 rfl ?_
        first | refine wp_dup2 (pc := 83) dX0_growDebts_83 rfl rfl ?_ | refine wp_dup2l (pc := 83) dX0_growDebts_83 rfl ?_
        refine wp_iald (pc := 84) dX0_growDebts_84 (by repeat (first | assumption | exact hset_eq | refine hset_at (by omega) ?_)) (by omega) (by omega) (by decide) ?_
        refine wp_topE a1 ?_
        refine wp_iconst (pc := 85) dX0_growDebts_85 ?_
        refine wp_iadd (pc := 86) dX0_growDebts_86 ?_
        refine wp_iast (pc := 87) dX0_growDebts_87 (by repeat (first | assumption | exact hset_eq | refine hset_at (by omega) ?_)) (by omega) (by omega) (by decide) ?_
        refine wp_iinc (pc := 88) dX0_growDebts_88 rfl (by decide) ?_
        refine wp_goto (pc := 91) 12 dX0_growDebts_91 (by decide) ?_
        first
        | refine wp_ls ?_ (K hp2 hT' hS)
          repeat' (first | exact LE_0 | refine LE_s rfl ?_ | refine LE_s (I_c (by first | omega | (simp only [sm]; omega))) ?_ | refine LE_s (J_c (by first | omega | exact Int.pow_succ _ _ | exact (Int.pow_succ _ _).symm | exact (Int.pow_zero _).symm | (simp only [sm]; omega))) ?_ | refine LE_n ?_)
        | refine wp_ls ?_ (K _ (by have := hT'.s1 (a := (n : Int) * 6 + k) (b := T 1 ((n : Int) * 6 + k) + 1); rw [ey] at this; exact this) (hS.set (by omega) (by omega)))
          repeat' (first | exact LE_0 | refine LE_s rfl ?_ | refine LE_s (I_c (by first | omega | (simp only [sm]; omega))) ?_ | refine LE_s (J_c (by first | omega | exact Int.pow_succ _ _ | exact (Int.pow_succ _ _).symm | exact (Int.pow_zero _).symm | (simp only [sm]; omega))) ?_ | refine LE_n ?_)
theorem lp_grow2 (hI : TI T N) (hn : n < N) {Q : Option Value → Hp → Prop} (K : ∀ hp3, TownAt hp3 h (grT T N ((n : Int) * 6 + N)) → SO hp hp3 h (h + 8) → wp g MX0_growDebts (rm 1 0 0) Q 0 0 94 [some (.ref C), some (.ref h), some (.int (I (n : Int))), none, none, none] [] hp3) : ∀ (m i : Nat), N < i + m → i ≤ N → ∀ (hp2 : Hp) (hT : TownAt hp2 h (grT T N ((n : Int) * 6 + i))) (hS : SO hp hp2 h (h + 8)), wp g MX0_growDebts (rm 1 0 0) Q 0 0 12 [some (.ref C), some (.ref h), some (.int (I (n : Int))), some (.int (I (i : Int))), none, none] [] hp2 := by
  intro m
  induction m with
  | zero => intro i h1 h2; exact absurd h1 (by omega)
  | succ m ih =>
    intro i h1 h2 hp2 hT hS
    have hI' := hI
    obtain ⟨i8, iN, i0, i1, i2, i3, i4, i5, i6, i7⟩ := hI
    have hT' := hT
    obtain ⟨t0, t1, t2, t3, t4, t5, t6, t7⟩ := hT
    have a8 : grT T N ((n : Int) * 6 + i) 8 0 = T 8 0 := rfl
    have a1 : grT T N ((n : Int) * 6 + i) 1 ((n : Int) * 6 + i) = T 1 ((n : Int) * 6 + i) := upto_at (by omega)
    have h1 := i1 ((n : Int) * 6 + i)
    refine wp_iload_n (pc := 12) dX0_growDebts_12 rfl ?_
    refine wp_aload_n (pc := 13) dX0_growDebts_13 rfl ?_
    refine wp_getf (pc := 14) dX0_growDebts_14 gf_X0_40 (by repeat (first | assumption | exact hset_eq | refine hset_at (by omega) ?_)) (by rfl) ?_
    refine wp_icmp_ge (pc := 17) 94 dX0_growDebts_17 (by decide) (by omega) (by omega) (fun c17 => ?_) (fun c17 => ?_)
    ·
      have e : i = N := by omega
      subst e
      refine wp_ls ?_ (K hp2 hT' hS)
      repeat' (first | exact LE_0 | refine LE_s rfl ?_ | refine LE_s (I_c (by first | omega | (simp only [sm]; omega))) ?_ | refine LE_s (J_c (by first | omega | exact Int.pow_succ _ _ | exact (Int.pow_succ _ _).symm | exact (Int.pow_zero _).symm | (simp only [sm]; omega))) ?_ | refine LE_n ?_)
    ·
      refine wp_iload_n (pc := 20) dX0_growDebts_20 rfl ?_
      refine wp_iload_n (pc := 21) dX0_growDebts_21 rfl ?_
      refine wp_Sp (pc := 22) dX0_growDebts_22 cl_X0_50 sp_D_pair rfl rfl (by decide) (Nat.le_of_ble_eq_true rfl) ?_
      refine wp_istore (pc := 25) dX0_growDebts_25 (by decide) ?_
      refine wp_aload_n (pc := 27) dX0_growDebts_27 rfl ?_
      refine wp_getf (pc := 28) dX0_growDebts_28 gf_X0_82 (by repeat (first | assumption | exact hset_eq | refine hset_at (by omega) ?_)) (by rfl) ?_
      refine wp_iload (pc := 31) dX0_growDebts_31 rfl ?_
      refine wp_iald (pc := 33) dX0_growDebts_33 (by repeat (first | assumption | exact hset_eq | refine hset_at (by omega) ?_)) (by omega) (by omega) (by decide) ?_
      refine wp_topE a1 ?_
      refine wp_if_le (pc := 34) 53 dX0_growDebts_34 (by decide) (by omega) (fun c34 => ?_) (fun c34 => ?_)
      ·
        refine wp_iconst (pc := 53) dX0_growDebts_53 ?_
        refine wp_topB (q := 0 < T 1 ((n : Int) * 6 + i) ∧ T 1 ((n : Int) * 6 + i) < 99) (by first | rw [if_pos (by omega)] | rw [if_neg (by omega)]) ?_
        refine wp_ls ?_ (jn_grow Iff.rfl hI' hn (by omega) hT' hS (fun hp3 hT3 hS3 => ih (i + 1) (by omega) (by omega) hp3 hT3 hS3))
        repeat' (first | exact LE_0 | refine LE_s rfl ?_ | refine LE_s (I_c (by first | omega | (simp only [sm]; omega))) ?_ | refine LE_s (J_c (by first | omega | exact Int.pow_succ _ _ | exact (Int.pow_succ _ _).symm | exact (Int.pow_zero _).symm | (simp only [sm]; omega))) ?_ | refine LE_n ?_)
      ·
        refine wp_aload_n (pc := 37) dX0_growDebts_37 rfl ?_
        refine wp_getf (pc := 38) dX0_growDebts_38 gf_X0_82 (by repeat (first | assumption | exact hset_eq | refine hset_at (by omega) ?_)) (by rfl) ?_
        refine wp_iload (pc := 41) dX0_growDebts_41 rfl ?_
        refine wp_iald (pc := 43) dX0_growDebts_43 (by repeat (first | assumption | exact hset_eq | refine hset_at (by omega) ?_)) (by omega) (by omega) (by decide) ?_
        refine wp_topE a1 ?_
        refine wp_bipush (pc := 44) (y := 99) dX0_growDebts_44 (by decide) ?_
        refine wp_icmp_ge (pc := 46) 53 dX0_growDebts_46 (by decide) (by omega) (by omega) (fun c46 => ?_) (fun c46 => ?_)
        ·
          refine wp_iconst (pc := 53) dX0_growDebts_53 ?_
          refine wp_topB (q := 0 < T 1 ((n : Int) * 6 + i) ∧ T 1 ((n : Int) * 6 + i) < 99) (by first | rw [if_pos (by omega)] | rw [if_neg (by omega)]) ?_
          refine wp_ls ?_ (jn_grow Iff.rfl hI' hn (by omega) hT' hS (fun hp3 hT3 hS3 => ih (i + 1) (by omega) (by omega) hp3 hT3 hS3))
          repeat' (first | exact LE_0 | refine LE_s rfl ?_ | refine LE_s (I_c (by first | omega | (simp only [sm]; omega))) ?_ | refine LE_s (J_c (by first | omega | exact Int.pow_succ _ _ | exact (Int.pow_succ _ _).symm | exact (Int.pow_zero _).symm | (simp only [sm]; omega))) ?_ | refine LE_n ?_)
        ·
          refine wp_iconst (pc := 49) dX0_growDebts_49 ?_
          refine wp_goto (pc := 50) 54 dX0_growDebts_50 (by decide) ?_
          refine wp_topB (q := 0 < T 1 ((n : Int) * 6 + i) ∧ T 1 ((n : Int) * 6 + i) < 99) (by first | rw [if_pos (by omega)] | rw [if_neg (by omega)]) ?_
          refine wp_ls ?_ (jn_grow Iff.rfl hI' hn (by omega) hT' hS (fun hp3 hT3 hS3 => ih (i + 1) (by omega) (by omega) hp3 hT3 hS3))
          repeat' (first | exact LE_0 | refine LE_s rfl ?_ | refine LE_s (I_c (by first | omega | (simp only [sm]; omega))) ?_ | refine LE_s (J_c (by first | omega | exact Int.pow_succ _ _ | exact (Int.pow_succ _ _).symm | exact (Int.pow_zero _).symm | (simp only [sm]; omega))) ?_ | refine LE_n ?_)
theorem lp_grow1 (hI : TI T N) : ∀ (m i : Nat), N < i + m → i ≤ N → ∀ (hp2 : Hp) (hT : TownAt hp2 h (grT T N ((i : Int) * 6))) (hS : SO hp hp2 h (h + 8)), wp g MX0_growDebts (rm 1 0 0) (Vod (fun hp2 => TownAt hp2 h (grT T N ((N : Int) * 6)) ∧ SO hp hp2 h (h + 8))) 0 0 2 [some (.ref C), some (.ref h), some (.int (I (i : Int))), none, none, none] [] hp2 := by
  intro m
  induction m with
  | zero => intro i h1 h2; exact absurd h1 (by omega)
  | succ m ih =>
    intro i h1 h2 hp2 hT hS
    have hI' := hI
    obtain ⟨i8, iN, i0, i1, i2, i3, i4, i5, i6, i7⟩ := hI
    have hT' := hT
    obtain ⟨t0, t1, t2, t3, t4, t5, t6, t7⟩ := hT
    have a8 : grT T N ((i : Int) * 6) 8 0 = T 8 0 := rfl
    refine wp_iload_n (pc := 2) dX0_growDebts_2 rfl ?_
    refine wp_aload_n (pc := 3) dX0_growDebts_3 rfl ?_
    refine wp_getf (pc := 4) dX0_growDebts_4 gf_X0_40 (by repeat (first | assumption | exact hset_eq | refine hset_at (by omega) ?_)) (by rfl) ?_
    refine wp_icmp_ge (pc := 7) 100 dX0_growDebts_7 (by decide) (by omega) (by omega) (fun c7 => ?_) (fun c7 => ?_)
    ·
      have e : i = N := by omega
      subst e -- go
      exact wp_vr (pc := 100) dX0_growDebts_100 rfl (by decide) (by decide) ⟨hT', hS⟩
    ·
      refine wp_iconst (pc := 10) dX0_growDebts_10 ?_
      refine wp_istore_n (pc := 11) dX0_growDebts_11 (by decide) ?_
      refine wp_ls ?_ (lp_grow2 (hp := hp) (n := i) (C := C) hI' (by omega) (fun hp3 hT3 hS3 => ?_) (N + 1) 0 (by omega) (by omega) hp2 (by rw [show (i : Int) * 6 + ((0 : Nat) : Int) = (i : Int) * 6 by omega]; exact hT') hS)
      · repeat' (first | exact LE_0 | refine LE_s rfl ?_ | refine LE_s (I_c (by first | omega | (simp only [sm]; omega))) ?_ | refine LE_s (J_c (by first | omega | exact Int.pow_succ _ _ | exact (Int.pow_succ _ _).symm | exact (Int.pow_zero _).symm | (simp only [sm]; omega))) ?_ | refine LE_n ?_)
      · refine wp_iinc (pc := 94) dX0_growDebts_94 rfl (by decide) ?_
        refine wp_goto (pc := 97) 2 dX0_growDebts_97 (by decide) ?_
        refine wp_ls ?_ (ih (i + 1) (by omega) (by omega) hp3 (by have e : grT T N ((i : Int) * 6 + N) = grT T N (((i + 1 : Nat) : Int) * 6) := by { unfold grT; rw [upto_jump (f := T 1) (f' := gDb T N) (show (i : Int) * 6 + N ≤ ((i + 1 : Nat) : Int) * 6 by omega) (fun x z1 z2 => by unfold gDb; rw [if_neg (by omega)])] }; rw [← e]; exact hT3) hS3)
        repeat' (first | exact LE_0 | refine LE_s rfl ?_ | refine LE_s (I_c (by first | omega | (simp only [sm]; omega))) ?_ | refine LE_s (J_c (by first | omega | exact Int.pow_succ _ _ | exact (Int.pow_succ _ _).symm | exact (Int.pow_zero _).symm | (simp only [sm]; omega))) ?_ | refine LE_n ?_)
theorem sp_Clock_growDebts (hT : TownAt hp h T) (hI : TI T N) : Sp g MX0_growDebts (rm 1 0 0) [.ref C, .ref h] hp (Vod (fun hp2 => TownAt hp2 h (grT T N ((N : Int) * 6)) ∧ SO hp hp2 h (h + 8))) := by
  refine Sp_mk rfl (Nat.le_of_ble_eq_true rfl) ?_
  show wp g _ _ _ 0 0 0 [some (.ref C), some (.ref h), none, none, none, none] [] hp
  refine wp_iconst (pc := 0) dX0_growDebts_0 ?_
  refine wp_istore_n (pc := 1) dX0_growDebts_1 (by decide) ?_
  refine wp_ls ?_ (lp_grow1 (C := C) hI (N + 1) 0 (by omega) (by omega) hp (by show TownAt hp h (one T 1 (upto (T 1) (gDb T N) 0)); rw [upto_0, one_id]; exact hT) SO.rf)
  repeat' (first | exact LE_0 | refine LE_s rfl ?_ | refine LE_s (I_c (by first | omega | (simp only [sm]; omega))) ?_ | refine LE_s (J_c (by first | omega | exact Int.pow_succ _ _ | exact (Int.pow_succ _ _).symm | exact (Int.pow_zero _).symm | (simp only [sm]; omega))) ?_ | refine LE_n ?_)
end CL

