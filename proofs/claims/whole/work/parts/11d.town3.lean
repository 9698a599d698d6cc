section TY
variable {g : GT} {hp hp2 : Hp} {h h2 N L A : Nat} {T T' T2 : Nat → Int → Int} {f : Int → Int} {p q a b n : Int} {s : Nat}
def dieT (T : Nat → Int → Int) (N : Nat) (p n : Int) : Nat → Int → Int := if 0 ≤ p ∧ p < N ∧ 1 ≤ n ∧ n ≤ 9 ∧ T 5 p = 0 then up (up (up T 5 p n) 4 p (mi 99 (T 4 p + 1))) 6 p 0 else T
def dieA (T : Nat → Int → Int) (N : Nat) (p n : Int) : Int := if ¬ (0 ≤ p ∧ p < N ∧ 1 ≤ n ∧ n ≤ 9) then -1 else if ¬ T 5 p = 0 then -2 else dct (dieT T N p n) N
theorem mi99 {x : Int} (h : 0 ≤ x) : 0 ≤ mi 99 x ∧ mi 99 x ≤ 99 := by unfold mi; split <;> omega
theorem dieT_I (hI : TI T N) : TI (dieT T N p n) N := by
  unfold dieT
  split
  · have := hI.2.2.2.2.2.2.1 p
    exact ((hI.u5 (by omega)).u4 (mi99 (by omega))).u6 (by omega)
  · exact hI
theorem sp_Town_letDie (hT : TownAt hp h T) (hI : TI T N) (rp : InR p) (rn : InR n) : Sp g MX10_letDie (rm 3 0 0) [.ref h, .int (I p), .int (I n)] hp (Eff (.int (I (dieA T N p n))) (fun hp2 => TownAt hp2 h (dieT T N p n) ∧ SO hp hp2 h (h + 8))) := by
  have hI' := hI
  obtain ⟨i8, iN, i0, i1, i2, i3, i4, i5, i6, i7⟩ := hI
  have hT' := hT
  obtain ⟨t0, t1, t2, t3, t4, t5, t6, t7⟩ := hT
  have := i4 p
  refine Sp_mk rfl (Nat.le_of_ble_eq_true rfl) ?_
  show wp g _ _ _ 0 0 0 [some (.ref h), some (.int (I p)), some (.int (I n))] [] hp
  refine wp_aload_n (pc := 0) dX10_letDie_0 rfl ?_
  refine wp_iload_n (pc := 1) dX10_letDie_1 rfl ?_
  refine wp_Vp (pc := 2) dX10_letDie_2 cl_X10_46 (sp_Town_has (by first | assumption | omega) (by first | assumption | omega) (by first | assumption | omega)) rfl rfl (by repeat (first | assumption | exact hset_eq | refine hset_at (by omega) ?_)) (by rfl) (by decide) (Nat.le_of_ble_eq_true rfl) ?_
  first | refine wp_ifb_eq (pc := 5) 15 dX10_letDie_5 (by decide) (fun c5 => ?_) (fun c5 => ?_) | refine wp_if_eq (pc := 5) 15 dX10_letDie_5 (by decide) (by omega) (fun c5 => ?_) (fun c5 => ?_)
  ·
    refine wp_iconst (pc := 15) dX10_letDie_15 ?_
    exact wp_ir (pc := 16) dX10_letDie_16 rfl (by decide) (by decide) (by unfold dieA; rw [if_pos (by omega)]) ⟨by rw [show dieT T N p n = T from if_neg (by omega)]; exact hT', SO.rf⟩
  ·
    refine wp_iload_n (pc := 8) dX10_letDie_8 rfl ?_
    refine wp_Sp (pc := 9) dX10_letDie_9 cl_X10_80 (sp_D_isDeath (by first | assumption | omega)) rfl rfl (by decide) (Nat.le_of_ble_eq_true rfl) ?_
    first | refine wp_ifb_ne (pc := 12) 17 dX10_letDie_12 (by decide) (fun c12 => ?_) (fun c12 => ?_) | refine wp_if_ne (pc := 12) 17 dX10_letDie_12 (by decide) (by omega) (fun c12 => ?_) (fun c12 => ?_)
    ·
      refine wp_aload_n (pc := 17) dX10_letDie_17 rfl ?_
      refine wp_iload_n (pc := 18) dX10_letDie_18 rfl ?_
      refine wp_Vp (pc := 19) dX10_letDie_19 cl_X10_50 (sp_Town_lives (by first | assumption | omega) (by first | assumption | omega) (by first | assumption | omega) (by first | assumption | omega)) rfl rfl (by repeat (first | assumption | exact hset_eq | refine hset_at (by omega) ?_)) (by rfl) (by decide) (Nat.le_of_ble_eq_true rfl) ?_
      first | refine wp_ifb_ne (pc := 22) 28 dX10_letDie_22 (by decide) (fun c22 => ?_) (fun c22 => ?_) | refine wp_if_ne (pc := 22) 28 dX10_letDie_22 (by decide) (by omega) (fun c22 => ?_) (fun c22 => ?_)
      ·
        refine wp_aload_n (pc := 28) dX10_letDie_28 rfl ?_
        refine wp_getf (pc := 29) dX10_letDie_29 gf_X10_27 (by repeat (first | assumption | exact hset_eq | refine hset_at (by omega) ?_)) (by rfl) ?_
        refine wp_iload_n (pc := 32) dX10_letDie_32 rfl ?_
        refine wp_iload_n (pc := 33) dX10_letDie_33 rfl ?_
        refine wp_iast (pc := 34) dX10_letDie_34 (by repeat (first | assumption | exact hset_eq | refine hset_at (by omega) ?_)) (by omega) (by omega) (by decide) ?_
        refine wp_aload_n (pc := 35) dX10_letDie_35 rfl ?_
        refine wp_getf (pc := 36) dX10_letDie_36 gf_X10_24 (by repeat (first | assumption | exact hset_eq | refine hset_at (by omega) ?_)) (by rfl) ?_
        refine wp_iload_n (pc := 39) dX10_letDie_39 rfl ?_
        refine wp_bipush (pc := 40) (y := 99) dX10_letDie_40 (by decide) ?_
        refine wp_aload_n (pc := 42) dX10_letDie_42 rfl ?_
        refine wp_getf (pc := 43) dX10_letDie_43 gf_X10_24 (by repeat (first | assumption | exact hset_eq | refine hset_at (by omega) ?_)) (by rfl) ?_
        refine wp_iload_n (pc := 46) dX10_letDie_46 rfl ?_
        refine wp_iald (pc := 47) dX10_letDie_47 (by repeat (first | assumption | exact hset_eq | refine hset_at (by omega) ?_)) (by omega) (by omega) (by decide) ?_
        refine wp_iconst (pc := 48) dX10_letDie_48 ?_
        refine wp_iadd (pc := 49) dX10_letDie_49 ?_
        refine wp_min (pc := 50) dX10_letDie_50 ml_X10_83 ma_min_s ma_ini ma_min_c (by decide) (by decide) (by decide) (by decide) (Nat.le_of_ble_eq_true rfl) (by omega) (by omega) ?_
        refine wp_iast (pc := 53) dX10_letDie_53 (by repeat (first | assumption | exact hset_eq | refine hset_at (by omega) ?_)) (by omega) (by omega) (by decide) ?_
        refine wp_aload_n (pc := 54) dX10_letDie_54 rfl ?_
        refine wp_getf (pc := 55) dX10_letDie_55 gf_X10_30 (by repeat (first | assumption | exact hset_eq | refine hset_at (by omega) ?_)) (by rfl) ?_
        refine wp_iload_n (pc := 58) dX10_letDie_58 rfl ?_
        refine wp_iconst (pc := 59) dX10_letDie_59 ?_
        refine wp_iast (pc := 60) dX10_letDie_60 (by repeat (first | assumption | exact hset_eq | refine hset_at (by omega) ?_)) (by omega) (by omega) (by decide) ?_
        have e3 : dieT T N p n = up (up (up T 5 p n) 4 p (mi 99 (T 4 p + 1))) 6 p 0 := if_pos (by omega)
        have hT3 := ((hT'.s5 (a := p) (b := n)).s4 (a := p) (b := mi 99 (T 4 p + 1))).s6 (a := p) (b := 0)
        have hI3 := dieT_I (p := p) (n := n) hI'
        rw [e3] at hI3
        refine wp_aload_n (pc := 61) dX10_letDie_61 rfl ?_
        refine wp_Vp (pc := 62) dX10_letDie_62 cl_X10_88 (sp_Town_deadCount hT3 hI3) rfl rfl hT3.1 (by rfl) (by decide) (Nat.le_of_ble_eq_true rfl) ?_
        exact wp_ir (pc := 65) dX10_letDie_65 rfl (by decide) (by decide) (by unfold dieA; rw [if_neg (by omega), if_neg (by omega), e3]) ⟨by rw [e3]; exact hT3, ((SO.rf.set (by omega) (by omega)).set (by omega) (by omega)).set (by omega) (by omega)⟩
      ·
        refine wp_bipush (pc := 25) (y := (-2)) dX10_letDie_25 (by decide) ?_
        exact wp_ir (pc := 27) dX10_letDie_27 rfl (by decide) (by decide) (by unfold dieA; rw [if_neg (by omega), if_pos c22]) ⟨by rw [show dieT T N p n = T from if_neg (by omega)]; exact hT', SO.rf⟩
    ·
      refine wp_iconst (pc := 15) dX10_letDie_15 ?_
      exact wp_ir (pc := 16) dX10_letDie_16 rfl (by decide) (by decide) (by unfold dieA; rw [if_pos (by omega)]) ⟨by rw [show dieT T N p n = T from if_neg (by omega)]; exact hT', SO.rf⟩
def couT (T : Nat → Int → Int) (N : Nat) (p : Int) : Nat → Int → Int := if 0 ≤ p ∧ p < N ∧ ¬ T 5 p = 0 then up (up T 5 p 0) 3 p (T 3 p / 2) else T
def couA (T : Nat → Int → Int) (N : Nat) (p : Int) : Int := if ¬ (0 ≤ p ∧ p < N) then -1 else if T 5 p = 0 then -2 else T 3 p / 2
theorem couT_I (hI : TI T N) : TI (couT T N p) N := by
  unfold couT
  split
  · have := hI.2.2.2.2.2.1 p
    exact (hI.u5 (by omega)).u3 (by omega)
  · exact hI
theorem updI_eq {j v : Int} : updI f j v j = v := if_pos rfl
theorem updI_ne {i j v : Int} (h : i ≠ j) : updI f j v i = f i := if_neg h
theorem sp_Town_letCough (hT : TownAt hp h T) (hI : TI T N) (rp : InR p) : Sp g MX10_letCough (rm 1 0 0) [.ref h, .int (I p)] hp (Eff (.int (I (couA T N p))) (fun hp2 => TownAt hp2 h (couT T N p) ∧ SO hp hp2 h (h + 8))) := by
  have hI' := hI
  obtain ⟨i8, iN, i0, i1, i2, i3, i4, i5, i6, i7⟩ := hI
  have hT' := hT
  obtain ⟨t0, t1, t2, t3, t4, t5, t6, t7⟩ := hT
  have := i3 p
  refine Sp_mk rfl (Nat.le_of_ble_eq_true rfl) ?_
  show wp g _ _ _ 0 0 0 [some (.ref h), some (.int (I p))] [] hp
  refine wp_aload_n (pc := 0) dX10_letCough_0 rfl ?_
  refine wp_iload_n (pc := 1) dX10_letCough_1 rfl ?_
  refine wp_Vp (pc := 2) dX10_letCough_2 cl_X10_46 (sp_Town_has (by first | assumption | omega) (by first | assumption | omega) (by first | assumption | omega)) rfl rfl (by repeat (first | assumption | exact hset_eq | refine hset_at (by omega) ?_)) (by rfl) (by decide) (Nat.le_of_ble_eq_true rfl) ?_
  first | refine wp_ifb_ne (pc := 5) 10 dX10_letCough_5 (by decide) (fun c5 => ?_) (fun c5 => ?_) | refine wp_if_ne (pc := 5) 10 dX10_letCough_5 (by decide) (by omega) (fun c5 => ?_) (fun c5 => ?_)
  ·
    refine wp_aload_n (pc := 10) dX10_letCough_10 rfl ?_
    refine wp_iload_n (pc := 11) dX10_letCough_11 rfl ?_
    refine wp_Vp (pc := 12) dX10_letCough_12 cl_X10_50 (sp_Town_lives (by first | assumption | omega) (by first | assumption | omega) (by first | assumption | omega) (by first | assumption | omega)) rfl rfl (by repeat (first | assumption | exact hset_eq | refine hset_at (by omega) ?_)) (by rfl) (by decide) (Nat.le_of_ble_eq_true rfl) ?_
    first | refine wp_ifb_eq (pc := 15) 21 dX10_letCough_15 (by decide) (fun c15 => ?_) (fun c15 => ?_) | refine wp_if_eq (pc := 15) 21 dX10_letCough_15 (by decide) (by omega) (fun c15 => ?_) (fun c15 => ?_)
    ·
      refine wp_aload_n (pc := 21) dX10_letCough_21 rfl ?_
      refine wp_getf (pc := 22) dX10_letCough_22 gf_X10_27 (by repeat (first | assumption | exact hset_eq | refine hset_at (by omega) ?_)) (by rfl) ?_
      refine wp_iload_n (pc := 25) dX10_letCough_25 rfl ?_
      refine wp_iconst (pc := 26) dX10_letCough_26 ?_
      refine wp_iast (pc := 27) dX10_letCough_27 (by repeat (first | assumption | exact hset_eq | refine hset_at (by omega) ?_)) (by omega) (by omega) (by decide) ?_
      refine wp_aload_n (pc := 28) dX10_letCough_28 rfl ?_
      refine wp_getf (pc := 29) dX10_letCough_29 gf_X10_21 (by repeat (first | assumption | exact hset_eq | refine hset_at (by omega) ?_)) (by rfl) ?_
      refine wp_iload_n (pc := 32) dX10_letCough_32 rfl ?_
      first | refine wp_dup2 (pc := 33) dX10_letCough_33 rfl rfl ?_ | refine wp_dup2l (pc := 33) dX10_letCough_33 rfl ?_
      refine wp_iald (pc := 34) dX10_letCough_34 (by repeat (first | assumption | exact hset_eq | refine hset_at (by omega) ?_)) (by omega) (by omega) (by decide) ?_
      refine wp_iconst (pc := 35) dX10_letCough_35 ?_
      refine wp_idiv (pc := 36) dX10_letCough_36 (I_ne0 (by omega) (by omega)) (I_div (by omega) (by omega) (by omega) (by omega)) ?_
      refine wp_iast (pc := 37) dX10_letCough_37 (by repeat (first | assumption | exact hset_eq | refine hset_at (by omega) ?_)) (by omega) (by omega) (by decide) ?_
      have e3 : couT T N p = up (up T 5 p 0) 3 p (T 3 p / 2) := if_pos (by omega)
      have hT3 := (hT'.s5 (a := p) (b := 0)).s3 (a := p) (b := T 3 p / 2)
      refine wp_aload_n (pc := 38) dX10_letCough_38 rfl ?_
      refine wp_getf (pc := 39) dX10_letCough_39 gf_X10_21 (by repeat (first | assumption | exact hset_eq | refine hset_at (by omega) ?_)) (by rfl) ?_
      refine wp_iload_n (pc := 42) dX10_letCough_42 rfl ?_
      refine wp_iald (pc := 43) dX10_letCough_43 (by repeat (first | assumption | exact hset_eq | refine hset_at (by omega) ?_)) (by omega) (by omega) (by decide) ?_
      exact wp_ir (pc := 44) dX10_letCough_44 rfl (by decide) (by decide) (by unfold couA; rw [if_neg (by omega), if_neg (by omega)]; exact updI_eq) ⟨by rw [e3]; exact hT3, (SO.rf.set (by omega) (by omega)).set (by omega) (by omega)⟩
    ·
      refine wp_bipush (pc := 18) (y := (-2)) dX10_letCough_18 (by decide) ?_
      exact wp_ir (pc := 20) dX10_letCough_20 rfl (by decide) (by decide) (by unfold couA; rw [if_neg (by omega), if_pos c15]) ⟨by rw [show couT T N p = T from if_neg (by omega)]; exact hT', SO.rf⟩
  ·
    refine wp_iconst (pc := 8) dX10_letCough_8 ?_
    exact wp_ir (pc := 9) dX10_letCough_9 rfl (by decide) (by decide) (by unfold couA; rw [if_pos (by omega)]) ⟨by rw [show couT T N p = T from if_neg (by omega)]; exact hT', SO.rf⟩
/-- money goes from p to q -/
def monT (T : Nat → Int → Int) (p q n : Int) : Nat → Int → Int := up (up T 2 p (T 2 p - n)) 2 q (updI (T 2) p (T 2 p - n) q + n)
def lenT (T : Nat → Int → Int) (N : Nat) (p q n : Int) : Nat → Int → Int := if (0 ≤ p ∧ p < N ∧ 0 ≤ q ∧ q < N ∧ p ≠ q ∧ 1 ≤ n ∧ n ≤ 99) ∧ T 5 p = 0 ∧ T 5 q = 0 ∧ n ≤ T 2 p ∧ T 1 (q * 6 + p) + n ≤ 99 ∧ T 2 q + n ≤ 99 then up (monT T p q n) 1 (q * 6 + p) (T 1 (q * 6 + p) + n) else T
def lenA (T : Nat → Int → Int) (N : Nat) (p q n : Int) : Int := if ¬ (0 ≤ p ∧ p < N ∧ 0 ≤ q ∧ q < N ∧ p ≠ q ∧ 1 ≤ n ∧ n ≤ 99) then -1 else if ¬ (T 5 p = 0 ∧ T 5 q = 0) then -4 else if T 2 p < n then -2 else if 99 < T 1 (q * 6 + p) + n ∨ 99 < T 2 q + n then -3 else T 1 (q * 6 + p) + n
def payT (T : Nat → Int → Int) (N : Nat) (p q n : Int) : Nat → Int → Int := if (0 ≤ p ∧ p < N ∧ 0 ≤ q ∧ q < N ∧ p ≠ q ∧ 1 ≤ n ∧ n ≤ 99) ∧ T 5 p = 0 ∧ T 5 q = 0 ∧ n ≤ T 2 p ∧ n ≤ T 1 (p * 6 + q) ∧ T 2 q + n ≤ 99 then up (monT T p q n) 1 (p * 6 + q) (T 1 (p * 6 + q) - n) else T
def payA (T : Nat → Int → Int) (N : Nat) (p q n : Int) : Int := if ¬ (0 ≤ p ∧ p < N ∧ 0 ≤ q ∧ q < N ∧ p ≠ q ∧ 1 ≤ n ∧ n ≤ 99) then -1 else if ¬ (T 5 p = 0 ∧ T 5 q = 0) then -4 else if T 2 p < n then -2 else if T 1 (p * 6 + q) < n ∨ 99 < T 2 q + n then -3 else T 1 (p * 6 + q) - n
theorem monT_I (hI : TI T N) (hn : 1 ≤ n) (h1 : n ≤ T 2 p) (h2 : T 2 q + n ≤ 99) (hd : p ≠ q) : TI (monT T p q n) N := by
  have a1 := hI.2.2.2.2.1 p
  have a2 := hI.2.2.2.2.1 q
  unfold monT
  rw [updI_ne (Ne.symm hd)]
  exact (hI.u2 (by omega)).u2 (by omega)
theorem lenT_I (hI : TI T N) : TI (lenT T N p q n) N := by
  unfold lenT
  split
  · have := hI.2.2.2.1 (q * 6 + p)
    exact (monT_I hI (by omega) (by omega) (by omega) (by omega)).u1 (by omega)
  · exact hI
theorem payT_I (hI : TI T N) : TI (payT T N p q n) N := by
  unfold payT
  split
  · have := hI.2.2.2.1 (p * 6 + q)
    exact (monT_I hI (by omega) (by omega) (by omega) (by omega)).u1 (by omega)
  · exact hI
theorem sp_Town_handL (hT : TownAt hp h T) (hI : TI T N) (rp : InR p) (rq : InR q) (rn : InR n) : Sp g MX10_hand (rm 2 0 0) [.ref h, .int (I p), .int (I q), .int (I n), .int (I 1)] hp (Eff (.int (I (lenA T N p q n))) (fun hp2 => TownAt hp2 h (lenT T N p q n) ∧ SO hp hp2 h (h + 8))) := by
  have hI' := hI
  obtain ⟨i8, iN, i0, i1, i2, i3, i4, i5, i6, i7⟩ := hI
  have hT' := hT
  obtain ⟨t0, t1, t2, t3, t4, t5, t6, t7⟩ := hT
  have := i2 p
  have := i2 q
  have := i1 (q * 6 + p)
  refine Sp_mk rfl (Nat.le_of_ble_eq_true rfl) ?_
  show wp g _ _ _ 0 0 0 [some (.ref h), some (.int (I p)), some (.int (I q)), some (.int (I n)), some (.int (I 1)), none, none] [] hp
  refine wp_aload_n (pc := 0) dX10_hand_0 rfl ?_
  refine wp_iload_n (pc := 1) dX10_hand_1 rfl ?_
  refine wp_iload_n (pc := 2) dX10_hand_2 rfl ?_
  refine wp_Vp (pc := 3) dX10_hand_3 cl_X10_95 (sp_Town_hasTwo (by first | assumption | omega) (by first | assumption | omega) (by first | assumption | omega) (by first | assumption | omega)) rfl rfl (by repeat (first | assumption | exact hset_eq | refine hset_at (by omega) ?_)) (by rfl) (by decide) (Nat.le_of_ble_eq_true rfl) ?_
  first | refine wp_ifb_eq (pc := 6) 20 dX10_hand_6 (by decide) (fun c6 => ?_) (fun c6 => ?_) | refine wp_if_eq (pc := 6) 20 dX10_hand_6 (by decide) (by omega) (fun c6 => ?_) (fun c6 => ?_)
  ·
    refine wp_iconst (pc := 20) dX10_hand_20 ?_
    exact wp_ir (pc := 21) dX10_hand_21 rfl (by decide) (by decide) (by unfold lenA; rw [if_pos (by omega)]) ⟨by rw [show lenT T N p q n = T from if_neg (by omega)]; exact hT', SO.rf⟩
  ·
    refine wp_iload_n (pc := 9) dX10_hand_9 rfl ?_
    refine wp_iconst (pc := 10) dX10_hand_10 ?_
    refine wp_icmp_lt (pc := 11) 20 dX10_hand_11 (by decide) (by omega) (by omega) (fun c11 => ?_) (fun c11 => ?_)
    ·
      refine wp_iconst (pc := 20) dX10_hand_20 ?_
      exact wp_ir (pc := 21) dX10_hand_21 rfl (by decide) (by decide) (by unfold lenA; rw [if_pos (by omega)]) ⟨by rw [show lenT T N p q n = T from if_neg (by omega)]; exact hT', SO.rf⟩
    ·
      refine wp_iload_n (pc := 14) dX10_hand_14 rfl ?_
      refine wp_bipush (pc := 15) (y := 99) dX10_hand_15 (by decide) ?_
      refine wp_icmp_le (pc := 17) 22 dX10_hand_17 (by decide) (by omega) (by omega) (fun c17 => ?_) (fun c17 => ?_)
      ·
        refine wp_aload_n (pc := 22) dX10_hand_22 rfl ?_
        refine wp_iload_n (pc := 23) dX10_hand_23 rfl ?_
        refine wp_Vp (pc := 24) dX10_hand_24 cl_X10_50 (sp_Town_lives (by first | assumption | omega) (by first | assumption | omega) (by first | assumption | omega) (by first | assumption | omega)) rfl rfl (by repeat (first | assumption | exact hset_eq | refine hset_at (by omega) ?_)) (by rfl) (by decide) (Nat.le_of_ble_eq_true rfl) ?_
        first | refine wp_ifb_eq (pc := 27) 38 dX10_hand_27 (by decide) (fun c27 => ?_) (fun c27 => ?_) | refine wp_if_eq (pc := 27) 38 dX10_hand_27 (by decide) (by omega) (fun c27 => ?_) (fun c27 => ?_)
        ·
          refine wp_bipush (pc := 38) (y := (-4)) dX10_hand_38 (by decide) ?_
          exact wp_ir (pc := 40) dX10_hand_40 rfl (by decide) (by decide) (by unfold lenA; rw [if_neg (by omega), if_pos (by omega)]) ⟨by rw [show lenT T N p q n = T from if_neg (by omega)]; exact hT', SO.rf⟩
        ·
          refine wp_aload_n (pc := 30) dX10_hand_30 rfl ?_
          refine wp_iload_n (pc := 31) dX10_hand_31 rfl ?_
          refine wp_Vp (pc := 32) dX10_hand_32 cl_X10_50 (sp_Town_lives (by first | assumption | omega) (by first | assumption | omega) (by first | assumption | omega) (by first | assumption | omega)) rfl rfl (by repeat (first | assumption | exact hset_eq | refine hset_at (by omega) ?_)) (by rfl) (by decide) (Nat.le_of_ble_eq_true rfl) ?_
          first | refine wp_ifb_ne (pc := 35) 41 dX10_hand_35 (by decide) (fun c35 => ?_) (fun c35 => ?_) | refine wp_if_ne (pc := 35) 41 dX10_hand_35 (by decide) (by omega) (fun c35 => ?_) (fun c35 => ?_)
          ·
            refine wp_aload_n (pc := 41) dX10_hand_41 rfl ?_
            refine wp_getf (pc := 42) dX10_hand_42 gf_X10_18 (by repeat (first | assumption | exact hset_eq | refine hset_at (by omega) ?_)) (by rfl) ?_
            refine wp_iload_n (pc := 45) dX10_hand_45 rfl ?_
            refine wp_iald (pc := 46) dX10_hand_46 (by repeat (first | assumption | exact hset_eq | refine hset_at (by omega) ?_)) (by omega) (by omega) (by decide) ?_
            refine wp_iload_n (pc := 47) dX10_hand_47 rfl ?_
            refine wp_icmp_ge (pc := 48) 54 dX10_hand_48 (by decide) (by omega) (by omega) (fun c48 => ?_) (fun c48 => ?_)
            ·
              refine wp_iload (pc := 54) dX10_hand_54 rfl ?_
              first | refine wp_ifb_eq (pc := 56) 67 dX10_hand_56 (by decide) (fun c56 => ?_) (fun c56 => ?_) | refine wp_if_eq (pc := 56) 67 dX10_hand_56 (by decide) (by omega) (fun c56 => ?_) (fun c56 => ?_)
              ·
                omega
              ·
                refine wp_iload_n (pc := 59) dX10_hand_59 rfl ?_
                refine wp_iload_n (pc := 60) dX10_hand_60 rfl ?_
                refine wp_Sp (pc := 61) dX10_hand_61 cl_X10_63 sp_D_pair rfl rfl (by decide) (Nat.le_of_ble_eq_true rfl) ?_
                refine wp_goto (pc := 64) 72 dX10_hand_64 (by decide) ?_
                refine wp_istore (pc := 72) dX10_hand_72 (by decide) ?_
                refine wp_iload (pc := 74) dX10_hand_74 rfl ?_
                first | refine wp_ifb_eq (pc := 76) 91 dX10_hand_76 (by decide) (fun c76 => ?_) (fun c76 => ?_) | refine wp_if_eq (pc := 76) 91 dX10_hand_76 (by decide) (by omega) (fun c76 => ?_) (fun c76 => ?_)
                ·
                  omega
                ·
                  refine wp_aload_n (pc := 79) dX10_hand_79 rfl ?_
                  refine wp_getf (pc := 80) dX10_hand_80 gf_X10_15 (by repeat (first | assumption | exact hset_eq | refine hset_at (by omega) ?_)) (by rfl) ?_
                  refine wp_iload (pc := 83) dX10_hand_83 rfl ?_
                  refine wp_iald (pc := 85) dX10_hand_85 (by repeat (first | assumption | exact hset_eq | refine hset_at (by omega) ?_)) (by omega) (by omega) (by decide) ?_
                  refine wp_iload_n (pc := 86) dX10_hand_86 rfl ?_
                  refine wp_iadd (pc := 87) dX10_hand_87 ?_
                  refine wp_goto (pc := 88) 100 dX10_hand_88 (by decide) ?_
                  refine wp_istore (pc := 100) dX10_hand_100 (by decide) ?_
                  refine wp_iload (pc := 102) dX10_hand_102 rfl ?_
                  refine wp_if_lt (pc := 104) 127 dX10_hand_104 (by decide) (by omega) (fun c104 => ?_) (fun c104 => ?_)
                  ·
                    refine wp_bipush (pc := 127) (y := (-3)) dX10_hand_127 (by decide) ?_
                    exact wp_ir (pc := 129) dX10_hand_129 rfl (by decide) (by decide) (by unfold lenA; rw [if_neg (by omega), if_neg (by omega), if_neg (by omega), if_pos (by omega)]) ⟨by rw [show lenT T N p q n = T from if_neg (by omega)]; exact hT', SO.rf⟩
                  ·
                    refine wp_iload (pc := 107) dX10_hand_107 rfl ?_
                    refine wp_bipush (pc := 109) (y := 99) dX10_hand_109 (by decide) ?_
                    refine wp_icmp_gt (pc := 111) 127 dX10_hand_111 (by decide) (by omega) (by omega) (fun c111 => ?_) (fun c111 => ?_)
                    ·
                      refine wp_bipush (pc := 127) (y := (-3)) dX10_hand_127 (by decide) ?_
                      exact wp_ir (pc := 129) dX10_hand_129 rfl (by decide) (by decide) (by unfold lenA; rw [if_neg (by omega), if_neg (by omega), if_neg (by omega), if_pos (by omega)]) ⟨by rw [show lenT T N p q n = T from if_neg (by omega)]; exact hT', SO.rf⟩
                    ·
                      refine wp_aload_n (pc := 114) dX10_hand_114 rfl ?_
                      refine wp_getf (pc := 115) dX10_hand_115 gf_X10_18 (by repeat (first | assumption | exact hset_eq | refine hset_at (by omega) ?_)) (by rfl) ?_
                      refine wp_iload_n (pc := 118) dX10_hand_118 rfl ?_
                      refine wp_iald (pc := 119) dX10_hand_119 (by repeat (first | assumption | exact hset_eq | refine hset_at (by omega) ?_)) (by omega) (by omega) (by decide) ?_
                      refine wp_iload_n (pc := 120) dX10_hand_120 rfl ?_
                      refine wp_iadd (pc := 121) dX10_hand_121 ?_
                      refine wp_bipush (pc := 122) (y := 99) dX10_hand_122 (by decide) ?_
                      refine wp_icmp_le (pc := 124) 130 dX10_hand_124 (by decide) (by omega) (by omega) (fun c124 => ?_) (fun c124 => ?_)
                      ·
                        refine wp_aload_n (pc := 130) dX10_hand_130 rfl ?_
                        refine wp_getf (pc := 131) dX10_hand_131 gf_X10_18 (by repeat (first | assumption | exact hset_eq | refine hset_at (by omega) ?_)) (by rfl) ?_
                        refine wp_iload_n (pc := 134) dX10_hand_134 rfl ?_
                        first | refine wp_dup2 (pc := 135) dX10_hand_135 rfl rfl ?_ | refine wp_dup2l (pc := 135) dX10_hand_135 rfl ?_
                        refine wp_iald (pc := 136) dX10_hand_136 (by repeat (first | assumption | exact hset_eq | refine hset_at (by omega) ?_)) (by omega) (by omega) (by decide) ?_
                        refine wp_iload_n (pc := 137) dX10_hand_137 rfl ?_
                        refine wp_isub (pc := 138) dX10_hand_138 ?_
                        refine wp_iast (pc := 139) dX10_hand_139 (by repeat (first | assumption | exact hset_eq | refine hset_at (by omega) ?_)) (by omega) (by omega) (by decide) ?_
                        refine wp_aload_n (pc := 140) dX10_hand_140 rfl ?_
                        refine wp_getf (pc := 141) dX10_hand_141 gf_X10_18 (by repeat (first | assumption | exact hset_eq | refine hset_at (by omega) ?_)) (by rfl) ?_
                        refine wp_iload_n (pc := 144) dX10_hand_144 rfl ?_
                        first | refine wp_dup2 (pc := 145) dX10_hand_145 rfl rfl ?_ | refine wp_dup2l (pc := 145) dX10_hand_145 rfl ?_
                        refine wp_iald (pc := 146) dX10_hand_146 (by repeat (first | assumption | exact hset_eq | refine hset_at (by omega) ?_)) (by omega) (by omega) (by decide) ?_
                        refine wp_iload_n (pc := 147) dX10_hand_147 rfl ?_
                        refine wp_iadd (pc := 148) dX10_hand_148 ?_
                        refine wp_iast (pc := 149) dX10_hand_149 (by repeat (first | assumption | exact hset_eq | refine hset_at (by omega) ?_)) (by omega) (by omega) (by decide) ?_
                        refine wp_aload_n (pc := 150) dX10_hand_150 rfl ?_
                        refine wp_getf (pc := 151) dX10_hand_151 gf_X10_15 (by repeat (first | assumption | exact hset_eq | refine hset_at (by omega) ?_)) (by rfl) ?_
                        refine wp_iload (pc := 154) dX10_hand_154 rfl ?_
                        refine wp_iload (pc := 156) dX10_hand_156 rfl ?_
                        refine wp_iast (pc := 158) dX10_hand_158 (by repeat (first | assumption | exact hset_eq | refine hset_at (by omega) ?_)) (by omega) (by omega) (by decide) ?_
                        have e3 : lenT T N p q n = up (monT T p q n) 1 (q * 6 + p) (T 1 (q * 6 + p) + n) := if_pos (by omega)
                        have hT3 := ((hT'.s2 (a := p) (b := T 2 p - n)).s2 (a := q) (b := updI (T 2) p (T 2 p - n) q + n)).s1 (a := q * 6 + p) (b := T 1 (q * 6 + p) + n)
                        refine wp_iload (pc := 159) dX10_hand_159 rfl ?_
                        exact wp_ir (pc := 161) dX10_hand_161 rfl (by decide) (by decide) (by unfold lenA; rw [if_neg (by omega), if_neg (by omega), if_neg (by omega), if_neg (by omega)]) ⟨by rw [e3]; exact hT3, ((SO.rf.set (by omega) (by omega)).set (by omega) (by omega)).set (by omega) (by omega)⟩
                      ·
                        refine wp_bipush (pc := 127) (y := (-3)) dX10_hand_127 (by decide) ?_
                        exact wp_ir (pc := 129) dX10_hand_129 rfl (by decide) (by decide) (by unfold lenA; rw [if_neg (by omega), if_neg (by omega), if_neg (by omega), if_pos (by omega)]) ⟨by rw [show lenT T N p q n = T from if_neg (by omega)]; exact hT', SO.rf⟩
            ·
              refine wp_bipush (pc := 51) (y := (-2)) dX10_hand_51 (by decide) ?_
              exact wp_ir (pc := 53) dX10_hand_53 rfl (by decide) (by decide) (by unfold lenA; rw [if_neg (by omega), if_neg (by omega), if_pos (by omega)]) ⟨by rw [show lenT T N p q n = T from if_neg (by omega)]; exact hT', SO.rf⟩
          ·
            refine wp_bipush (pc := 38) (y := (-4)) dX10_hand_38 (by decide) ?_
            exact wp_ir (pc := 40) dX10_hand_40 rfl (by decide) (by decide) (by unfold lenA; rw [if_neg (by omega), if_pos (by omega)]) ⟨by rw [show lenT T N p q n = T from if_neg (by omega)]; exact hT', SO.rf⟩
      ·
        refine wp_iconst (pc := 20) dX10_hand_20 ?_
        exact wp_ir (pc := 21) dX10_hand_21 rfl (by decide) (by decide) (by unfold lenA; rw [if_pos (by omega)]) ⟨by rw [show lenT T N p q n = T from if_neg (by omega)]; exact hT', SO.rf⟩
theorem sp_Town_lend (hT : TownAt hp h T) (hI : TI T N) (rp : InR p) (rq : InR q) (rn : InR n) : Sp g MX10_lend (rm 3 0 0) [.ref h, .int (I p), .int (I q), .int (I n)] hp (Eff (.int (I (lenA T N p q n))) (fun hp2 => TownAt hp2 h (lenT T N p q n) ∧ SO hp hp2 h (h + 8))) := by
  have hT' := hT
  obtain ⟨t0, t1, t2, t3, t4, t5, t6, t7⟩ := hT
  refine Sp_mk rfl (Nat.le_of_ble_eq_true rfl) ?_
  show wp g _ _ _ 0 0 0 [some (.ref h), some (.int (I p)), some (.int (I q)), some (.int (I n))] [] hp
  refine wp_aload_n (pc := 0) dX10_lend_0 rfl ?_
  refine wp_iload_n (pc := 1) dX10_lend_1 rfl ?_
  refine wp_iload_n (pc := 2) dX10_lend_2 rfl ?_
  refine wp_iload_n (pc := 3) dX10_lend_3 rfl ?_
  refine wp_iconst (pc := 4) dX10_lend_4 ?_
  refine wp_Vs (pc := 5) dX10_lend_5 cl_X10_91 (sp_Town_handL (by first | assumption | omega) (by first | assumption | omega) (by first | assumption | omega) (by first | assumption | omega) (by first | assumption | omega)) rfl rfl (by repeat (first | assumption | exact hset_eq | refine hset_at (by omega) ?_)) (by rfl) (by decide) (Nat.le_of_ble_eq_true rfl) (fun hp5 e5 => ?_)
  exact wp_ir (pc := 8) dX10_lend_8 rfl (by decide) (by decide) (by first | rfl | omega) e5
theorem sp_Town_handP (hT : TownAt hp h T) (hI : TI T N) (rp : InR p) (rq : InR q) (rn : InR n) : Sp g MX10_hand (rm 2 0 0) [.ref h, .int (I p), .int (I q), .int (I n), .int (I 0)] hp (Eff (.int (I (payA T N p q n))) (fun hp2 => TownAt hp2 h (payT T N p q n) ∧ SO hp hp2 h (h + 8))) := by
  have hI' := hI
  obtain ⟨i8, iN, i0, i1, i2, i3, i4, i5, i6, i7⟩ := hI
  have hT' := hT
  obtain ⟨t0, t1, t2, t3, t4, t5, t6, t7⟩ := hT
  have := i2 p
  have := i2 q
  have := i1 (p * 6 + q)
  refine Sp_mk rfl (Nat.le_of_ble_eq_true rfl) ?_
  show wp g _ _ _ 0 0 0 [some (.ref h), some (.int (I p)), some (.int (I q)), some (.int (I n)), some (.int (I 0)), none, none] [] hp
  refine wp_aload_n (pc := 0) dX10_hand_0 rfl ?_
  refine wp_iload_n (pc := 1) dX10_hand_1 rfl ?_
  refine wp_iload_n (pc := 2) dX10_hand_2 rfl ?_
  refine wp_Vp (pc := 3) dX10_hand_3 cl_X10_95 (sp_Town_hasTwo (by first | assumption | omega) (by first | assumption | omega) (by first | assumption | omega) (by first | assumption | omega)) rfl rfl (by repeat (first | assumption | exact hset_eq | refine hset_at (by omega) ?_)) (by rfl) (by decide) (Nat.le_of_ble_eq_true rfl) ?_
  first | refine wp_ifb_eq (pc := 6) 20 dX10_hand_6 (by decide) (fun c6 => ?_) (fun c6 => ?_) | refine wp_if_eq (pc := 6) 20 dX10_hand_6 (by decide) (by omega) (fun c6 => ?_) (fun c6 => ?_)
  ·
    refine wp_iconst (pc := 20) dX10_hand_20 ?_
    exact wp_ir (pc := 21) dX10_hand_21 rfl (by decide) (by decide) (by unfold payA; rw [if_pos (by omega)]) ⟨by rw [show payT T N p q n = T from if_neg (by omega)]; exact hT', SO.rf⟩
  ·
    refine wp_iload_n (pc := 9) dX10_hand_9 rfl ?_
    refine wp_iconst (pc := 10) dX10_hand_10 ?_
    refine wp_icmp_lt (pc := 11) 20 dX10_hand_11 (by decide) (by omega) (by omega) (fun c11 => ?_) (fun c11 => ?_)
    ·
      refine wp_iconst (pc := 20) dX10_hand_20 ?_
      exact wp_ir (pc := 21) dX10_hand_21 rfl (by decide) (by decide) (by unfold payA; rw [if_pos (by omega)]) ⟨by rw [show payT T N p q n = T from if_neg (by omega)]; exact hT', SO.rf⟩
    ·
      refine wp_iload_n (pc := 14) dX10_hand_14 rfl ?_
      refine wp_bipush (pc := 15) (y := 99) dX10_hand_15 (by decide) ?_
      refine wp_icmp_le (pc := 17) 22 dX10_hand_17 (by decide) (by omega) (by omega) (fun c17 => ?_) (fun c17 => ?_)
      ·
        refine wp_aload_n (pc := 22) dX10_hand_22 rfl ?_
        refine wp_iload_n (pc := 23) dX10_hand_23 rfl ?_
        refine wp_Vp (pc := 24) dX10_hand_24 cl_X10_50 (sp_Town_lives (by first | assumption | omega) (by first | assumption | omega) (by first | assumption | omega) (by first | assumption | omega)) rfl rfl (by repeat (first | assumption | exact hset_eq | refine hset_at (by omega) ?_)) (by rfl) (by decide) (Nat.le_of_ble_eq_true rfl) ?_
        first | refine wp_ifb_eq (pc := 27) 38 dX10_hand_27 (by decide) (fun c27 => ?_) (fun c27 => ?_) | refine wp_if_eq (pc := 27) 38 dX10_hand_27 (by decide) (by omega) (fun c27 => ?_) (fun c27 => ?_)
        ·
          refine wp_bipush (pc := 38) (y := (-4)) dX10_hand_38 (by decide) ?_
          exact wp_ir (pc := 40) dX10_hand_40 rfl (by decide) (by decide) (by unfold payA; rw [if_neg (by omega), if_pos (by omega)]) ⟨by rw [show payT T N p q n = T from if_neg (by omega)]; exact hT', SO.rf⟩
        ·
          refine wp_aload_n (pc := 30) dX10_hand_30 rfl ?_
          refine wp_iload_n (pc := 31) dX10_hand_31 rfl ?_
          refine wp_Vp (pc := 32) dX10_hand_32 cl_X10_50 (sp_Town_lives (by first | assumption | omega) (by first | assumption | omega) (by first | assumption | omega) (by first | assumption | omega)) rfl rfl (by repeat (first | assumption | exact hset_eq | refine hset_at (by omega) ?_)) (by rfl) (by decide) (Nat.le_of_ble_eq_true rfl) ?_
          first | refine wp_ifb_ne (pc := 35) 41 dX10_hand_35 (by decide) (fun c35 => ?_) (fun c35 => ?_) | refine wp_if_ne (pc := 35) 41 dX10_hand_35 (by decide) (by omega) (fun c35 => ?_) (fun c35 => ?_)
          ·
            refine wp_aload_n (pc := 41) dX10_hand_41 rfl ?_
            refine wp_getf (pc := 42) dX10_hand_42 gf_X10_18 (by repeat (first | assumption | exact hset_eq | refine hset_at (by omega) ?_)) (by rfl) ?_
            refine wp_iload_n (pc := 45) dX10_hand_45 rfl ?_
            refine wp_iald (pc := 46) dX10_hand_46 (by repeat (first | assumption | exact hset_eq | refine hset_at (by omega) ?_)) (by omega) (by omega) (by decide) ?_
            refine wp_iload_n (pc := 47) dX10_hand_47 rfl ?_
            refine wp_icmp_ge (pc := 48) 54 dX10_hand_48 (by decide) (by omega) (by omega) (fun c48 => ?_) (fun c48 => ?_)
            ·
              refine wp_iload (pc := 54) dX10_hand_54 rfl ?_
              first | refine wp_ifb_eq (pc := 56) 67 dX10_hand_56 (by decide) (fun c56 => ?_) (fun c56 => ?_) | refine wp_if_eq (pc := 56) 67 dX10_hand_56 (by decide) (by omega) (fun c56 => ?_) (fun c56 => ?_)
              ·
                refine wp_iload_n (pc := 67) dX10_hand_67 rfl ?_
                refine wp_iload_n (pc := 68) dX10_hand_68 rfl ?_
                refine wp_Sp (pc := 69) dX10_hand_69 cl_X10_63 sp_D_pair rfl rfl (by decide) (Nat.le_of_ble_eq_true rfl) ?_
                refine wp_istore (pc := 72) dX10_hand_72 (by decide) ?_
                refine wp_iload (pc := 74) dX10_hand_74 rfl ?_
                first | refine wp_ifb_eq (pc := 76) 91 dX10_hand_76 (by decide) (fun c76 => ?_) (fun c76 => ?_) | refine wp_if_eq (pc := 76) 91 dX10_hand_76 (by decide) (by omega) (fun c76 => ?_) (fun c76 => ?_)
                ·
                  refine wp_aload_n (pc := 91) dX10_hand_91 rfl ?_
                  refine wp_getf (pc := 92) dX10_hand_92 gf_X10_15 (by repeat (first | assumption | exact hset_eq | refine hset_at (by omega) ?_)) (by rfl) ?_
                  refine wp_iload (pc := 95) dX10_hand_95 rfl ?_
                  refine wp_iald (pc := 97) dX10_hand_97 (by repeat (first | assumption | exact hset_eq | refine hset_at (by omega) ?_)) (by omega) (by omega) (by decide) ?_
                  refine wp_iload_n (pc := 98) dX10_hand_98 rfl ?_
                  refine wp_isub (pc := 99) dX10_hand_99 ?_
                  refine wp_istore (pc := 100) dX10_hand_100 (by decide) ?_
                  refine wp_iload (pc := 102) dX10_hand_102 rfl ?_
                  refine wp_if_lt (pc := 104) 127 dX10_hand_104 (by decide) (by omega) (fun c104 => ?_) (fun c104 => ?_)
                  ·
                    refine wp_bipush (pc := 127) (y := (-3)) dX10_hand_127 (by decide) ?_
                    exact wp_ir (pc := 129) dX10_hand_129 rfl (by decide) (by decide) (by unfold payA; rw [if_neg (by omega), if_neg (by omega), if_neg (by omega), if_pos (by omega)]) ⟨by rw [show payT T N p q n = T from if_neg (by omega)]; exact hT', SO.rf⟩
                  ·
                    refine wp_iload (pc := 107) dX10_hand_107 rfl ?_
                    refine wp_bipush (pc := 109) (y := 99) dX10_hand_109 (by decide) ?_
                    refine wp_icmp_gt (pc := 111) 127 dX10_hand_111 (by decide) (by omega) (by omega) (fun c111 => ?_) (fun c111 => ?_)
                    ·
                      refine wp_bipush (pc := 127) (y := (-3)) dX10_hand_127 (by decide) ?_
                      exact wp_ir (pc := 129) dX10_hand_129 rfl (by decide) (by decide) (by unfold payA; rw [if_neg (by omega), if_neg (by omega), if_neg (by omega), if_pos (by omega)]) ⟨by rw [show payT T N p q n = T from if_neg (by omega)]; exact hT', SO.rf⟩
                    ·
                      refine wp_aload_n (pc := 114) dX10_hand_114 rfl ?_
                      refine wp_getf (pc := 115) dX10_hand_115 gf_X10_18 (by repeat (first | assumption | exact hset_eq | refine hset_at (by omega) ?_)) (by rfl) ?_
                      refine wp_iload_n (pc := 118) dX10_hand_118 rfl ?_
                      refine wp_iald (pc := 119) dX10_hand_119 (by repeat (first | assumption | exact hset_eq | refine hset_at (by omega) ?_)) (by omega) (by omega) (by decide) ?_
                      refine wp_iload_n (pc := 120) dX10_hand_120 rfl ?_
                      refine wp_iadd (pc := 121) dX10_hand_121 ?_
                      refine wp_bipush (pc := 122) (y := 99) dX10_hand_122 (by decide) ?_
                      refine wp_icmp_le (pc := 124) 130 dX10_hand_124 (by decide) (by omega) (by omega) (fun c124 => ?_) (fun c124 => ?_)
                      ·
                        refine wp_aload_n (pc := 130) dX10_hand_130 rfl ?_
                        refine wp_getf (pc := 131) dX10_hand_131 gf_X10_18 (by repeat (first | assumption | exact hset_eq | refine hset_at (by omega) ?_)) (by rfl) ?_
                        refine wp_iload_n (pc := 134) dX10_hand_134 rfl ?_
                        first | refine wp_dup2 (pc := 135) dX10_hand_135 rfl rfl ?_ | refine wp_dup2l (pc := 135) dX10_hand_135 rfl ?_
                        refine wp_iald (pc := 136) dX10_hand_136 (by repeat (first | assumption | exact hset_eq | refine hset_at (by omega) ?_)) (by omega) (by omega) (by decide) ?_
                        refine wp_iload_n (pc := 137) dX10_hand_137 rfl ?_
                        refine wp_isub (pc := 138) dX10_hand_138 ?_
                        refine wp_iast (pc := 139) dX10_hand_139 (by repeat (first | assumption | exact hset_eq | refine hset_at (by omega) ?_)) (by omega) (by omega) (by decide) ?_
                        refine wp_aload_n (pc := 140) dX10_hand_140 rfl ?_
                        refine wp_getf (pc := 141) dX10_hand_141 gf_X10_18 (by repeat (first | assumption | exact hset_eq | refine hset_at (by omega) ?_)) (by rfl) ?_
                        refine wp_iload_n (pc := 144) dX10_hand_144 rfl ?_
                        first | refine wp_dup2 (pc := 145) dX10_hand_145 rfl rfl ?_ | refine wp_dup2l (pc := 145) dX10_hand_145 rfl ?_
                        refine wp_iald (pc := 146) dX10_hand_146 (by repeat (first | assumption | exact hset_eq | refine hset_at (by omega) ?_)) (by omega) (by omega) (by decide) ?_
                        refine wp_iload_n (pc := 147) dX10_hand_147 rfl ?_
                        refine wp_iadd (pc := 148) dX10_hand_148 ?_
                        refine wp_iast (pc := 149) dX10_hand_149 (by repeat (first | assumption | exact hset_eq | refine hset_at (by omega) ?_)) (by omega) (by omega) (by decide) ?_
                        refine wp_aload_n (pc := 150) dX10_hand_150 rfl ?_
                        refine wp_getf (pc := 151) dX10_hand_151 gf_X10_15 (by repeat (first | assumption | exact hset_eq | refine hset_at (by omega) ?_)) (by rfl) ?_
                        refine wp_iload (pc := 154) dX10_hand_154 rfl ?_
                        refine wp_iload (pc := 156) dX10_hand_156 rfl ?_
                        refine wp_iast (pc := 158) dX10_hand_158 (by repeat (first | assumption | exact hset_eq | refine hset_at (by omega) ?_)) (by omega) (by omega) (by decide) ?_
                        have e3 : payT T N p q n = up (monT T p q n) 1 (p * 6 + q) (T 1 (p * 6 + q) - n) := if_pos (by omega)
                        have hT3 := ((hT'.s2 (a := p) (b := T 2 p - n)).s2 (a := q) (b := updI (T 2) p (T 2 p - n) q + n)).s1 (a := p * 6 + q) (b := T 1 (p * 6 + q) - n)
                        refine wp_iload (pc := 159) dX10_hand_159 rfl ?_
                        exact wp_ir (pc := 161) dX10_hand_161 rfl (by decide) (by decide) (by unfold payA; rw [if_neg (by omega), if_neg (by omega), if_neg (by omega), if_neg (by omega)]) ⟨by rw [e3]; exact hT3, ((SO.rf.set (by omega) (by omega)).set (by omega) (by omega)).set (by omega) (by omega)⟩
                      ·
                        refine wp_bipush (pc := 127) (y := (-3)) dX10_hand_127 (by decide) ?_
                        exact wp_ir (pc := 129) dX10_hand_129 rfl (by decide) (by decide) (by unfold payA; rw [if_neg (by omega), if_neg (by omega), if_neg (by omega), if_pos (by omega)]) ⟨by rw [show payT T N p q n = T from if_neg (by omega)]; exact hT', SO.rf⟩
                ·
                  omega
              ·
                omega
            ·
              refine wp_bipush (pc := 51) (y := (-2)) dX10_hand_51 (by decide) ?_
              exact wp_ir (pc := 53) dX10_hand_53 rfl (by decide) (by decide) (by unfold payA; rw [if_neg (by omega), if_neg (by omega), if_pos (by omega)]) ⟨by rw [show payT T N p q n = T from if_neg (by omega)]; exact hT', SO.rf⟩
          ·
            refine wp_bipush (pc := 38) (y := (-4)) dX10_hand_38 (by decide) ?_
            exact wp_ir (pc := 40) dX10_hand_40 rfl (by decide) (by decide) (by unfold payA; rw [if_neg (by omega), if_pos (by omega)]) ⟨by rw [show payT T N p q n = T from if_neg (by omega)]; exact hT', SO.rf⟩
      ·
        refine wp_iconst (pc := 20) dX10_hand_20 ?_
        exact wp_ir (pc := 21) dX10_hand_21 rfl (by decide) (by decide) (by unfold payA; rw [if_pos (by omega)]) ⟨by rw [show payT T N p q n = T from if_neg (by omega)]; exact hT', SO.rf⟩
theorem sp_Town_pay (hT : TownAt hp h T) (hI : TI T N) (rp : InR p) (rq : InR q) (rn : InR n) : Sp g MX10_pay (rm 3 0 0) [.ref h, .int (I p), .int (I q), .int (I n)] hp (Eff (.int (I (payA T N p q n))) (fun hp2 => TownAt hp2 h (payT T N p q n) ∧ SO hp hp2 h (h + 8))) := by
  have hT' := hT
  obtain ⟨t0, t1, t2, t3, t4, t5, t6, t7⟩ := hT
  refine Sp_mk rfl (Nat.le_of_ble_eq_true rfl) ?_
  show wp g _ _ _ 0 0 0 [some (.ref h), some (.int (I p)), some (.int (I q)), some (.int (I n))] [] hp
  refine wp_aload_n (pc := 0) dX10_pay_0 rfl ?_
  refine wp_iload_n (pc := 1) dX10_pay_1 rfl ?_
  refine wp_iload_n (pc := 2) dX10_pay_2 rfl ?_
  refine wp_iload_n (pc := 3) dX10_pay_3 rfl ?_
  refine wp_iconst (pc := 4) dX10_pay_4 ?_
  refine wp_Vs (pc := 5) dX10_pay_5 cl_X10_91 (sp_Town_handP (by first | assumption | omega) (by first | assumption | omega) (by first | assumption | omega) (by first | assumption | omega) (by first | assumption | omega)) rfl rfl (by repeat (first | assumption | exact hset_eq | refine hset_at (by omega) ?_)) (by rfl) (by decide) (Nat.le_of_ble_eq_true rfl) (fun hp5 e5 => ?_)
  exact wp_ir (pc := 8) dX10_pay_8 rfl (by decide) (by decide) (by first | rfl | omega) e5
theorem sp_Town_copy (hT : TownAt hp h T) (hT2 : TownAt hp h2 T2) (hd : h + 8 ≤ h2 ∨ h2 + 8 ≤ h) : Sp g MX10_copy (rm 1 0 0) [.ref h, .ref h2] hp (Vod (fun hp2 => TownAt hp2 h T2 ∧ SO hp hp2 h (h + 8))) := by
  obtain ⟨t0, t1, t2, t3, t4, t5, t6, t7⟩ := hT
  obtain ⟨u0, u1, u2, u3, u4, u5, u6, u7⟩ := hT2
  refine Sp_mk rfl (Nat.le_of_ble_eq_true rfl) ?_
  show wp g _ _ _ 0 0 0 [some (.ref h), some (.ref h2)] [] hp
  refine wp_aload_n (pc := 0) dX10_copy_0 rfl ?_
  refine wp_getf (pc := 1) dX10_copy_1 gf_X10_9 (by repeat (first | assumption | exact hset_eq | refine hset_at (by omega) ?_)) (by rfl) ?_
  refine wp_iconst (pc := 4) dX10_copy_4 ?_
  refine wp_aload_n (pc := 5) dX10_copy_5 rfl ?_
  refine wp_getf (pc := 6) dX10_copy_6 gf_X10_9 (by repeat (first | assumption | exact hset_eq | refine hset_at (by omega) ?_)) (by rfl) ?_
  refine wp_iconst (pc := 9) dX10_copy_9 ?_
  refine wp_bipush (pc := 10) (y := 36) dX10_copy_10 (by decide) ?_
  refine wp_copy (pc := 12) dX10_copy_12 al_X10_33 ac_n ac_s ac_i (by decide) (by decide) (Nat.le_of_ble_eq_true rfl) rfl (by decide) (by repeat (first | assumption | exact hset_eq | refine hset_at (by omega) ?_)) (by repeat (first | assumption | exact hset_eq | refine hset_at (by omega) ?_)) ?_
  refine wp_aload_n (pc := 15) dX10_copy_15 rfl ?_
  refine wp_getf (pc := 16) dX10_copy_16 gf_X10_15 (by repeat (first | assumption | exact hset_eq | refine hset_at (by omega) ?_)) (by rfl) ?_
  refine wp_iconst (pc := 19) dX10_copy_19 ?_
  refine wp_aload_n (pc := 20) dX10_copy_20 rfl ?_
  refine wp_getf (pc := 21) dX10_copy_21 gf_X10_15 (by repeat (first | assumption | exact hset_eq | refine hset_at (by omega) ?_)) (by rfl) ?_
  refine wp_iconst (pc := 24) dX10_copy_24 ?_
  refine wp_bipush (pc := 25) (y := 36) dX10_copy_25 (by decide) ?_
  refine wp_copy (pc := 27) dX10_copy_27 al_X10_33 ac_n ac_s ac_i (by decide) (by decide) (Nat.le_of_ble_eq_true rfl) rfl (by decide) (by repeat (first | assumption | exact hset_eq | refine hset_at (by omega) ?_)) (by repeat (first | assumption | exact hset_eq | refine hset_at (by omega) ?_)) ?_
  refine wp_aload_n (pc := 30) dX10_copy_30 rfl ?_
  refine wp_getf (pc := 31) dX10_copy_31 gf_X10_18 (by repeat (first | assumption | exact hset_eq | refine hset_at (by omega) ?_)) (by rfl) ?_
  refine wp_iconst (pc := 34) dX10_copy_34 ?_
  refine wp_aload_n (pc := 35) dX10_copy_35 rfl ?_
  refine wp_getf (pc := 36) dX10_copy_36 gf_X10_18 (by repeat (first | assumption | exact hset_eq | refine hset_at (by omega) ?_)) (by rfl) ?_
  refine wp_iconst (pc := 39) dX10_copy_39 ?_
  refine wp_bipush (pc := 40) (y := 6) dX10_copy_40 (by decide) ?_
  refine wp_copy (pc := 42) dX10_copy_42 al_X10_33 ac_n ac_s ac_i (by decide) (by decide) (Nat.le_of_ble_eq_true rfl) rfl (by decide) (by repeat (first | assumption | exact hset_eq | refine hset_at (by omega) ?_)) (by repeat (first | assumption | exact hset_eq | refine hset_at (by omega) ?_)) ?_
  refine wp_aload_n (pc := 45) dX10_copy_45 rfl ?_
  refine wp_getf (pc := 46) dX10_copy_46 gf_X10_21 (by repeat (first | assumption | exact hset_eq | refine hset_at (by omega) ?_)) (by rfl) ?_
  refine wp_iconst (pc := 49) dX10_copy_49 ?_
  refine wp_aload_n (pc := 50) dX10_copy_50 rfl ?_
  refine wp_getf (pc := 51) dX10_copy_51 gf_X10_21 (by repeat (first | assumption | exact hset_eq | refine hset_at (by omega) ?_)) (by rfl) ?_
  refine wp_iconst (pc := 54) dX10_copy_54 ?_
  refine wp_bipush (pc := 55) (y := 6) dX10_copy_55 (by decide) ?_
  refine wp_copy (pc := 57) dX10_copy_57 al_X10_33 ac_n ac_s ac_i (by decide) (by decide) (Nat.le_of_ble_eq_true rfl) rfl (by decide) (by repeat (first | assumption | exact hset_eq | refine hset_at (by omega) ?_)) (by repeat (first | assumption | exact hset_eq | refine hset_at (by omega) ?_)) ?_
  refine wp_aload_n (pc := 60) dX10_copy_60 rfl ?_
  refine wp_getf (pc := 61) dX10_copy_61 gf_X10_24 (by repeat (first | assumption | exact hset_eq | refine hset_at (by omega) ?_)) (by rfl) ?_
  refine wp_iconst (pc := 64) dX10_copy_64 ?_
  refine wp_aload_n (pc := 65) dX10_copy_65 rfl ?_
  refine wp_getf (pc := 66) dX10_copy_66 gf_X10_24 (by repeat (first | assumption | exact hset_eq | refine hset_at (by omega) ?_)) (by rfl) ?_
  refine wp_iconst (pc := 69) dX10_copy_69 ?_
  refine wp_bipush (pc := 70) (y := 6) dX10_copy_70 (by decide) ?_
  refine wp_copy (pc := 72) dX10_copy_72 al_X10_33 ac_n ac_s ac_i (by decide) (by decide) (Nat.le_of_ble_eq_true rfl) rfl (by decide) (by repeat (first | assumption | exact hset_eq | refine hset_at (by omega) ?_)) (by repeat (first | assumption | exact hset_eq | refine hset_at (by omega) ?_)) ?_
  refine wp_aload_n (pc := 75) dX10_copy_75 rfl ?_
  refine wp_getf (pc := 76) dX10_copy_76 gf_X10_27 (by repeat (first | assumption | exact hset_eq | refine hset_at (by omega) ?_)) (by rfl) ?_
  refine wp_iconst (pc := 79) dX10_copy_79 ?_
  refine wp_aload_n (pc := 80) dX10_copy_80 rfl ?_
  refine wp_getf (pc := 81) dX10_copy_81 gf_X10_27 (by repeat (first | assumption | exact hset_eq | refine hset_at (by omega) ?_)) (by rfl) ?_
  refine wp_iconst (pc := 84) dX10_copy_84 ?_
  refine wp_bipush (pc := 85) (y := 6) dX10_copy_85 (by decide) ?_
  refine wp_copy (pc := 87) dX10_copy_87 al_X10_33 ac_n ac_s ac_i (by decide) (by decide) (Nat.le_of_ble_eq_true rfl) rfl (by decide) (by repeat (first | assumption | exact hset_eq | refine hset_at (by omega) ?_)) (by repeat (first | assumption | exact hset_eq | refine hset_at (by omega) ?_)) ?_
  refine wp_aload_n (pc := 90) dX10_copy_90 rfl ?_
  refine wp_getf (pc := 91) dX10_copy_91 gf_X10_30 (by repeat (first | assumption | exact hset_eq | refine hset_at (by omega) ?_)) (by rfl) ?_
  refine wp_iconst (pc := 94) dX10_copy_94 ?_
  refine wp_aload_n (pc := 95) dX10_copy_95 rfl ?_
  refine wp_getf (pc := 96) dX10_copy_96 gf_X10_30 (by repeat (first | assumption | exact hset_eq | refine hset_at (by omega) ?_)) (by rfl) ?_
  refine wp_iconst (pc := 99) dX10_copy_99 ?_
  refine wp_bipush (pc := 100) (y := 6) dX10_copy_100 (by decide) ?_
  refine wp_copy (pc := 102) dX10_copy_102 al_X10_33 ac_n ac_s ac_i (by decide) (by decide) (Nat.le_of_ble_eq_true rfl) rfl (by decide) (by repeat (first | assumption | exact hset_eq | refine hset_at (by omega) ?_)) (by repeat (first | assumption | exact hset_eq | refine hset_at (by omega) ?_)) ?_
  refine wp_aload_n (pc := 105) dX10_copy_105 rfl ?_
  refine wp_aload_n (pc := 106) dX10_copy_106 rfl ?_
  refine wp_getf (pc := 107) dX10_copy_107 gf_X10_39 (by repeat (first | assumption | exact hset_eq | refine hset_at (by omega) ?_)) (by rfl) ?_
  refine wp_putf (pc := 110) dX10_copy_110 pf_X10_39 (by repeat (first | assumption | exact hset_eq | refine hset_at (by omega) ?_)) (by first | decide | exact Nat.lt_of_sub_pos (by decide) | simp) rfl rfl (by first | decide | intro h; cases h) ?_
  refine wp_aload_n (pc := 113) dX10_copy_113 rfl ?_
  refine wp_aload_n (pc := 114) dX10_copy_114 rfl ?_
  refine wp_getf (pc := 115) dX10_copy_115 gf_X10_43 (by repeat (first | assumption | exact hset_eq | refine hset_at (by omega) ?_)) (by rfl) ?_
  refine wp_putf (pc := 118) dX10_copy_118 pf_X10_43 (by repeat (first | assumption | exact hset_eq | refine hset_at (by omega) ?_)) (by first | decide | exact Nat.lt_of_sub_pos (by decide) | simp) rfl rfl (by first | decide | intro h; cases h) ?_
  exact wp_vr (pc := 121) dX10_copy_121 rfl (by decide) (by decide) ⟨⟨by repeat (first | assumption | exact hset_eq | refine hset_at (by omega) ?_), by repeat (first | assumption | exact hset_eq | refine hset_at (by omega) ?_), by repeat (first | assumption | exact hset_eq | refine hset_at (by omega) ?_), by repeat (first | assumption | exact hset_eq | refine hset_at (by omega) ?_), by repeat (first | assumption | exact hset_eq | refine hset_at (by omega) ?_), by repeat (first | assumption | exact hset_eq | refine hset_at (by omega) ?_), by repeat (first | assumption | exact hset_eq | refine hset_at (by omega) ?_), by repeat (first | assumption | exact hset_eq | refine hset_at (by omega) ?_)⟩, (by repeat (first | exact SO.rf | assumption | refine SO.set ?_ (by omega) (by omega)))⟩
end TY

