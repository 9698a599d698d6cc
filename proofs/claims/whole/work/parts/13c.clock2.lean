/-! Clock: who wakes looks round -/
section CM
variable {g : GT} {hp hp2 : Hp} {C R h N n k i j s : Nat} {T : Nat → Int → Int} {F W f f' : Int → Int} {a b c x y p : Int} {cs : List Int}
/-- f' from a to b, f elsewhere -/
def btw (f f' : Int → Int) (a b : Int) : Int → Int := fun x => if a ≤ x ∧ x < b then f' x else f x
theorem btw_at : btw f f' a b b = f b := if_neg (by omega)
theorem btw_upd {v : Int} (hab : a ≤ b) (hv : v = f' b) : updI (btw f f' a b) b v = btw f f' a (b + 1) := by
  funext x
  unfold updI btw
  by_cases e : x = b
  · rw [if_pos e, if_pos (by omega), hv, e]
  · rw [if_neg e]
    by_cases z : a ≤ x ∧ x < b
    · rw [if_pos z, if_pos (by omega)]
    · rw [if_neg z, if_neg (by omega)]
theorem btw_skip (hv : f b = f' b) : btw f f' a b = btw f f' a (b + 1) := by
  funext x
  unfold btw
  by_cases e : x = b
  · rw [e, if_neg (by omega)]
    by_cases z : a ≤ b ∧ b < b + 1
    · rw [if_pos z]; exact hv
    · rw [if_neg z]
  · by_cases z : a ≤ x ∧ x < b
    · rw [if_pos z, if_pos (by omega)]
    · rw [if_neg z, if_neg (by omega)]
theorem btw_0 : btw f f' a a = f := by
  funext x
  unfold btw
  rw [if_neg (by omega)]
/-- the opinion at x of its one, who looks round -/
def lrf (W : Int → Int) (T : Nat → Int → Int) : Int → Int := fun x => if (T 6 (x / 6)).toNat.testBit (x % 6).toNat = true then T 0 x + cmp (W (x % 6 * 6 + x / 6)) (T 0 x) else T 0 x
theorem cmp_step {a b : Int} (ha : 0 ≤ a ∧ a ≤ 9) (hb : 0 ≤ b ∧ b ≤ 9) : 0 ≤ b + cmp a b ∧ b + cmp a b ≤ 9 := by unfold cmp; split <;> (try split) <;> omega
theorem lrf_congr {T T' : Nat → Int → Int} (h6 : T' 6 = T 6) (h0 : T' 0 x = T 0 x) : lrf W T' x = lrf W T x := by
  unfold lrf
  rw [h6, h0]
theorem lrf_in (hI : TI T N) (rW : ∀ i, 0 ≤ W i ∧ W i ≤ 9) : 0 ≤ lrf W T x ∧ lrf W T x ≤ 9 := by
  have h0 := hI.2.2.1 x
  unfold lrf
  split
  · exact cmp_step (rW _) h0
  · exact h0
theorem lp_look (hI : TI T N) (rF : ∀ i, 0 ≤ F i ∧ F i ≤ 9) (hd : h + 8 ≤ C ∨ C + 2 ≤ h) (hn : n < 6) : ∀ (m i : Nat), N < i + m → i ≤ N → ∀ (hp2 : Hp) (c0 : hp2.2 C = some (.inr (.inr (0, [.ref (C + 1)])))) (c1 : hp2.2 (C + 1) = some (.inl (.int, 36, F))) (hT : TownAt hp2 h (one T 0 (btw (T 0) (lrf F T) ((n : Int) * 6) ((n : Int) * 6 + i)))) (hS : SO hp hp2 h (h + 8)), wp g MX0_lookRound (rm 1 0 0) (Vod (fun hp2 => TownAt hp2 h (one T 0 (btw (T 0) (lrf F T) ((n : Int) * 6) ((n : Int) * 6 + N))) ∧ SO hp hp2 h (h + 8))) 0 0 2 [some (.ref C), some (.ref h), some (.int (I (n : Int))), some (.int (I (i : Int))), none] [] hp2 := by
  intro m
  induction m with
  | zero => intro i h1 h2; exact absurd h1 (by omega)
  | succ m ih =>
    intro i h1 h2 hp2 c0 c1 hT hS
    obtain ⟨i8, iN, i0, i1, i2, i3, i4, i5, i6, i7⟩ := hI
    have hT' := hT
    obtain ⟨t0, t1, t2, t3, t4, t5, t6, t7⟩ := hT
    have a8 : one T 0 (btw (T 0) (lrf F T) ((n : Int) * 6) ((n : Int) * 6 + i)) 8 0 = T 8 0 := rfl
    have a0 : one T 0 (btw (T 0) (lrf F T) ((n : Int) * 6) ((n : Int) * 6 + i)) 0 ((n : Int) * 6 + i) = T 0 ((n : Int) * 6 + i) := btw_at
    have h0 := i0 ((n : Int) * 6 + i)
    have h6 := i6 (n : Int)
    have e6 : one T 0 (btw (T 0) (lrf F T) ((n : Int) * 6) ((n : Int) * 6 + i)) 6 (n : Int) = ((T 6 (n : Int)).toNat : Int) := by show T 6 (n : Int) = _; omega
    have hF := rF ((i : Int) * 6 + n)
    refine wp_iload_n (pc := 2) dX0_lookRound_2 rfl ?_
    refine wp_aload_n (pc := 3) dX0_lookRound_3 rfl ?_
    refine wp_getf (pc := 4) dX0_lookRound_4 gf_X0_40 (by repeat (first | assumption | exact hset_eq | refine hset_at (by omega) ?_)) (by rfl) ?_
    refine wp_icmp_ge (pc := 7) 66 dX0_lookRound_7 (by decide) (by omega) (by omega) (fun c7 => ?_) (fun c7 => ?_)
    ·
      have e : i = N := by omega
      subst e -- go
      exact wp_vr (pc := 66) dX0_lookRound_66 rfl (by decide) (by decide) ⟨hT', hS⟩
    ·
      have d1 : ((n : Int) * 6 + i) / 6 = n := by omega
      have d2 : ((n : Int) * 6 + i) % 6 = i := by omega -- go
      refine wp_iload_n (pc := 10) dX0_lookRound_10 rfl ?_
      refine wp_aload_n (pc := 11) dX0_lookRound_11 rfl ?_
      refine wp_getf (pc := 12) dX0_lookRound_12 gf_X0_75 (by repeat (first | assumption | exact hset_eq | refine hset_at (by omega) ?_)) (by rfl) ?_
      refine wp_iload_n (pc := 15) dX0_lookRound_15 rfl ?_
      refine wp_iald (pc := 16) dX0_lookRound_16 (by repeat (first | assumption | exact hset_eq | refine hset_at (by omega) ?_)) (by omega) (by omega) (by decide) ?_
      refine wp_topE e6 ?_
      refine wp_Sp (pc := 17) dX0_lookRound_17 cl_X0_78 (sp_D_isIn (s := (T 6 (n : Int)).toNat) (k := i) (by omega) (by omega)) rfl rfl (by decide) (Nat.le_of_ble_eq_true rfl) ?_
      first | refine wp_ifb_eq (pc := 20) 60 dX0_lookRound_20 (by decide) (fun c20 => ?_) (fun c20 => ?_) | refine wp_if_eq (pc := 20) 60 dX0_lookRound_20 (by decide) (by omega) (fun c20 => ?_) (fun c20 => ?_)
      ·
        have e1 : one T 0 (btw (T 0) (lrf F T) ((n : Int) * 6) ((n : Int) * 6 + i)) = one T 0 (btw (T 0) (lrf F T) ((n : Int) * 6) ((n : Int) * 6 + (i + 1))) := by rw [btw_skip (f := T 0) (f' := lrf F T) (by unfold lrf; rw [d1, d2, if_neg (by rw [Int.toNat_natCast]; exact c20)]), Int.add_assoc]
        rw [e1] at hT' -- go
        refine wp_iinc (pc := 60) dX0_lookRound_60 rfl (by decide) ?_
        refine wp_goto (pc := 63) 2 dX0_lookRound_63 (by decide) ?_
        first
        | refine wp_ls ?_ (ih (i + 1) (by omega) (by omega) hp2 c0 c1 hT' hS)
          repeat' (first | exact LE_0 | refine LE_s rfl ?_ | refine LE_s (I_c (by first | omega | (simp only [sm]; omega))) ?_ | refine LE_s (J_c (by first | omega | exact Int.pow_succ _ _ | exact (Int.pow_succ _ _).symm | exact (Int.pow_zero _).symm | (simp only [sm]; omega))) ?_ | refine LE_n ?_)
        | refine wp_ls ?_ (ih (i + 1) (by omega) (by omega) _ (hset_at (by omega) c0) (hset_at (by omega) c1) (by have := hT'.s0 (a := (n : Int) * 6 + i) (b := T 0 ((n : Int) * 6 + i) + cmp (F ((i : Int) * 6 + n)) (T 0 ((n : Int) * 6 + i))); rw [e1] at this; exact this) (hS.set (by omega) (by omega)))
          repeat' (first | exact LE_0 | refine LE_s rfl ?_ | refine LE_s (I_c (by first | omega | (simp only [sm]; omega))) ?_ | refine LE_s (J_c (by first | omega | exact Int.pow_succ _ _ | exact (Int.pow_succ _ _).symm | exact (Int.pow_zero _).symm | (simp only [sm]; omega))) ?_ | refine LE_n ?_)
      ·
        have e1 : up (one T 0 (btw (T 0) (lrf F T) ((n : Int) * 6) ((n : Int) * 6 + i))) 0 ((n : Int) * 6 + i) (T 0 ((n : Int) * 6 + i) + cmp (F ((i : Int) * 6 + n)) (T 0 ((n : Int) * 6 + i))) = one T 0 (btw (T 0) (lrf F T) ((n : Int) * 6) ((n : Int) * 6 + (i + 1))) := by rw [one_up, btw_upd (f := T 0) (f' := lrf F T) (by omega) (by unfold lrf; rw [d1, d2, if_pos (by rw [Int.toNat_natCast]; exact c20)]), Int.add_assoc]
        skip -- go
        refine wp_iload_n (pc := 23) dX0_lookRound_23 rfl ?_
        refine wp_iload_n (pc := 24) dX0_lookRound_24 rfl ?_
        refine wp_Sp (pc := 25) dX0_lookRound_25 cl_X0_50 sp_D_pair rfl rfl (by decide) (Nat.le_of_ble_eq_true rfl) ?_
        refine wp_istore (pc := 28) dX0_lookRound_28 (by decide) ?_
        refine wp_aload_n (pc := 30) dX0_lookRound_30 rfl ?_
        refine wp_getf (pc := 31) dX0_lookRound_31 gf_X0_89 (by repeat (first | assumption | exact hset_eq | refine hset_at (by omega) ?_)) (by rfl) ?_
        refine wp_iload (pc := 34) dX0_lookRound_34 rfl ?_
        first | refine wp_dup2 (pc := 36) dX0_lookRound_36 rfl rfl ?_ | refine wp_dup2l (pc := 36) dX0_lookRound_36 rfl ?_
        refine wp_iald (pc := 37) dX0_lookRound_37 (by repeat (first | assumption | exact hset_eq | refine hset_at (by omega) ?_)) (by omega) (by omega) (by decide) ?_
        refine wp_topE a0 ?_
        refine wp_aload_n (pc := 38) dX0_lookRound_38 rfl ?_
        refine wp_getf (pc := 39) dX0_lookRound_39 gf_X0_9 (by repeat (first | assumption | exact hset_eq | refine hset_at (by omega) ?_)) (by rfl) ?_
        refine wp_iload_n (pc := 42) dX0_lookRound_42 rfl ?_
        refine wp_iload_n (pc := 43) dX0_lookRound_43 rfl ?_
        refine wp_Sp (pc := 44) dX0_lookRound_44 cl_X0_50 sp_D_pair rfl rfl (by decide) (Nat.le_of_ble_eq_true rfl) ?_
        refine wp_iald (pc := 47) dX0_lookRound_47 (by repeat (first | assumption | exact hset_eq | refine hset_at (by omega) ?_)) (by omega) (by omega) (by decide) ?_
        refine wp_aload_n (pc := 48) dX0_lookRound_48 rfl ?_
        refine wp_getf (pc := 49) dX0_lookRound_49 gf_X0_89 (by repeat (first | assumption | exact hset_eq | refine hset_at (by omega) ?_)) (by rfl) ?_
        refine wp_iload (pc := 52) dX0_lookRound_52 rfl ?_
        refine wp_iald (pc := 54) dX0_lookRound_54 (by repeat (first | assumption | exact hset_eq | refine hset_at (by omega) ?_)) (by omega) (by omega) (by decide) ?_
        refine wp_topE a0 ?_
        refine wp_Sp (pc := 55) dX0_lookRound_55 cl_X0_92 (sp_Integer_compare (by first | assumption | omega) (by first | assumption | omega)) rfl rfl (by decide) (Nat.le_of_ble_eq_true rfl) ?_
        refine wp_iadd (pc := 58) dX0_lookRound_58 ?_
        refine wp_iast (pc := 59) dX0_lookRound_59 (by repeat (first | assumption | exact hset_eq | refine hset_at (by omega) ?_)) (by omega) (by omega) (by decide) ?_
        refine wp_iinc (pc := 60) dX0_lookRound_60 rfl (by decide) ?_
        refine wp_goto (pc := 63) 2 dX0_lookRound_63 (by decide) ?_
        first
        | refine wp_ls ?_ (ih (i + 1) (by omega) (by omega) hp2 c0 c1 hT' hS)
          repeat' (first | exact LE_0 | refine LE_s rfl ?_ | refine LE_s (I_c (by first | omega | (simp only [sm]; omega))) ?_ | refine LE_s (J_c (by first | omega | exact Int.pow_succ _ _ | exact (Int.pow_succ _ _).symm | exact (Int.pow_zero _).symm | (simp only [sm]; omega))) ?_ | refine LE_n ?_)
        | refine wp_ls ?_ (ih (i + 1) (by omega) (by omega) _ (hset_at (by omega) c0) (hset_at (by omega) c1) (by have := hT'.s0 (a := (n : Int) * 6 + i) (b := T 0 ((n : Int) * 6 + i) + cmp (F ((i : Int) * 6 + n)) (T 0 ((n : Int) * 6 + i))); rw [e1] at this; exact this) (hS.set (by omega) (by omega)))
          repeat' (first | exact LE_0 | refine LE_s rfl ?_ | refine LE_s (I_c (by first | omega | (simp only [sm]; omega))) ?_ | refine LE_s (J_c (by first | omega | exact Int.pow_succ _ _ | exact (Int.pow_succ _ _).symm | exact (Int.pow_zero _).symm | (simp only [sm]; omega))) ?_ | refine LE_n ?_)
theorem sp_Clock_lookRound (hT : TownAt hp h T) (hI : TI T N) (c0 : hp.2 C = some (.inr (.inr (0, [.ref (C + 1)])))) (c1 : hp.2 (C + 1) = some (.inl (.int, 36, F))) (rF : ∀ i, 0 ≤ F i ∧ F i ≤ 9) (hd : h + 8 ≤ C ∨ C + 2 ≤ h) (hn : n < 6) : Sp g MX0_lookRound (rm 1 0 0) [.ref C, .ref h, .int (I (n : Int))] hp (Vod (fun hp2 => TownAt hp2 h (one T 0 (btw (T 0) (lrf F T) ((n : Int) * 6) ((n : Int) * 6 + N))) ∧ SO hp hp2 h (h + 8))) := by
  refine Sp_mk rfl (Nat.le_of_ble_eq_true rfl) ?_
  show wp g _ _ _ 0 0 0 [some (.ref C), some (.ref h), some (.int (I (n : Int))), none, none] [] hp
  refine wp_iconst (pc := 0) dX0_lookRound_0 ?_
  refine wp_istore_n (pc := 1) dX0_lookRound_1 (by decide) ?_
  refine wp_ls ?_ (lp_look hI rF hd hn (N + 1) 0 (by omega) (by omega) hp c0 c1 (by rw [show (n : Int) * 6 + ((0 : Nat) : Int) = (n : Int) * 6 by omega, btw_0, one_id]; exact hT) SO.rf)
  repeat' (first | exact LE_0 | refine LE_s rfl ?_ | refine LE_s (I_c (by first | omega | (simp only [sm]; omega))) ?_ | refine LE_s (J_c (by first | omega | exact Int.pow_succ _ _ | exact (Int.pow_succ _ _).symm | exact (Int.pow_zero _).symm | (simp only [sm]; omega))) ?_ | refine LE_n ?_)
/-- opinions and hours left behind an hour, of those who were dead -/
def wkO (W : Int → Int) (T : Nat → Int → Int) (N : Nat) : Int → Int := fun x => if T 5 (x / 6) = 1 ∧ x % 6 < N then lrf W T x else T 0 x
def wkD (T : Nat → Int → Int) : Int → Int := fun x => if T 5 x = 0 then 0 else T 5 x - 1
def wkT (W : Int → Int) (T : Nat → Int → Int) (N : Nat) (i : Int) : Nat → Int → Int := two T 0 5 (upto (T 0) (wkO W T N) (i * 6)) (upto (T 5) (wkD T) i)
theorem wkT_I {i : Int} (hI : TI T N) (rW : ∀ i, 0 ≤ W i ∧ W i ≤ 9) : TI (wkT W T N i) N := by
  have hl := fun x => lrf_in (x := x) hI rW
  obtain ⟨i8, iN, i0, i1, i2, i3, i4, i5, i6, i7⟩ := hI
  refine ⟨i8, iN, fun y => ?_, i1, i2, i3, i4, fun y => ?_, i6, i7⟩
  · show 0 ≤ upto (T 0) (wkO W T N) (i * 6) y ∧ upto (T 0) (wkO W T N) (i * 6) y ≤ 9
    have := i0 y
    unfold upto wkO
    split
    · split
      · exact hl y
      · exact this
    · exact this
  · show 0 ≤ upto (T 5) (wkD T) i y ∧ upto (T 5) (wkD T) i y ≤ 9
    have := i5 y
    unfold upto wkD
    split
    · split <;> omega
    · exact this
def wkc (T : Nat → Int → Int) (n : Nat) : Nat := cnt (fun j => decide (T 5 (j : Int) = 1)) n
theorem lp_wake (hI : TI T N) (rF : ∀ i, 0 ≤ F i ∧ F i ≤ 9) (hd : h + 8 ≤ C ∨ C + 2 ≤ h) : ∀ (m i : Nat), N < i + m → i ≤ N → ∀ (hp2 : Hp) (c0 : hp2.2 C = some (.inr (.inr (0, [.ref (C + 1)])))) (c1 : hp2.2 (C + 1) = some (.inl (.int, 36, F))) (hT : TownAt hp2 h (wkT F T N (i : Int))) (hS : SO hp hp2 h (h + 8)), wp g MX0_wake (rm 2 0 0) (Eff (.int (I ((wkc T N : Nat) : Int))) (fun hp2 => TownAt hp2 h (wkT F T N (N : Int)) ∧ SO hp hp2 h (h + 8))) 0 0 4 [some (.ref C), some (.ref h), some (.int (I ((wkc T i : Nat) : Int))), some (.int (I (i : Int)))] [] hp2 := by
  intro m
  induction m with
  | zero => intro i h1 h2; exact absurd h1 (by omega)
  | succ m ih =>
    intro i h1 h2 hp2 c0 c1 hT hS
    have hI2 := wkT_I (i := (i : Int)) hI rF
    have hI' := hI
    obtain ⟨i8, iN, i0, i1, i2, i3, i4, i5, i6, i7⟩ := hI
    have hT' := hT
    obtain ⟨t0, t1, t2, t3, t4, t5, t6, t7⟩ := hT
    have a5 : wkT F T N (i : Int) 5 (i : Int) = T 5 (i : Int) := upto_at (by omega)
    have a8 : wkT F T N (i : Int) 8 0 = T 8 0 := rfl
    have h5 := i5 (i : Int)
    refine wp_iload_n (pc := 4) dX0_wake_4 rfl ?_
    refine wp_aload_n (pc := 5) dX0_wake_5 rfl ?_
    refine wp_getf (pc := 6) dX0_wake_6 gf_X0_40 (by repeat (first | assumption | exact hset_eq | refine hset_at (by omega) ?_)) (by rfl) ?_
    refine wp_icmp_ge (pc := 9) 53 dX0_wake_9 (by decide) (by omega) (by omega) (fun c9 => ?_) (fun c9 => ?_)
    ·
      have e : i = N := by omega
      subst e -- go
      refine wp_iload_n (pc := 53) dX0_wake_53 rfl ?_
      exact wp_ir (pc := 54) dX0_wake_54 rfl (by decide) (by decide) (by first | rfl | omega) ⟨hT', hS⟩
    ·
      have hdv : ∀ x : Int, (i : Int) * 6 ≤ x → x < ((i : Int) + 1) * 6 → x / 6 = i := fun x z1 z2 => by omega
      skip -- go
      refine wp_aload_n (pc := 12) dX0_wake_12 rfl ?_
      refine wp_iload_n (pc := 13) dX0_wake_13 rfl ?_
      refine wp_Vp (pc := 14) dX0_wake_14 cl_X0_43 (sp_Town_lives hT' hI2 (by omega) (by omega)) rfl rfl (by repeat (first | assumption | exact hset_eq | refine hset_at (by omega) ?_)) (by rfl) (by decide) (Nat.le_of_ble_eq_true rfl) ?_
      first | refine wp_ifb_ne (pc := 17) 47 dX0_wake_17 (by decide) (fun c17 => ?_) (fun c17 => ?_) | refine wp_if_ne (pc := 17) 47 dX0_wake_17 (by decide) (by omega) (fun c17 => ?_) (fun c17 => ?_)
      ·
        have c17 : T 5 (i : Int) = 0 := by rw [← a5]; exact c17
        have e1 : wkT F T N (i : Int) = wkT F T N ((i : Int) + 1) := by
          unfold wkT
          rw [upto_skip (f := T 5) (f' := wkD T) (by unfold wkD; rw [if_pos c17, c17]), upto_jump (f := T 0) (f' := wkO F T N) (show (i : Int) * 6 ≤ ((i : Int) + 1) * 6 by omega) (fun x z1 z2 => by unfold wkO; rw [hdv x z1 z2, if_neg (by omega)])]
        rw [e1] at hT'
        have ec : wkc T (i + 1) = wkc T i := by show _ + _ = _; rw [if_neg (by simp [c17])]; rfl
        skip -- go
        refine wp_iinc (pc := 47) dX0_wake_47 rfl (by decide) ?_
        refine wp_goto (pc := 50) 4 dX0_wake_50 (by decide) ?_
        first
        | refine wp_ls ?_ (ih (i + 1) (by omega) (by omega) hp2 c0 c1 hT' hS)
          rw [ec]
          repeat' (first | exact LE_0 | refine LE_s rfl ?_ | refine LE_s (I_c (by first | omega | (simp only [sm]; omega))) ?_ | refine LE_s (J_c (by first | omega | exact Int.pow_succ _ _ | exact (Int.pow_succ _ _).symm | exact (Int.pow_zero _).symm | (simp only [sm]; omega))) ?_ | refine LE_n ?_)
        | refine wp_ls ?_ (ih (i + 1) (by omega) (by omega) hp44 ((hS4.2 _ (by omega)).trans (hset_at (by omega) c0)) ((hS4.2 _ (by omega)).trans (hset_at (by omega) c1)) hT4 ((hS.set (by omega) (by omega)).tr hS4))
          rw [ec]
          repeat' (first | exact LE_0 | refine LE_s rfl ?_ | refine LE_s (I_c (by first | omega | (simp only [sm]; omega))) ?_ | refine LE_s (J_c (by first | omega | exact Int.pow_succ _ _ | exact (Int.pow_succ _ _).symm | exact (Int.pow_zero _).symm | (simp only [sm]; omega))) ?_ | refine LE_n ?_)
        | refine wp_ls ?_ (ih (i + 1) (by omega) (by omega) _ (hset_at (by omega) c0) (hset_at (by omega) c1) hT3 (hS.set (by omega) (by omega)))
          rw [ec]
          repeat' (first | exact LE_0 | refine LE_s rfl ?_ | refine LE_s (I_c (by first | omega | (simp only [sm]; omega))) ?_ | refine LE_s (J_c (by first | omega | exact Int.pow_succ _ _ | exact (Int.pow_succ _ _).symm | exact (Int.pow_zero _).symm | (simp only [sm]; omega))) ?_ | refine LE_n ?_)
      ·
        have c17 : ¬ T 5 (i : Int) = 0 := by rw [← a5]; exact c17
        have hT3 := hT'.s5 (a := (i : Int)) (b := T 5 (i : Int) - 1)
        have eT3 : up (wkT F T N (i : Int)) 5 (i : Int) (T 5 (i : Int) - 1) = two T 0 5 (upto (T 0) (wkO F T N) ((i : Int) * 6)) (upto (T 5) (wkD T) ((i : Int) + 1)) := by
          funext x
          unfold up wkT two
          by_cases z5 : x = 5
          · subst z5
            exact upto_upd (f := T 5) (f' := wkD T) (by unfold wkD; rw [if_neg c17])
          · rw [if_neg z5]
            by_cases z0 : x = 0
            · rw [if_pos z0, if_pos z0]
            · rw [if_neg z0, if_neg z0, if_neg z5, if_neg z5]
        rw [eT3] at hT3
        have hI3 : TI (two T 0 5 (upto (T 0) (wkO F T N) ((i : Int) * 6)) (upto (T 5) (wkD T) ((i : Int) + 1))) N := by have := hI2.u5 (a := (i : Int)) (b := T 5 (i : Int) - 1) (by omega); rwa [eT3] at this
        have a53 : two T 0 5 (upto (T 0) (wkO F T N) ((i : Int) * 6)) (upto (T 5) (wkD T) ((i : Int) + 1)) 5 (i : Int) = T 5 (i : Int) - 1 := by show upto (T 5) (wkD T) ((i : Int) + 1) (i : Int) = _; unfold upto wkD; rw [if_pos (by omega), if_neg c17]
        skip -- go
        refine wp_aload_n (pc := 20) dX0_wake_20 rfl ?_
        refine wp_getf (pc := 21) dX0_wake_21 gf_X0_47 (by repeat (first | assumption | exact hset_eq | refine hset_at (by omega) ?_)) (by rfl) ?_
        refine wp_iload_n (pc := 24) dX0_wake_24 rfl ?_
        first | refine wp_dup2 (pc := 25) dX0_wake_25 rfl rfl ?_ | refine wp_dup2l (pc := 25) dX0_wake_25 rfl ?_
        refine wp_iald (pc := 26) dX0_wake_26 (by repeat (first | assumption | exact hset_eq | refine hset_at (by omega) ?_)) (by omega) (by omega) (by decide) ?_
        refine wp_topE a5 ?_
        refine wp_iconst (pc := 27) dX0_wake_27 ?_
        refine wp_isub (pc := 28) dX0_wake_28 ?_
        refine wp_iast (pc := 29) dX0_wake_29 (by repeat (first | assumption | exact hset_eq | refine hset_at (by omega) ?_)) (by omega) (by omega) (by decide) ?_
        refine wp_aload_n (pc := 30) dX0_wake_30 rfl ?_
        refine wp_iload_n (pc := 31) dX0_wake_31 rfl ?_
        refine wp_Vp (pc := 32) dX0_wake_32 cl_X0_43 (sp_Town_lives hT3 hI3 (by omega) (by omega)) rfl rfl hT3.1 (by rfl) (by decide) (Nat.le_of_ble_eq_true rfl) ?_
        first | refine wp_ifb_eq (pc := 35) 47 dX0_wake_35 (by decide) (fun c35 => ?_) (fun c35 => ?_) | refine wp_if_eq (pc := 35) 47 dX0_wake_35 (by decide) (by omega) (fun c35 => ?_) (fun c35 => ?_)
        ·
          have c35 : ¬ T 5 (i : Int) = 1 := fun z => c35 (by rw [a53]; omega)
          have e1 : two T 0 5 (upto (T 0) (wkO F T N) ((i : Int) * 6)) (upto (T 5) (wkD T) ((i : Int) + 1)) = wkT F T N ((i : Int) + 1) := by
            unfold wkT
            rw [upto_jump (f := T 0) (f' := wkO F T N) (show (i : Int) * 6 ≤ ((i : Int) + 1) * 6 by omega) (fun x z1 z2 => by unfold wkO; rw [hdv x z1 z2, if_neg (fun z => c35 z.1)])]
          rw [e1] at hT3
          have ec : wkc T (i + 1) = wkc T i := by show _ + _ = _; rw [if_neg (by simp [c35])]; rfl
          skip -- go
          refine wp_iinc (pc := 47) dX0_wake_47 rfl (by decide) ?_
          refine wp_goto (pc := 50) 4 dX0_wake_50 (by decide) ?_
          first
          | refine wp_ls ?_ (ih (i + 1) (by omega) (by omega) hp2 c0 c1 hT' hS)
            rw [ec]
            repeat' (first | exact LE_0 | refine LE_s rfl ?_ | refine LE_s (I_c (by first | omega | (simp only [sm]; omega))) ?_ | refine LE_s (J_c (by first | omega | exact Int.pow_succ _ _ | exact (Int.pow_succ _ _).symm | exact (Int.pow_zero _).symm | (simp only [sm]; omega))) ?_ | refine LE_n ?_)
          | refine wp_ls ?_ (ih (i + 1) (by omega) (by omega) hp44 ((hS4.2 _ (by omega)).trans (hset_at (by omega) c0)) ((hS4.2 _ (by omega)).trans (hset_at (by omega) c1)) hT4 ((hS.set (by omega) (by omega)).tr hS4))
            rw [ec]
            repeat' (first | exact LE_0 | refine LE_s rfl ?_ | refine LE_s (I_c (by first | omega | (simp only [sm]; omega))) ?_ | refine LE_s (J_c (by first | omega | exact Int.pow_succ _ _ | exact (Int.pow_succ _ _).symm | exact (Int.pow_zero _).symm | (simp only [sm]; omega))) ?_ | refine LE_n ?_)
          | refine wp_ls ?_ (ih (i + 1) (by omega) (by omega) _ (hset_at (by omega) c0) (hset_at (by omega) c1) hT3 (hS.set (by omega) (by omega)))
            rw [ec]
            repeat' (first | exact LE_0 | refine LE_s rfl ?_ | refine LE_s (I_c (by first | omega | (simp only [sm]; omega))) ?_ | refine LE_s (J_c (by first | omega | exact Int.pow_succ _ _ | exact (Int.pow_succ _ _).symm | exact (Int.pow_zero _).symm | (simp only [sm]; omega))) ?_ | refine LE_n ?_)
        ·
          have c35 : T 5 (i : Int) = 1 := by rw [a53] at c35; omega
          have ec : wkc T (i + 1) = wkc T i + 1 := by show _ + _ = _; rw [if_pos (by simp [c35])]; rfl
          skip -- go
          refine wp_iinc (pc := 38) dX0_wake_38 rfl (by decide) ?_
          refine wp_aload_n (pc := 41) dX0_wake_41 rfl ?_
          refine wp_aload_n (pc := 42) dX0_wake_42 rfl ?_
          refine wp_iload_n (pc := 43) dX0_wake_43 rfl ?_
          refine wp_Vn (pc := 44) dX0_wake_44 cl_X0_85 (sp_Clock_lookRound hT3 hI3 (hset_at (by omega) c0) (hset_at (by omega) c1) rF hd (by omega)) rfl rfl (hset_at (by omega) c0) (by rfl) (by decide) (Nat.le_of_ble_eq_true rfl) (fun hp44 e44 => ?_)
          obtain ⟨hT4, hS4⟩ := e44
          have e1 : one (two T 0 5 (upto (T 0) (wkO F T N) ((i : Int) * 6)) (upto (T 5) (wkD T) ((i : Int) + 1))) 0 (btw (two T 0 5 (upto (T 0) (wkO F T N) ((i : Int) * 6)) (upto (T 5) (wkD T) ((i : Int) + 1)) 0) (lrf F (two T 0 5 (upto (T 0) (wkO F T N) ((i : Int) * 6)) (upto (T 5) (wkD T) ((i : Int) + 1)))) ((i : Int) * 6) ((i : Int) * 6 + N)) = wkT F T N ((i : Int) + 1) := by
            funext k
            unfold one wkT two
            by_cases z0 : k = 0
            · subst z0
              rw [if_pos rfl]
              funext x
              show btw (upto (T 0) (wkO F T N) ((i : Int) * 6)) (lrf F _) ((i : Int) * 6) ((i : Int) * 6 + N) x = upto (T 0) (wkO F T N) (((i : Int) + 1) * 6) x
              unfold btw
              by_cases z : (i : Int) * 6 ≤ x ∧ x < (i : Int) * 6 + N
              · rw [if_pos z, show upto (T 0) (wkO F T N) (((i : Int) + 1) * 6) x = wkO F T N x from if_pos (by omega)]
                have ew : wkO F T N x = lrf F T x := by unfold wkO; rw [hdv x z.1 (by omega), if_pos (show T 5 (i : Int) = 1 ∧ x % 6 < (N : Int) from ⟨c35, by omega⟩)]
                rw [ew]
                exact lrf_congr rfl (show upto (T 0) (wkO F T N) ((i : Int) * 6) x = T 0 x from if_neg (by omega))
              · rw [if_neg z]
                unfold upto
                by_cases y1 : 0 ≤ x ∧ x < (i : Int) * 6
                · rw [if_pos y1, if_pos (by omega)]
                · rw [if_neg y1]
                  by_cases y2 : 0 ≤ x ∧ x < ((i : Int) + 1) * 6
                  · rw [if_pos y2]; unfold wkO; rw [hdv x (by omega) y2.2, if_neg (by omega)]
                  · rw [if_neg y2]
            · rw [if_neg z0, if_neg z0, if_neg z0]
          rw [e1] at hT4
          refine wp_iinc (pc := 47) dX0_wake_47 rfl (by decide) ?_
          refine wp_goto (pc := 50) 4 dX0_wake_50 (by decide) ?_
          first
          | refine wp_ls ?_ (ih (i + 1) (by omega) (by omega) hp2 c0 c1 hT' hS)
            rw [ec]
            repeat' (first | exact LE_0 | refine LE_s rfl ?_ | refine LE_s (I_c (by first | omega | (simp only [sm]; omega))) ?_ | refine LE_s (J_c (by first | omega | exact Int.pow_succ _ _ | exact (Int.pow_succ _ _).symm | exact (Int.pow_zero _).symm | (simp only [sm]; omega))) ?_ | refine LE_n ?_)
          | refine wp_ls ?_ (ih (i + 1) (by omega) (by omega) hp44 ((hS4.2 _ (by omega)).trans (hset_at (by omega) c0)) ((hS4.2 _ (by omega)).trans (hset_at (by omega) c1)) hT4 ((hS.set (by omega) (by omega)).tr hS4))
            rw [ec]
            repeat' (first | exact LE_0 | refine LE_s rfl ?_ | refine LE_s (I_c (by first | omega | (simp only [sm]; omega))) ?_ | refine LE_s (J_c (by first | omega | exact Int.pow_succ _ _ | exact (Int.pow_succ _ _).symm | exact (Int.pow_zero _).symm | (simp only [sm]; omega))) ?_ | refine LE_n ?_)
          | refine wp_ls ?_ (ih (i + 1) (by omega) (by omega) _ (hset_at (by omega) c0) (hset_at (by omega) c1) hT3 (hS.set (by omega) (by omega)))
            rw [ec]
            repeat' (first | exact LE_0 | refine LE_s rfl ?_ | refine LE_s (I_c (by first | omega | (simp only [sm]; omega))) ?_ | refine LE_s (J_c (by first | omega | exact Int.pow_succ _ _ | exact (Int.pow_succ _ _).symm | exact (Int.pow_zero _).symm | (simp only [sm]; omega))) ?_ | refine LE_n ?_)
theorem sp_Clock_wake (hT : TownAt hp h T) (hI : TI T N) (c0 : hp.2 C = some (.inr (.inr (0, [.ref (C + 1)])))) (c1 : hp.2 (C + 1) = some (.inl (.int, 36, F))) (rF : ∀ i, 0 ≤ F i ∧ F i ≤ 9) (hd : h + 8 ≤ C ∨ C + 2 ≤ h) : Sp g MX0_wake (rm 2 0 0) [.ref C, .ref h] hp (Eff (.int (I ((wkc T N : Nat) : Int))) (fun hp2 => TownAt hp2 h (wkT F T N (N : Int)) ∧ SO hp hp2 h (h + 8))) := by
  have e0 : wkT F T N 0 = T := by
    funext x
    unfold wkT two
    rw [show (0 : Int) * 6 = 0 from rfl, upto_0, upto_0]
    by_cases z3 : x = 0
    · rw [if_pos z3, z3]
    · rw [if_neg z3]
      by_cases z6 : x = 5
      · rw [if_pos z6, z6]
      · rw [if_neg z6]
  refine Sp_mk rfl (Nat.le_of_ble_eq_true rfl) ?_
  show wp g _ _ _ 0 0 0 [some (.ref C), some (.ref h), none, none] [] hp
  refine wp_iconst (pc := 0) dX0_wake_0 ?_
  refine wp_istore_n (pc := 1) dX0_wake_1 (by decide) ?_
  refine wp_iconst (pc := 2) dX0_wake_2 ?_
  refine wp_istore_n (pc := 3) dX0_wake_3 (by decide) ?_
  refine wp_ls ?_ (lp_wake hI rF hd (N + 1) 0 (by omega) (by omega) hp c0 c1 (by show TownAt hp h (wkT F T N 0); rw [e0]; exact hT) SO.rf)
  repeat' (first | exact LE_0 | refine LE_s rfl ?_ | refine LE_s (I_c (by first | omega | (simp only [sm]; omega))) ?_ | refine LE_s (J_c (by first | omega | exact Int.pow_succ _ _ | exact (Int.pow_succ _ _).symm | exact (Int.pow_zero _).symm | (simp only [sm]; omega))) ?_ | refine LE_n ?_)
end CM

