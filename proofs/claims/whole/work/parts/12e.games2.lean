/-! Games: coughs by chance, eulogies at rest -/
section GB
variable {g : GT} {hp hp2 : Hp} {G r N h n k : Nat} {W Y Z F : Int → Int} {T : Nat → Int → Int} {a b c d o v x y p : Int} {l : List Int}
theorem lp_power (hn : n < 1000) : ∀ (m i : Nat), n < i + m → i ≤ n → wp g MX2_power (rm 0 0 0) (Pur (.long (J (a ^ n))) hp) 0 0 5 [some (.long (J a)), none, some (.int (I (n : Int))), some (.long (J (a ^ i))), none, some (.int (I (i : Int)))] [] hp := by
  intro m
  induction m with
  | zero => intro i h1 h2; exact absurd h1 (by omega)
  | succ m ih =>
    intro i h1 h2
    refine wp_iload (pc := 5) dX2_power_5 rfl ?_
    refine wp_iload_n (pc := 7) dX2_power_7 rfl ?_
    refine wp_icmp_ge (pc := 8) 21 dX2_power_8 (by decide) (by omega) (by omega) (fun c8 => ?_) (fun c8 => ?_)
    ·
      have e : i = n := by omega
      subst e -- go
      refine wp_lload_n (pc := 21) dX2_power_21 rfl ?_
      exact wp_lr (pc := 22) dX2_power_22 rfl (by decide) (by decide) (by first | rfl | omega) rfl
    ·
      refine wp_lload_n (pc := 11) dX2_power_11 rfl ?_
      refine wp_lload_n (pc := 12) dX2_power_12 rfl ?_
      refine wp_lmul (pc := 13) dX2_power_13 ?_
      refine wp_lstore_n (pc := 14) dX2_power_14 (by decide) ?_
      refine wp_iinc (pc := 15) dX2_power_15 rfl (by decide) ?_
      refine wp_goto (pc := 18) 5 dX2_power_18 (by decide) ?_
      refine wp_ls ?_ (ih (i + 1) (by omega) (by omega))
      · repeat' (first | exact LE_0 | refine LE_s rfl ?_ | refine LE_s (I_c (by first | omega | (simp only [sm]; omega))) ?_ | refine LE_s (J_c (by first | omega | exact Int.pow_succ _ _ | exact (Int.pow_succ _ _).symm | exact (Int.pow_zero _).symm | (simp only [sm]; omega))) ?_ | refine LE_n ?_)
theorem sp_Games_power (hn : n < 1000) : Sp g MX2_power (rm 0 0 0) [.long (J a), .int (I (n : Int))] hp (Pur (.long (J (a ^ n))) hp) := by
  refine Sp_mk rfl (Nat.le_of_ble_eq_true rfl) ?_
  show wp g _ _ _ 0 0 0 [some (.long (J a)), none, some (.int (I (n : Int))), none, none, none] [] hp
  refine wp_lcst (pc := 0) (y := 1) dX2_power_0 rfl ?_
  refine wp_lstore_n (pc := 1) dX2_power_1 (by decide) ?_
  refine wp_iconst (pc := 2) dX2_power_2 ?_
  refine wp_istore (pc := 3) dX2_power_3 (by decide) ?_
  refine wp_ls ?_ (lp_power hn (n + 1) 0 (by omega) (by omega))
  repeat' (first | exact LE_0 | refine LE_s rfl ?_ | refine LE_s (I_c (by first | omega | (simp only [sm]; omega))) ?_ | refine LE_s (J_c (by first | omega | exact Int.pow_succ _ _ | exact (Int.pow_succ _ _).symm | exact (Int.pow_zero _).symm | (simp only [sm]; omega))) ?_ | refine LE_n ?_)
/-- one more, who keeps quiet by q of A -/
def adq (q A : Int) (Y : Int → Int) : Int → Int := fun i => Y i * (A - q) + (if 0 < i then Y (i - 1) else 0) * q
theorem jn_addQuiet {q A w : Int} {Q : Option Value → Hp → Prop} (hx : 0 ≤ x ∧ x ≤ 6) (g0 : hp.2 G = some (.inr (.inr (2, [.ref (G + 1), .ref (G + 2), .ref (G + 3)])))) (g2 : hp.2 (G + 2) = some (.inl (.long, 7, F))) (K : wp g MX2_addQuiet (rm 0 0 0) Q 0 0 4 [some (.ref G), some (.long (J q)), none, some (.long (J A)), none, some (.int (I (x - 1))), none, none] [] (hset hp (G + 2) (.inl (.long, 7, updI F x (F x * (A - q) + w * q))))) : wp g MX2_addQuiet (rm 0 0 0) Q 0 0 27 [some (.ref G), some (.long (J q)), none, some (.long (J A)), none, some (.int (I x)), none, none] [.long (J w)] hp := by
  refine wp_lstore (pc := 27) dX2_addQuiet_27 (by decide) ?_
  refine wp_aload_n (pc := 29) dX2_addQuiet_29 rfl ?_
  refine wp_getf (pc := 30) dX2_addQuiet_30 gf_X2_15 (by repeat (first | assumption | exact hset_eq | refine hset_at (by omega) ?_)) (by rfl) ?_
  refine wp_iload (pc := 33) dX2_addQuiet_33 rfl ?_
  refine wp_aload_n (pc := 35) dX2_addQuiet_35 rfl ?_
  refine wp_getf (pc := 36) dX2_addQuiet_36 gf_X2_15 (by repeat (first | assumption | exact hset_eq | refine hset_at (by omega) ?_)) (by rfl) ?_
  refine wp_iload (pc := 39) dX2_addQuiet_39 rfl ?_
  refine wp_lald (pc := 41) dX2_addQuiet_41 g2 (by omega) (by omega) (by decide) ?_
  refine wp_lload_n (pc := 42) dX2_addQuiet_42 rfl ?_
  refine wp_lload_n (pc := 43) dX2_addQuiet_43 rfl ?_
  refine wp_lsub (pc := 44) dX2_addQuiet_44 ?_
  refine wp_lmul (pc := 45) dX2_addQuiet_45 ?_
  refine wp_lload (pc := 46) dX2_addQuiet_46 rfl ?_
  refine wp_lload_n (pc := 48) dX2_addQuiet_48 rfl ?_
  refine wp_lmul (pc := 49) dX2_addQuiet_49 ?_
  refine wp_ladd (pc := 50) dX2_addQuiet_50 ?_
  refine wp_last (pc := 51) dX2_addQuiet_51 g2 (by omega) (by omega) (by decide) ?_
  refine wp_iinc (pc := 52) dX2_addQuiet_52 rfl (by decide) ?_
  refine wp_goto (pc := 55) 4 dX2_addQuiet_55 (by decide) ?_
  refine wp_ls ?_ K
  repeat' (first | exact LE_0 | refine LE_s rfl ?_ | refine LE_s (I_c (by first | omega | (simp only [sm]; omega))) ?_ | refine LE_s (J_c (by first | omega | exact Int.pow_succ _ _ | exact (Int.pow_succ _ _).symm | exact (Int.pow_zero _).symm | (simp only [sm]; omega))) ?_ | refine LE_n ?_)
theorem lp_addQuiet {q A : Int} : ∀ (m i : Nat), 7 < i + m → i ≤ 7 → ∀ (hp2 : Hp) (F : Int → Int) (g0 : hp2.2 G = some (.inr (.inr (2, [.ref (G + 1), .ref (G + 2), .ref (G + 3)])))) (g2 : hp2.2 (G + 2) = some (.inl (.long, 7, F))) (hF : ∀ j : Int, 0 ≤ j → j ≤ 6 → F j = if j ≤ 6 - i then Y j else adq q A Y j) (hS : SO hp hp2 (G + 2) (G + 3)), wp g MX2_addQuiet (rm 0 0 0) (Vod (fun hp2 => (∃ F, hp2.2 (G + 2) = some (.inl (.long, 7, F)) ∧ ∀ j : Int, 0 ≤ j → j ≤ 6 → F j = adq q A Y j) ∧ SO hp hp2 (G + 2) (G + 3))) 0 0 4 [some (.ref G), some (.long (J q)), none, some (.long (J A)), none, some (.int (I (6 - (i : Int)))), none, none] [] hp2 := by
  intro m
  induction m with
  | zero => intro i h1 h2; exact absurd h1 (by omega)
  | succ m ih =>
    intro i h1 h2 hp2 F g0 g2 hF hS
    have ihx : ∀ w : Int, i < 7 → w = (if 0 < 6 - (i : Int) then Y (6 - (i : Int) - 1) else 0) → wp g MX2_addQuiet (rm 0 0 0) (Vod (fun hp2 => (∃ F, hp2.2 (G + 2) = some (.inl (.long, 7, F)) ∧ ∀ j : Int, 0 ≤ j → j ≤ 6 → F j = adq q A Y j) ∧ SO hp hp2 (G + 2) (G + 3))) 0 0 27 [some (.ref G), some (.long (J q)), none, some (.long (J A)), none, some (.int (I (6 - (i : Int)))), none, none] [.long (J w)] hp2 := by
      intro w hi hw
      refine jn_addQuiet (by omega) g0 g2 (wp_ls ?_ (ih (i + 1) (by omega) (by omega) _ (updI F (6 - (i : Int)) (F (6 - (i : Int)) * (A - q) + w * q)) (hset_at (by omega) g0) hset_eq (fun j h3 h4 => ?_) (hS.set (by omega) (by omega))))
      · repeat' (first | exact LE_0 | refine LE_s rfl ?_ | refine LE_s (I_c (by first | omega | (simp only [sm]; omega))) ?_ | refine LE_n ?_)
      · by_cases z : j = 6 - (i : Int)
        · rw [z, updI_eq, if_neg (by omega), hF _ (by omega) (by omega), if_pos (by omega), hw]
          rfl
        · rw [updI_ne z, hF j h3 h4]
          by_cases z2 : j ≤ 6 - (i : Int)
          · rw [if_pos z2, if_pos (by omega)]
          · rw [if_neg z2, if_neg (by omega)]
    refine wp_iload (pc := 4) dX2_addQuiet_4 rfl ?_
    refine wp_if_lt (pc := 6) 58 dX2_addQuiet_6 (by decide) (by omega) (fun c6 => ?_) (fun c6 => ?_)
    ·
      have e : i = 7 := by omega
      subst e -- go
      exact wp_vr (pc := 58) dX2_addQuiet_58 rfl (by decide) (by decide) ⟨⟨F, g2, fun j h1 h2 => by rw [hF j h1 h2, if_neg (by omega)]⟩, hS⟩
    ·
      refine wp_iload (pc := 9) dX2_addQuiet_9 rfl ?_
      refine wp_if_le (pc := 11) 26 dX2_addQuiet_11 (by decide) (by omega) (fun c11 => ?_) (fun c11 => ?_)
      ·
        refine wp_lcst (pc := 26) (y := 0) dX2_addQuiet_26 rfl ?_
        first
        | exact ihx _ (by omega) (by rw [if_pos (by omega), hF _ (by omega) (by omega), if_pos (by omega)])
        | exact ihx 0 (by omega) (by rw [if_neg (by omega)])
      ·
        refine wp_aload_n (pc := 14) dX2_addQuiet_14 rfl ?_
        refine wp_getf (pc := 15) dX2_addQuiet_15 gf_X2_15 (by repeat (first | assumption | exact hset_eq | refine hset_at (by omega) ?_)) (by rfl) ?_
        refine wp_iload (pc := 18) dX2_addQuiet_18 rfl ?_
        refine wp_iconst (pc := 20) dX2_addQuiet_20 ?_
        refine wp_isub (pc := 21) dX2_addQuiet_21 ?_
        refine wp_lald (pc := 22) dX2_addQuiet_22 g2 (by omega) (by omega) (by decide) ?_
        refine wp_goto (pc := 23) 27 dX2_addQuiet_23 (by decide) ?_
        first
        | exact ihx _ (by omega) (by rw [if_pos (by omega), hF _ (by omega) (by omega), if_pos (by omega)])
        | exact ihx 0 (by omega) (by rw [if_neg (by omega)])
theorem sp_Games_addQuiet {q A : Int} (g0 : hp.2 G = some (.inr (.inr (2, [.ref (G + 1), .ref (G + 2), .ref (G + 3)])))) (g2 : hp.2 (G + 2) = some (.inl (.long, 7, Y))) : Sp g MX2_addQuiet (rm 0 0 0) [.ref G, .long (J q), .long (J A)] hp (Vod (fun hp2 => (∃ F, hp2.2 (G + 2) = some (.inl (.long, 7, F)) ∧ ∀ j : Int, 0 ≤ j → j ≤ 6 → F j = adq q A Y j) ∧ SO hp hp2 (G + 2) (G + 3))) := by
  refine Sp_mk rfl (Nat.le_of_ble_eq_true rfl) ?_
  show wp g _ _ _ 0 0 0 [some (.ref G), some (.long (J q)), none, some (.long (J A)), none, none, none, none] [] hp
  refine wp_bipush (pc := 0) (y := 6) dX2_addQuiet_0 (by decide) ?_
  refine wp_istore (pc := 2) dX2_addQuiet_2 (by decide) ?_
  refine wp_ls ?_ (lp_addQuiet 8 0 (by omega) (by omega) hp Y g0 g2 (fun j h1 h2 => by rw [if_pos (by omega)]) SO.rf)
  repeat' (first | exact LE_0 | refine LE_s rfl ?_ | refine LE_s (I_c (by first | omega | (simp only [sm]; omega))) ?_ | refine LE_s (J_c (by first | omega | exact Int.pow_succ _ _ | exact (Int.pow_succ _ _).symm | exact (Int.pow_zero _).symm | (simp only [sm]; omega))) ?_ | refine LE_n ?_)
/-! the greatest common divisor, by at most so many steps -/
def eu : Nat → Nat → Nat → Nat
  | 0, a, _ => a
  | n + 1, a, b => if b = 0 then a else eu n b (a % b)
theorem eu_ok : ∀ (k n a b : Nat), 2 * k + 1 ≤ n → b < 2 ^ k → eu n a b = Nat.gcd a b
  | 0, n, a, b, hn, hb => by
    have e : b = 0 := by simpa using hb
    subst e
    match n, hn with
    | n + 1, _ => simp [eu]
  | k + 1, n, a, b, hn, hb => by
    match n, hn with
    | n + 2, hn =>
      unfold eu
      by_cases h0 : b = 0
      · rw [if_pos h0, h0]; simp
      · rw [if_neg h0]
        unfold eu
        by_cases h1 : a % b = 0
        · rw [if_pos h1, Nat.gcd_comm a b, Nat.gcd_rec b a, h1]; simp
        · rw [if_neg h1, eu_ok k n _ _ (by omega) ?_]
          · rw [Nat.gcd_comm a b, Nat.gcd_rec b a, Nat.gcd_rec (a % b) b, Nat.gcd_comm]
          · have hr := Nat.mod_lt a (Nat.pos_of_ne_zero h0)
            have hr2 := Nat.mod_lt b (Nat.pos_of_ne_zero h1)
            have h3 := Nat.div_add_mod b (a % b)
            have h4 : 1 ≤ b / (a % b) := (Nat.one_le_div_iff (Nat.pos_of_ne_zero h1)).mpr (by omega)
            have h5 : (a % b) * 1 ≤ (a % b) * (b / (a % b)) := Nat.mul_le_mul_left _ h4
            rw [Nat.pow_succ] at hb
            omega
theorem J_cmp {a b : Int} (ha : JR a) (hb : JR b) : lg_cmp (J a) (J b) = I (cmp a b) := by
  unfold lg_cmp cmp
  have h1 : (J b < J a) ↔ b < a := by rw [Int64.lt_iff_toInt_lt, J_toInt ha, J_toInt hb]
  have h2 := J_eq ha hb
  by_cases z : b < a
  · rw [if_pos (h1.mpr z), if_neg (by omega), if_neg (by omega)]; rfl
  · rw [if_neg (fun y => z (h1.mp y))]
    by_cases z2 : a = b
    · rw [if_pos (h2.mpr z2), if_neg (by omega), if_pos z2]; rfl
    · rw [if_neg (fun y => z2 (h2.mp y)), if_pos (by omega)]; rfl
theorem cmp_in (a b : Int) : -1 ≤ cmp a b ∧ cmp a b ≤ 1 ∧ (cmp a b < 0 ↔ a < b) ∧ (cmp a b = 0 ↔ a = b) := by unfold cmp; split <;> (try split) <;> omega
theorem lp_commonDivisor  : ∀ (m i : Nat), 200 < i + m → i ≤ 200 → ∀ (a b : Nat) (ha : a < 9223372036854775808) (hb : b < 9223372036854775808), wp g MX2_commonDivisor (rm 1 0 0) (Pur (.long (J ((max 1 (eu (200 - i) a b) : Nat) : Int))) hp) 0 0 9 [some (.long (J x)), none, some (.long (J y)), none, some (.long (J (a : Int))), none, some (.long (J (b : Int))), none, some (.int (I (i : Int))), none, none] [] hp := by
  intro m
  induction m with
  | zero => intro i h1 h2; exact absurd h1 (by omega)
  | succ m ih =>
    intro i h1 h2 a b ha hb
    have hc := cmp_in (b : Int) 0
    refine wp_iload (pc := 9) dX2_commonDivisor_9 rfl ?_
    refine wp_sipush (pc := 11) (y := 200) dX2_commonDivisor_11 (by decide) ?_
    refine wp_icmp_ge (pc := 14) 45 dX2_commonDivisor_14 (by decide) (by omega) (by omega) (fun c14 => ?_) (fun c14 => ?_)
    ·
      have e : eu (200 - i) a b = a := by
        by_cases z : i = 200
        · rw [z]; rfl
        · rw [show 200 - i = (200 - i - 1) + 1 by omega]; unfold eu; rw [if_pos (by omega)]
      rw [e]
      refine wp_lcst (pc := 45) (y := 1) dX2_commonDivisor_45 rfl ?_
      refine wp_lload (pc := 46) dX2_commonDivisor_46 rfl ?_
      refine wp_maxl (pc := 48) dX2_commonDivisor_48 cl_X2_72 (by decide) (by decide) (by decide) (by decide) (Nat.le_of_ble_eq_true rfl) (by omega) (by omega) ?_
      exact wp_lr (pc := 51) dX2_commonDivisor_51 rfl (by decide) (by decide) (by unfold mx; split <;> omega) rfl
    ·
      refine wp_lload (pc := 17) dX2_commonDivisor_17 rfl ?_
      refine wp_lcst (pc := 19) (y := 0) dX2_commonDivisor_19 rfl ?_
      refine wp_lcmp (pc := 20) dX2_commonDivisor_20 (J_cmp (by omega) (by omega)) ?_
      first | refine wp_ifb_eq (pc := 21) 45 dX2_commonDivisor_21 (by decide) (fun c21 => ?_) (fun c21 => ?_) | refine wp_if_eq (pc := 21) 45 dX2_commonDivisor_21 (by decide) (by omega) (fun c21 => ?_) (fun c21 => ?_)
      ·
        have e : eu (200 - i) a b = a := by
          by_cases z : i = 200
          · rw [z]; rfl
          · rw [show 200 - i = (200 - i - 1) + 1 by omega]; unfold eu; rw [if_pos (by omega)]
        rw [e]
        refine wp_lcst (pc := 45) (y := 1) dX2_commonDivisor_45 rfl ?_
        refine wp_lload (pc := 46) dX2_commonDivisor_46 rfl ?_
        refine wp_maxl (pc := 48) dX2_commonDivisor_48 cl_X2_72 (by decide) (by decide) (by decide) (by decide) (Nat.le_of_ble_eq_true rfl) (by omega) (by omega) ?_
        exact wp_lr (pc := 51) dX2_commonDivisor_51 rfl (by decide) (by decide) (by unfold mx; split <;> omega) rfl
      ·
        have e : eu (200 - i) a b = eu (200 - (i + 1)) b (a % b) := by rw [show 200 - i = (200 - (i + 1)) + 1 by omega]; show (if _ then _ else _) = _; rw [if_neg (by omega)]
        rw [e]
        refine wp_lload (pc := 24) dX2_commonDivisor_24 rfl ?_
        refine wp_lload (pc := 26) dX2_commonDivisor_26 rfl ?_
        refine wp_lrem (pc := 28) dX2_commonDivisor_28 (J_ne0 (by omega) (by omega)) (J_rem (by omega) (by omega) (by omega) (by omega)) ?_
        refine wp_lstore (pc := 29) dX2_commonDivisor_29 (by decide) ?_
        refine wp_lload (pc := 31) dX2_commonDivisor_31 rfl ?_
        refine wp_lstore (pc := 33) dX2_commonDivisor_33 (by decide) ?_
        refine wp_lload (pc := 35) dX2_commonDivisor_35 rfl ?_
        refine wp_lstore (pc := 37) dX2_commonDivisor_37 (by decide) ?_
        refine wp_iinc (pc := 39) dX2_commonDivisor_39 rfl (by decide) ?_
        refine wp_goto (pc := 42) 9 dX2_commonDivisor_42 (by decide) ?_
        refine wp_ls ?_ (ih (i + 1) (by omega) (by omega) b (a % b) hb (Nat.lt_of_le_of_lt (Nat.mod_le a b) ha))
        repeat' (first | exact LE_0 | refine LE_s rfl ?_ | refine LE_s (I_c (by first | omega | (simp only [sm]; omega))) ?_ | refine LE_s (J_c (by first | omega | exact Int.pow_succ _ _ | exact (Int.pow_succ _ _).symm | exact (Int.pow_zero _).symm | (simp only [sm]; omega))) ?_ | refine LE_n ?_)
theorem sp_Games_commonDivisor (ha : n < 9223372036854775808) (hb : k < 9223372036854775808) : Sp g MX2_commonDivisor (rm 1 0 0) [.long (J (n : Int)), .long (J (k : Int))] hp (Pur (.long (J ((max 1 (Nat.gcd n k) : Nat) : Int))) hp) := by
  rw [← eu_ok 64 200 n k (by omega) (by omega)]
  refine Sp_mk rfl (Nat.le_of_ble_eq_true rfl) ?_
  show wp g _ _ _ 0 0 0 [some (.long (J (n : Int))), none, some (.long (J (k : Int))), none, none, none, none, none, none, none, none] [] hp
  refine wp_lload_n (pc := 0) dX2_commonDivisor_0 rfl ?_
  refine wp_lstore (pc := 1) dX2_commonDivisor_1 (by decide) ?_
  refine wp_lload_n (pc := 3) dX2_commonDivisor_3 rfl ?_
  refine wp_lstore (pc := 4) dX2_commonDivisor_4 (by decide) ?_
  refine wp_iconst (pc := 6) dX2_commonDivisor_6 ?_
  refine wp_istore (pc := 7) dX2_commonDivisor_7 (by decide) ?_
  refine wp_ls ?_ (lp_commonDivisor (x := (n : Int)) (y := (k : Int)) 201 0 (by omega) (by omega) n k ha hb)
  repeat' (first | exact LE_0 | refine LE_s rfl ?_ | refine LE_s (I_c (by first | omega | (simp only [sm]; omega))) ?_ | refine LE_s (J_c (by first | omega | exact Int.pow_succ _ _ | exact (Int.pow_succ _ _).symm | exact (Int.pow_zero _).symm | (simp only [sm]; omega))) ?_ | refine LE_n ?_)
/-! how likely: by people, the ways by how many keep quiet -/
def qs (p : Int) (T : Nat → Int → Int) : Nat → Int → Int
  | 0 => fun j => if j = 0 then 1 else 0
  | i + 1 => if T 5 (i : Int) = 0 then qs p T i else adq ((10 - p) ^ (T 5 (i : Int)).toNat) (10 ^ (T 5 (i : Int)).toNat) (qs p T i)
theorem adq_sum (q A : Int) (Y : Int → Int) : ∀ n : Nat, sm (adq q A Y) (n + 1) = (A - q) * sm Y (n + 1) + q * sm Y n
  | 0 => by simp [sm, adq, Int.mul_comm]
  | n + 1 => by
    have ih := adq_sum q A Y n
    have e1 : sm (adq q A Y) (n + 1 + 1) = sm (adq q A Y) (n + 1) + adq q A Y ((n + 1 : Nat) : Int) := rfl
    have e2 : sm Y (n + 1 + 1) = sm Y (n + 1) + Y ((n + 1 : Nat) : Int) := rfl
    have e3 : sm Y (n + 1) = sm Y n + Y (n : Int) := rfl
    rw [e1, ih, e2]
    unfold adq
    rw [if_pos (by omega), show ((n + 1 : Nat) : Int) - 1 = (n : Int) by omega, Int.mul_add, Int.mul_comm (Y ((n + 1 : Nat) : Int)) (A - q), e3, Int.mul_add q, Int.mul_comm (Y (n : Int)) q]
    omega
theorem qs_in {p : Int} (hI : TI T N) (hp0 : 0 ≤ p ∧ p ≤ 10) : ∀ i : Nat, (∀ j, 0 ≤ qs p T i j) ∧ sm (qs p T i) 7 ≤ 10 ^ (sm (T 5) i).toNat
  | 0 => ⟨fun j => by unfold qs; split <;> omega, by show sm (fun j => if j = 0 then 1 else 0) 7 ≤ 1; decide⟩
  | i + 1 => by
    have h := qs_in hI hp0 i
    have hd := hI.2.2.2.2.2.2.2.1 (i : Int)
    have hs : 0 ≤ sm (T 5) i := by
      have := (sm_range (f := T 5) (lo := 0) (hi := 9) (n := i) (fun j _ => hI.2.2.2.2.2.2.2.1 j)).1
      omega
    unfold qs
    by_cases z : T 5 (i : Int) = 0
    · rw [if_pos z]
      have : sm (T 5) (i + 1) = sm (T 5) i := by show _ + _ = _; rw [z]; omega
      rw [this]
      exact h
    · rw [if_neg z]
      have hq : (0 : Int) ≤ (10 - p) ^ (T 5 (i : Int)).toNat := Int.pow_nonneg (by omega)
      have hA : (0 : Int) ≤ 10 ^ (T 5 (i : Int)).toNat := Int.pow_nonneg (by omega)
      have hqA : (10 - p) ^ (T 5 (i : Int)).toNat ≤ (10 : Int) ^ (T 5 (i : Int)).toNat := by
        rw [show 10 - p = ((10 - p).toNat : Int) by omega, show (10 : Int) = ((10 : Nat) : Int) from rfl, ← Int.natCast_pow, ← Int.natCast_pow]
        exact Int.ofNat_le.mpr (Nat.pow_le_pow_left (by omega) _)
      refine ⟨fun j => ?_, ?_⟩
      · unfold adq
        refine Int.add_nonneg (Int.mul_nonneg (h.1 j) (by omega)) (Int.mul_nonneg ?_ hq)
        split
        · exact h.1 _
        · omega
      · rw [adq_sum]
        have e : (sm (T 5) (i + 1)).toNat = (sm (T 5) i).toNat + (T 5 (i : Int)).toNat := by show (sm (T 5) i + T 5 (i : Int)).toNat = _; omega
        rw [e, Int.pow_add, Int.mul_comm ((10 : Int) ^ (sm (T 5) i).toNat)]
        have h6 : sm (qs p T i) 6 ≤ sm (qs p T i) 7 := by show sm (qs p T i) 6 ≤ sm (qs p T i) 6 + qs p T i ((6 : Nat) : Int); have := h.1 ((6 : Nat) : Int); omega
        have h7 : (10 - p) ^ (T 5 (i : Int)).toNat * sm (qs p T i) 6 ≤ (10 - p) ^ (T 5 (i : Int)).toNat * sm (qs p T i) 7 := Int.mul_le_mul_of_nonneg_left h6 hq
        have h8 : (10 : Int) ^ (T 5 (i : Int)).toNat * sm (qs p T i) 7 ≤ 10 ^ (T 5 (i : Int)).toNat * 10 ^ (sm (T 5) i).toNat := Int.mul_le_mul_of_nonneg_left h.2 hA
        have e7 : sm (qs p T i) (6 + 1) = sm (qs p T i) 7 := rfl
        rw [Int.sub_mul, e7]
        omega
def smf (f : Int → Int) (k : Nat) (n : Nat) : Int := sm (fun j => f ((k : Int) + j)) n
theorem lp_quiet1 {Q : Option Value → Hp → Prop} (K : ∀ hp2 F, GamesAt hp2 G → hp2.2 (G + 2) = some (.inl (.long, 7, F)) → (∀ j : Int, 0 ≤ j → j ≤ 6 → F j = qs p T 0 j) → SO hp hp2 G (G + 4) → wp g MX2_quietChance (rm 3 0 0) Q 0 0 33 [some (.ref G), some (.ref h), some (.int (I (k : Int))), some (.int (I p)), some (.ref r), none, none, none, none, none, none] [] hp2) : ∀ (m i : Nat), 7 < i + m → i ≤ 7 → ∀ (hp2 : Hp) (F : Int → Int) (hG : GamesAt hp2 G) (g2 : hp2.2 (G + 2) = some (.inl (.long, 7, F))) (hF : ∀ j : Int, 0 ≤ j → j < i → F j = qs p T 0 j) (hS : SO hp hp2 G (G + 4)), wp g MX2_quietChance (rm 3 0 0) Q 0 0 3 [some (.ref G), some (.ref h), some (.int (I (k : Int))), some (.int (I p)), some (.ref r), some (.int (I (i : Int))), none, none, none, none, none] [] hp2 := by
  intro m
  induction m with
  | zero => intro i h1 h2; exact absurd h1 (by omega)
  | succ m ih =>
    intro i h1 h2 hp2 F hG g2 hF hS
    have hG' := hG
    obtain ⟨g0, ⟨W, g1, rW⟩, -, ⟨Z, g3⟩⟩ := hG
    refine wp_iload (pc := 3) dX2_quietChance_3 rfl ?_
    refine wp_bipush (pc := 5) (y := 6) dX2_quietChance_5 (by decide) ?_
    refine wp_icmp_gt (pc := 7) 33 dX2_quietChance_7 (by decide) (by omega) (by omega) (fun c7 => ?_) (fun c7 => ?_)
    ·
      refine wp_ls ?_ (K hp2 F hG' g2 (fun j h1 h2 => hF j h1 (by omega)) hS)
      · repeat' (first | exact LE_0 | refine LE_s rfl ?_ | refine LE_s (I_c (by first | omega | (simp only [sm]; omega))) ?_ | refine LE_s (J_c (by first | omega | exact Int.pow_succ _ _ | exact (Int.pow_succ _ _).symm | exact (Int.pow_zero _).symm | (simp only [sm]; omega))) ?_ | refine LE_n ?_)
    ·
      refine wp_aload_n (pc := 10) dX2_quietChance_10 rfl ?_
      refine wp_getf (pc := 11) dX2_quietChance_11 gf_X2_15 (by repeat (first | assumption | exact hset_eq | refine hset_at (by omega) ?_)) (by rfl) ?_
      refine wp_iload (pc := 14) dX2_quietChance_14 rfl ?_
      refine wp_iload (pc := 16) dX2_quietChance_16 rfl ?_
      first | refine wp_ifb_ne (pc := 18) 25 dX2_quietChance_18 (by decide) (fun c18 => ?_) (fun c18 => ?_) | refine wp_if_ne (pc := 18) 25 dX2_quietChance_18 (by decide) (by omega) (fun c18 => ?_) (fun c18 => ?_)
      ·
        refine wp_lcst (pc := 25) (y := 0) dX2_quietChance_25 rfl ?_
        refine wp_topJ (b := qs p T 0 (i : Int)) (by unfold qs; first | (rw [if_pos (by omega)]; done) | (rw [if_neg (by omega)]; done)) ?_
        refine wp_last (pc := 26) dX2_quietChance_26 g2 (by omega) (by omega) (by decide) ?_
        refine wp_iinc (pc := 27) dX2_quietChance_27 rfl (by decide) ?_
        refine wp_goto (pc := 30) 3 dX2_quietChance_30 (by decide) ?_
        refine wp_ls ?_ (ih (i + 1) (by omega) (by omega) _ (updI F (i : Int) (qs p T 0 (i : Int))) ⟨(by repeat (first | assumption | exact hset_eq | refine hset_at (by omega) ?_)), ⟨W, (by repeat (first | assumption | exact hset_eq | refine hset_at (by omega) ?_)), rW⟩, ⟨_, hset_eq⟩, ⟨Z, (by repeat (first | assumption | exact hset_eq | refine hset_at (by omega) ?_))⟩⟩ hset_eq (fun w h1 h2 => ?_) (by repeat (first | exact SO.rf | assumption | refine SO.set ?_ (by omega) (by omega))))
        · repeat' (first | exact LE_0 | refine LE_s rfl ?_ | refine LE_s (I_c (by first | omega | (simp only [sm]; omega))) ?_ | refine LE_s (J_c (by first | omega | exact Int.pow_succ _ _ | exact (Int.pow_succ _ _).symm | exact (Int.pow_zero _).symm | (simp only [sm]; omega))) ?_ | refine LE_n ?_)
        · by_cases z : w = (i : Int)
          · rw [z, updI_eq]
          · rw [updI_ne z]; exact hF w h1 (by omega)
      ·
        refine wp_lcst (pc := 21) (y := 1) dX2_quietChance_21 rfl ?_
        refine wp_goto (pc := 22) 26 dX2_quietChance_22 (by decide) ?_
        refine wp_topJ (b := qs p T 0 (i : Int)) (by unfold qs; first | (rw [if_pos (by omega)]; done) | (rw [if_neg (by omega)]; done)) ?_
        refine wp_last (pc := 26) dX2_quietChance_26 g2 (by omega) (by omega) (by decide) ?_
        refine wp_iinc (pc := 27) dX2_quietChance_27 rfl (by decide) ?_
        refine wp_goto (pc := 30) 3 dX2_quietChance_30 (by decide) ?_
        refine wp_ls ?_ (ih (i + 1) (by omega) (by omega) _ (updI F (i : Int) (qs p T 0 (i : Int))) ⟨(by repeat (first | assumption | exact hset_eq | refine hset_at (by omega) ?_)), ⟨W, (by repeat (first | assumption | exact hset_eq | refine hset_at (by omega) ?_)), rW⟩, ⟨_, hset_eq⟩, ⟨Z, (by repeat (first | assumption | exact hset_eq | refine hset_at (by omega) ?_))⟩⟩ hset_eq (fun w h1 h2 => ?_) (by repeat (first | exact SO.rf | assumption | refine SO.set ?_ (by omega) (by omega))))
        · repeat' (first | exact LE_0 | refine LE_s rfl ?_ | refine LE_s (I_c (by first | omega | (simp only [sm]; omega))) ?_ | refine LE_s (J_c (by first | omega | exact Int.pow_succ _ _ | exact (Int.pow_succ _ _).symm | exact (Int.pow_zero _).symm | (simp only [sm]; omega))) ?_ | refine LE_n ?_)
        · by_cases z : w = (i : Int)
          · rw [z, updI_eq]
          · rw [updI_ne z]; exact hF w h1 (by omega)
theorem lw_step {i : Nat} (hI : TI T N) : (10 : Int) ^ (sm (T 5) (i + 1)).toNat = 10 ^ (sm (T 5) i).toNat * 10 ^ (T 5 (i : Int)).toNat := by
  have hd := hI.2.2.2.2.2.2.2.1 (i : Int)
  have hs := (sm_range (f := T 5) (lo := 0) (hi := 9) (n := i) (fun j _ => hI.2.2.2.2.2.2.2.1 j)).1
  have e : (sm (T 5) (i + 1)).toNat = (sm (T 5) i).toNat + (T 5 (i : Int)).toNat := by show (sm (T 5) i + T 5 (i : Int)).toNat = _; omega
  rw [e, Int.pow_add]
theorem lp_quiet2 (hI : TI T N) (hd : h + 8 ≤ G ∨ G + 4 ≤ h) (rp : 0 ≤ p ∧ p ≤ 10) {Q : Option Value → Hp → Prop} (K : ∀ hp2 F, GamesAt hp2 G → hp2.2 (G + 2) = some (.inl (.long, 7, F)) → (∀ j : Int, 0 ≤ j → j ≤ 6 → F j = qs p T N j) → TownAt hp2 h T → SO hp hp2 G (G + 4) → wp g MX2_quietChance (rm 3 0 0) Q 0 0 113 [some (.ref G), some (.ref h), some (.int (I (k : Int))), some (.int (I p)), some (.ref r), some (.long (J (10 ^ (sm (T 5) N).toNat))), none, none, none, none, none] [] hp2) : ∀ (m i : Nat), N < i + m → i ≤ N → ∀ (hp2 : Hp) (F : Int → Int) (hG : GamesAt hp2 G) (g2 : hp2.2 (G + 2) = some (.inl (.long, 7, F))) (hF : ∀ j : Int, 0 ≤ j → j ≤ 6 → F j = qs p T i j) (hT : TownAt hp2 h T) (hS : SO hp hp2 G (G + 4)), wp g MX2_quietChance (rm 3 0 0) Q 0 0 39 [some (.ref G), some (.ref h), some (.int (I (k : Int))), some (.int (I p)), some (.ref r), some (.long (J (10 ^ (sm (T 5) i).toNat))), none, some (.int (I (i : Int))), none, none, none] [] hp2 := by
  intro m
  induction m with
  | zero => intro i h1 h2; exact absurd h1 (by omega)
  | succ m ih =>
    intro i h1 h2 hp2 F hG g2 hF hT hS
    have hI' := hI
    obtain ⟨i8, iN, i0, i1, i2, i3, i4, i5, i6, i7⟩ := hI
    have hG' := hG
    obtain ⟨g0, ⟨W, g1, rW⟩, -, ⟨Z, g3⟩⟩ := hG
    have hT' := hT
    obtain ⟨t0, t1, t2, t3, t4, t5, t6, t7⟩ := hT
    have hdi := i5 (i : Int)
    have ed : T 5 (i : Int) = ((T 5 (i : Int)).toNat : Int) := by omega
    refine wp_iload (pc := 39) dX2_quietChance_39 rfl ?_
    refine wp_aload_n (pc := 41) dX2_quietChance_41 rfl ?_
    refine wp_getf (pc := 42) dX2_quietChance_42 gf_X2_37 (by repeat (first | assumption | exact hset_eq | refine hset_at (by omega) ?_)) (by rfl) ?_
    refine wp_icmp_ge (pc := 45) 113 dX2_quietChance_45 (by decide) (by omega) (by omega) (fun c45 => ?_) (fun c45 => ?_)
    ·
      have e : i = N := by omega
      subst e
      refine wp_ls ?_ (K hp2 F hG' g2 hF hT' hS)
      repeat' (first | exact LE_0 | refine LE_s rfl ?_ | refine LE_s (I_c (by first | omega | (simp only [sm]; omega))) ?_ | refine LE_s (J_c (by first | omega | exact Int.pow_succ _ _ | exact (Int.pow_succ _ _).symm | exact (Int.pow_zero _).symm | (simp only [sm]; omega))) ?_ | refine LE_n ?_)
    ·
      refine wp_aload_n (pc := 48) dX2_quietChance_48 rfl ?_
      refine wp_iload (pc := 49) dX2_quietChance_49 rfl ?_
      refine wp_Vp (pc := 51) dX2_quietChance_51 cl_X2_43 (sp_Town_lives (by first | assumption | omega) (by first | assumption | omega) (by first | assumption | omega) (by first | assumption | omega)) rfl rfl (by repeat (first | assumption | exact hset_eq | refine hset_at (by omega) ?_)) (by rfl) (by decide) (Nat.le_of_ble_eq_true rfl) ?_
      first | refine wp_ifb_ne (pc := 54) 107 dX2_quietChance_54 (by decide) (fun c54 => ?_) (fun c54 => ?_) | refine wp_if_ne (pc := 54) 107 dX2_quietChance_54 (by decide) (by omega) (fun c54 => ?_) (fun c54 => ?_)
      ·
        have e1 : qs p T (i + 1) = qs p T i := if_pos c54
        have e2 : sm (T 5) (i + 1) = sm (T 5) i := by show _ + _ = _; rw [c54]; omega
        skip -- go
        refine wp_iinc (pc := 107) dX2_quietChance_107 rfl (by decide) ?_
        refine wp_goto (pc := 110) 39 dX2_quietChance_110 (by decide) ?_
        first
        | refine wp_ls ?_ (ih (i + 1) (by omega) (by omega) hp2 F hG' g2 (by rw [e1]; exact hF) hT' hS)
          rw [e2]
          repeat' (first | exact LE_0 | refine LE_s rfl ?_ | refine LE_s (I_c (by first | omega | (simp only [sm]; omega))) ?_ | refine LE_s (J_c (by first | omega | exact Int.pow_succ _ _ | exact (Int.pow_succ _ _).symm | exact (Int.pow_zero _).symm | (simp only [sm]; omega))) ?_ | refine LE_n ?_)
        | refine wp_ls ?_ (ih (i + 1) (by omega) (by omega) hp86 F2 ⟨(f3.2 _ (by omega)).trans g0, ⟨W, (f3.2 _ (by omega)).trans g1, rW⟩, ⟨_, f1⟩, ⟨Z, (f3.2 _ (by omega)).trans g3⟩⟩ f1 (fun j h3 h4 => ?_) (hT'.fr f3 (by omega)) (hS.tr (f3.wide (by omega) (by omega))))
          · rw [lw_step hI']
            repeat' (first | exact LE_0 | refine LE_s rfl ?_ | refine LE_s (I_c (by first | omega | (simp only [sm]; omega))) ?_ | refine LE_s (J_c (by first | omega | exact Int.pow_succ _ _ | exact (Int.pow_succ _ _).symm | exact (Int.pow_zero _).symm | (simp only [sm]; omega))) ?_ | refine LE_n ?_)
          · rw [f2 j h3 h4, show qs p T (i + 1) = _ from if_neg c54]
            unfold adq
            rw [hF j h3 h4]
            by_cases z : 0 < j
            · rw [if_pos z, if_pos z, hF (j - 1) (by omega) (by omega)]
            · rw [if_neg z, if_neg z]
      ·
        refine wp_aload_n (pc := 57) dX2_quietChance_57 rfl ?_
        refine wp_bipush (pc := 58) (y := 10) dX2_quietChance_58 (by decide) ?_
        refine wp_iload_n (pc := 60) dX2_quietChance_60 rfl ?_
        refine wp_isub (pc := 61) dX2_quietChance_61 ?_
        refine wp_i2l (pc := 62) dX2_quietChance_62 (by omega) ?_
        refine wp_aload_n (pc := 63) dX2_quietChance_63 rfl ?_
        refine wp_getf (pc := 64) dX2_quietChance_64 gf_X2_47 (by repeat (first | assumption | exact hset_eq | refine hset_at (by omega) ?_)) (by rfl) ?_
        refine wp_iload (pc := 67) dX2_quietChance_67 rfl ?_
        refine wp_iald (pc := 69) dX2_quietChance_69 t6 (by omega) (by omega) (by decide) ?_
        refine wp_topE ed ?_
        refine wp_Sp (pc := 70) dX2_quietChance_70 cl_X2_50 (sp_Games_power (n := (T 5 (i : Int)).toNat) (by omega)) rfl rfl (by decide) (Nat.le_of_ble_eq_true rfl) ?_
        refine wp_ldc2 (pc := 73) dX2_quietChance_73 kc_X2_54 ?_
        refine wp_aload_n (pc := 76) dX2_quietChance_76 rfl ?_
        refine wp_getf (pc := 77) dX2_quietChance_77 gf_X2_47 (by repeat (first | assumption | exact hset_eq | refine hset_at (by omega) ?_)) (by rfl) ?_
        refine wp_iload (pc := 80) dX2_quietChance_80 rfl ?_
        refine wp_iald (pc := 82) dX2_quietChance_82 t6 (by omega) (by omega) (by decide) ?_
        refine wp_topE ed ?_
        refine wp_Sp (pc := 83) dX2_quietChance_83 cl_X2_50 (sp_Games_power (n := (T 5 (i : Int)).toNat) (by omega)) rfl rfl (by decide) (Nat.le_of_ble_eq_true rfl) ?_
        refine wp_Vn (pc := 86) dX2_quietChance_86 cl_X2_56 (sp_Games_addQuiet g0 g2) rfl rfl (by repeat (first | assumption | exact hset_eq | refine hset_at (by omega) ?_)) (by rfl) (by decide) (Nat.le_of_ble_eq_true rfl) (fun hp86 e86 => ?_)
        obtain ⟨⟨F2, f1, f2⟩, f3⟩ := e86
        have e86 : True ∧ True ∧ ∀ x, x < G + 2 ∨ G + 3 ≤ x → hp86.2 x = hp2.2 x := ⟨trivial, trivial, f3.2⟩
        refine wp_lload (pc := 89) dX2_quietChance_89 rfl ?_
        refine wp_ldc2 (pc := 91) dX2_quietChance_91 kc_X2_54 ?_
        refine wp_aload_n (pc := 94) dX2_quietChance_94 rfl ?_
        refine wp_getf (pc := 95) dX2_quietChance_95 gf_X2_47 (by rw [e86.2.2 _ (by omega)]; exact t0) (by rfl) ?_
        refine wp_iload (pc := 98) dX2_quietChance_98 rfl ?_
        refine wp_iald (pc := 100) (f := T 5) dX2_quietChance_100 (by rw [e86.2.2 _ (by omega)]; exact t6) (by omega) (by omega) (by decide) ?_
        refine wp_topE ed ?_
        refine wp_Sp (pc := 101) dX2_quietChance_101 cl_X2_50 (sp_Games_power (n := (T 5 (i : Int)).toNat) (by omega)) rfl rfl (by decide) (Nat.le_of_ble_eq_true rfl) ?_
        refine wp_lmul (pc := 104) dX2_quietChance_104 ?_
        refine wp_lstore (pc := 105) dX2_quietChance_105 (by decide) ?_
        refine wp_iinc (pc := 107) dX2_quietChance_107 rfl (by decide) ?_
        refine wp_goto (pc := 110) 39 dX2_quietChance_110 (by decide) ?_
        first
        | refine wp_ls ?_ (ih (i + 1) (by omega) (by omega) hp2 F hG' g2 (by rw [e1]; exact hF) hT' hS)
          rw [e2]
          repeat' (first | exact LE_0 | refine LE_s rfl ?_ | refine LE_s (I_c (by first | omega | (simp only [sm]; omega))) ?_ | refine LE_s (J_c (by first | omega | exact Int.pow_succ _ _ | exact (Int.pow_succ _ _).symm | exact (Int.pow_zero _).symm | (simp only [sm]; omega))) ?_ | refine LE_n ?_)
        | refine wp_ls ?_ (ih (i + 1) (by omega) (by omega) hp86 F2 ⟨(f3.2 _ (by omega)).trans g0, ⟨W, (f3.2 _ (by omega)).trans g1, rW⟩, ⟨_, f1⟩, ⟨Z, (f3.2 _ (by omega)).trans g3⟩⟩ f1 (fun j h3 h4 => ?_) (hT'.fr f3 (by omega)) (hS.tr (f3.wide (by omega) (by omega))))
          · rw [lw_step hI']
            repeat' (first | exact LE_0 | refine LE_s rfl ?_ | refine LE_s (I_c (by first | omega | (simp only [sm]; omega))) ?_ | refine LE_s (J_c (by first | omega | exact Int.pow_succ _ _ | exact (Int.pow_succ _ _).symm | exact (Int.pow_zero _).symm | (simp only [sm]; omega))) ?_ | refine LE_n ?_)
          · rw [f2 j h3 h4, show qs p T (i + 1) = _ from if_neg c54]
            unfold adq
            rw [hF j h3 h4]
            by_cases z : 0 < j
            · rw [if_pos z, if_pos z, hF (j - 1) (by omega) (by omega)]
            · rw [if_neg z, if_neg z]
/-- the chance that k or more keep quiet: upper number, lower number -/
def qup (p : Int) (T : Nat → Int → Int) (N k : Nat) : Int := smf (qs p T N) k (7 - k)
def qlo (T : Nat → Int → Int) (N : Nat) : Int := 10 ^ (sm (T 5) N).toNat
def qgc (p : Int) (T : Nat → Int → Int) (N k : Nat) : Int := ((max 1 (Nat.gcd (qup p T N k).toNat (qlo T N).toNat) : Nat) : Int)
theorem sm_nn {f : Int → Int} (hf : ∀ j, 0 ≤ f j) : ∀ m : Nat, 0 ≤ sm f m
  | 0 => by simp [sm]
  | m + 1 => by
    have h1 := sm_nn hf m
    have h2 := hf m
    show 0 ≤ sm f m + f m
    omega
theorem smf_le {f : Int → Int} (hf : ∀ j, 0 ≤ f j) (k : Nat) : ∀ n : Nat, 0 ≤ smf f k n ∧ smf f k n ≤ sm f (k + n)
  | 0 => by
    have h1 := sm_nn hf k
    show (0 : Int) ≤ 0 ∧ (0 : Int) ≤ sm f k
    omega
  | n + 1 => by
    have ih := smf_le hf k n
    have e1 : smf f k (n + 1) = smf f k n + f ((k : Int) + (n : Int)) := rfl
    have e2 : sm f (k + (n + 1)) = sm f (k + n) + f ((k + n : Nat) : Int) := rfl
    have e3 : ((k + n : Nat) : Int) = (k : Int) + (n : Int) := rfl
    have := hf ((k : Int) + (n : Int))
    rw [e1, e2, e3]
    omega
theorem q_in (hI : TI T N) (hp0 : 0 ≤ p ∧ p ≤ 10) (hk : k ≤ 6) (hs : sm (T 5) N ≤ 16) : 0 ≤ qup p T N k ∧ qup p T N k ≤ qlo T N ∧ 1 ≤ qlo T N ∧ qlo T N ≤ 10000000000000000 := by
  have h := qs_in hI hp0 N
  have h1 := smf_le h.1 k (7 - k)
  rw [show k + (7 - k) = 7 by omega] at h1
  have h2 : (sm (T 5) N).toNat ≤ 16 := by omega
  have h3 : ((10 ^ (sm (T 5) N).toNat : Nat) : Int) ≤ ((10 ^ 16 : Nat) : Int) := Int.ofNat_le.mpr (Nat.pow_le_pow_right (by decide) h2)
  have h4 : ((1 : Nat) : Int) ≤ ((10 ^ (sm (T 5) N).toNat : Nat) : Int) := Int.ofNat_le.mpr (Nat.pos_of_ne_zero (by simp))
  rw [Int.natCast_pow] at h3 h4
  refine ⟨h1.1, Int.le_trans h1.2 h.2, h4, h3⟩
theorem lp_quiet3 (hF : ∀ j : Int, 0 ≤ j → j ≤ 6 → F j = W j) (g0 : hp.2 G = some (.inr (.inr (2, [.ref (G + 1), .ref (G + 2), .ref (G + 3)])))) (g2 : hp.2 (G + 2) = some (.inl (.long, 7, F))) (hk : k ≤ 6) {Q : Option Value → Hp → Prop} {A1 A2 A3 A4 : Value} (K : wp g MX2_quietChance (rm 3 0 0) Q 0 0 148 [some (.ref G), some A1, some A2, some A3, some A4, some (.long (J a)), none, some (.long (J (smf W k (7 - k)))), none, none, none] [] hp) : ∀ (m i : Nat), (7 - k) < i + m → i ≤ (7 - k) → wp g MX2_quietChance (rm 3 0 0) Q 0 0 123 [some (.ref G), some A1, some A2, some A3, some A4, some (.long (J a)), none, some (.long (J (smf W k i))), none, some (.int (I ((k : Int) + (i : Int)))), none] [] hp := by
  intro m
  induction m with
  | zero => intro i h1 h2; exact absurd h1 (by omega)
  | succ m ih =>
    intro i h1 h2
    refine wp_iload (pc := 123) dX2_quietChance_123 rfl ?_
    refine wp_bipush (pc := 125) (y := 6) dX2_quietChance_125 (by decide) ?_
    refine wp_icmp_gt (pc := 127) 148 dX2_quietChance_127 (by decide) (by omega) (by omega) (fun c127 => ?_) (fun c127 => ?_)
    ·
      have e : i = 7 - k := by omega
      subst e
      refine wp_ls ?_ K
      repeat' (first | exact LE_0 | refine LE_s rfl ?_ | refine LE_s (I_c (by first | omega | (simp only [sm]; omega))) ?_ | refine LE_s (J_c (by first | omega | exact Int.pow_succ _ _ | exact (Int.pow_succ _ _).symm | exact (Int.pow_zero _).symm | (simp only [sm]; omega))) ?_ | refine LE_n ?_)
    ·
      refine wp_lload (pc := 130) dX2_quietChance_130 rfl ?_
      refine wp_aload_n (pc := 132) dX2_quietChance_132 rfl ?_
      refine wp_getf (pc := 133) dX2_quietChance_133 gf_X2_15 (by repeat (first | assumption | exact hset_eq | refine hset_at (by omega) ?_)) (by rfl) ?_
      refine wp_iload (pc := 136) dX2_quietChance_136 rfl ?_
      refine wp_lald (pc := 138) dX2_quietChance_138 g2 (by omega) (by omega) (by decide) ?_
      refine wp_topJ (hF _ (by omega) (by omega)) ?_
      refine wp_ladd (pc := 139) dX2_quietChance_139 ?_
      refine wp_lstore (pc := 140) dX2_quietChance_140 (by decide) ?_
      refine wp_iinc (pc := 142) dX2_quietChance_142 rfl (by decide) ?_
      refine wp_goto (pc := 145) 123 dX2_quietChance_145 (by decide) ?_
      refine wp_ls ?_ (ih (i + 1) (by omega) (by omega))
      · repeat' (first | exact LE_0 | refine LE_s rfl ?_ | refine LE_s (I_c (by first | omega | (simp only [sm]; omega))) ?_ | refine LE_s (J_c (by first | omega | exact Int.pow_succ _ _ | exact (Int.pow_succ _ _).symm | exact (Int.pow_zero _).symm | (simp only [sm]; omega))) ?_ | refine LE_n ?_)
theorem seg_q148 (hG : GamesAt hp2 G) (hR : RowAt hp2 r l) (hq : 0 ≤ qup p T N k ∧ qup p T N k ≤ qlo T N ∧ 1 ≤ qlo T N ∧ qlo T N ≤ 10000000000000000) (hS : SO hp hp2 G (G + 4)) (hd2 : r + 2 ≤ G ∨ G + 4 ≤ r) {A1 A2 A3 : Value} : wp g MX2_quietChance (rm 3 0 0) (Vod (fun hp2 => RowAt hp2 r [qup p T N k / qgc p T N k, qlo T N / qgc p T N k] ∧ GamesAt hp2 G ∧ hp2.1 = hp.1 ∧ ∀ x, (x < G ∨ G + 4 ≤ x) → (x < r ∨ r + 2 ≤ x) → hp2.2 x = hp.2 x)) 0 0 148 [some (.ref G), some A1, some A2, some A3, some (.ref r), some (.long (J (qlo T N))), none, some (.long (J (qup p T N k))), none, none, none] [] hp2 := by
  have hR' := hR
  obtain ⟨FR, r0, r1, hl, hFR⟩ := hR
  have hgp : 1 ≤ qgc p T N k ∧ qgc p T N k ≤ 10000000000000000 := by
    unfold qgc
    have h1 : Nat.gcd (qup p T N k).toNat (qlo T N).toNat ≤ (qlo T N).toNat := Nat.le_of_dvd (by omega) (Nat.gcd_dvd_right _ _)
    omega
  refine wp_lload (pc := 148) dX2_quietChance_148 rfl ?_
  refine wp_lload (pc := 150) dX2_quietChance_150 rfl ?_
  rw [show qlo T N = ((qlo T N).toNat : Int) by omega, show qup p T N k = ((qup p T N k).toNat : Int) by omega]
  refine wp_Sp (pc := 152) dX2_quietChance_152 cl_X2_63 (sp_Games_commonDivisor (n := (qup p T N k).toNat) (k := (qlo T N).toNat) (by omega) (by omega)) rfl rfl (by decide) (Nat.le_of_ble_eq_true rfl) ?_
  rw [← show qlo T N = ((qlo T N).toNat : Int) by omega, ← show qup p T N k = ((qup p T N k).toNat : Int) by omega]
  change wp _ _ _ _ _ _ _ _ [Value.long (J (qgc p T N k))] _
  refine wp_lstore (pc := 155) dX2_quietChance_155 (by decide) ?_
  refine wp_aload (pc := 157) dX2_quietChance_157 rfl ?_
  refine wp_lload (pc := 159) dX2_quietChance_159 rfl ?_
  refine wp_lload (pc := 161) dX2_quietChance_161 rfl ?_
  refine wp_ldiv (pc := 163) dX2_quietChance_163 (J_ne0 (by omega) (by omega)) (J_div (by omega) (by omega) (by omega) (by omega)) ?_
  refine wp_lload (pc := 164) dX2_quietChance_164 rfl ?_
  refine wp_lload (pc := 166) dX2_quietChance_166 rfl ?_
  refine wp_ldiv (pc := 168) dX2_quietChance_168 (J_ne0 (by omega) (by omega)) (J_div (by omega) (by omega) (by omega) (by omega)) ?_
  refine wp_Vn (pc := 169) dX2_quietChance_169 cl_X2_67 (sp_Row_tell_ (by first | assumption | omega)) rfl rfl (by repeat (first | assumption | exact hset_eq | refine hset_at (by omega) ?_)) (by rfl) (by decide) (Nat.le_of_ble_eq_true rfl) (fun hp169 e169 => ?_)
  exact wp_vr (pc := 172) dX2_quietChance_172 rfl (by decide) (by decide) ⟨e169.1, hG.fr e169.2 (by omega), e169.2.1.trans hS.1, fun x h1 h2 => (e169.2.2 x h2).trans (hS.2 x h1)⟩
theorem seg_q113 (hI : TI T N) (hk : k ≤ 6) (hG : GamesAt hp2 G) (g2 : hp2.2 (G + 2) = some (.inl (.long, 7, F))) (hF : ∀ j : Int, 0 ≤ j → j ≤ 6 → F j = qs p T N j) (hR : RowAt hp2 r l) (hq : 0 ≤ qup p T N k ∧ qup p T N k ≤ qlo T N ∧ 1 ≤ qlo T N ∧ qlo T N ≤ 10000000000000000) (hS : SO hp hp2 G (G + 4)) (hd2 : r + 2 ≤ G ∨ G + 4 ≤ r) : wp g MX2_quietChance (rm 3 0 0) (Vod (fun hp2 => RowAt hp2 r [qup p T N k / qgc p T N k, qlo T N / qgc p T N k] ∧ GamesAt hp2 G ∧ hp2.1 = hp.1 ∧ ∀ x, (x < G ∨ G + 4 ≤ x) → (x < r ∨ r + 2 ≤ x) → hp2.2 x = hp.2 x)) 0 0 113 [some (.ref G), some (.ref h), some (.int (I (k : Int))), some (.int (I p)), some (.ref r), some (.long (J (10 ^ (sm (T 5) N).toNat))), none, none, none, none, none] [] hp2 := by
  have hG' := hG
  obtain ⟨g0, ⟨W, g1, rW⟩, -, ⟨Z, g3⟩⟩ := hG
  refine wp_lcst (pc := 113) (y := 0) dX2_quietChance_113 rfl ?_
  refine wp_lstore (pc := 114) dX2_quietChance_114 (by decide) ?_
  refine wp_iload_n (pc := 116) dX2_quietChance_116 rfl ?_
  refine wp_iconst (pc := 117) dX2_quietChance_117 ?_
  refine wp_max (pc := 118) dX2_quietChance_118 ml_X2_60 ma_max_s ma_ini ma_max_c (by decide) (by decide) (by decide) (by decide) (Nat.le_of_ble_eq_true rfl) (by omega) (by omega) ?_
  refine wp_topE (show mx (k : Int) 0 = (k : Int) + ((0 : Nat) : Int) by unfold mx; split <;> omega) ?_
  refine wp_istore (pc := 121) dX2_quietChance_121 (by decide) ?_
  refine wp_ls ?_ (lp_quiet3 (F := F) (W := qs p T N) (k := k) (a := 10 ^ (sm (T 5) N).toNat) (A1 := .ref h) (A2 := .int (I (k : Int))) (A3 := .int (I p)) (A4 := .ref r) hF g0 g2 hk (seg_q148 hG' hR hq hS hd2) (7 - k + 1) 0 (by omega) (by omega))
  repeat' (first | exact LE_0 | refine LE_s rfl ?_ | refine LE_s (I_c (by first | omega | (simp only [sm]; omega))) ?_ | refine LE_s (J_c (by first | omega | exact Int.pow_succ _ _ | exact (Int.pow_succ _ _).symm | exact (Int.pow_zero _).symm | (simp only [sm]; omega))) ?_ | refine LE_n ?_)
theorem seg_q33 (hI : TI T N) (hk : k ≤ 6) (rp : 0 ≤ p ∧ p ≤ 10) (hG : GamesAt hp2 G) (g2 : hp2.2 (G + 2) = some (.inl (.long, 7, F))) (hF : ∀ j : Int, 0 ≤ j → j ≤ 6 → F j = qs p T 0 j) (hT : TownAt hp2 h T) (hR : RowAt hp r l) (hq : 0 ≤ qup p T N k ∧ qup p T N k ≤ qlo T N ∧ 1 ≤ qlo T N ∧ qlo T N ≤ 10000000000000000) (hS : SO hp hp2 G (G + 4)) (hd : h + 8 ≤ G ∨ G + 4 ≤ h) (hd2 : r + 2 ≤ G ∨ G + 4 ≤ r) : wp g MX2_quietChance (rm 3 0 0) (Vod (fun hp2 => RowAt hp2 r [qup p T N k / qgc p T N k, qlo T N / qgc p T N k] ∧ GamesAt hp2 G ∧ hp2.1 = hp.1 ∧ ∀ x, (x < G ∨ G + 4 ≤ x) → (x < r ∨ r + 2 ≤ x) → hp2.2 x = hp.2 x)) 0 0 33 [some (.ref G), some (.ref h), some (.int (I (k : Int))), some (.int (I p)), some (.ref r), none, none, none, none, none, none] [] hp2 := by
  refine wp_lcst (pc := 33) (y := 1) dX2_quietChance_33 rfl ?_
  refine wp_lstore (pc := 34) dX2_quietChance_34 (by decide) ?_
  refine wp_iconst (pc := 36) dX2_quietChance_36 ?_
  refine wp_istore (pc := 37) dX2_quietChance_37 (by decide) ?_
  refine wp_ls ?_ (lp_quiet2 (T := T) (p := p) (r := r) (h := h) (k := k) (N := N) hI hd rp (fun hp4 F4 hG4 g24 hF4 hT4 hS4 => seg_q113 hI hk hG4 g24 hF4 (hR.fr hS4 (by omega)) hq hS4 hd2) (N + 1) 0 (by omega) (by omega) hp2 F hG g2 hF hT hS)
  repeat' (first | exact LE_0 | refine LE_s rfl ?_ | refine LE_s (I_c (by first | omega | (simp only [sm]; omega))) ?_ | refine LE_s (J_c (by first | omega | exact Int.pow_succ _ _ | exact (Int.pow_succ _ _).symm | exact (Int.pow_zero _).symm | (simp only [sm]; omega))) ?_ | refine LE_n ?_)
theorem sp_Games_quietChance (hG : GamesAt hp G) (hT : TownAt hp h T) (hI : TI T N) (hR : RowAt hp r l) (hk : k ≤ 6) (rp : 0 ≤ p ∧ p ≤ 10) (hs : sm (T 5) N ≤ 16) (hd : h + 8 ≤ G ∨ G + 4 ≤ h) (hd2 : r + 2 ≤ G ∨ G + 4 ≤ r) : Sp g MX2_quietChance (rm 3 0 0) [.ref G, .ref h, .int (I (k : Int)), .int (I p), .ref r] hp (Vod (fun hp2 => RowAt hp2 r [qup p T N k / qgc p T N k, qlo T N / qgc p T N k] ∧ GamesAt hp2 G ∧ hp2.1 = hp.1 ∧ ∀ x, (x < G ∨ G + 4 ≤ x) → (x < r ∨ r + 2 ≤ x) → hp2.2 x = hp.2 x)) := by
  have hq := q_in (p := p) hI rp hk hs
  have hG' := hG
  obtain ⟨g0, ⟨W, g1, rW⟩, ⟨Y, g2⟩, ⟨Z, g3⟩⟩ := hG
  refine Sp_mk rfl (Nat.le_of_ble_eq_true rfl) ?_
  show wp g _ _ _ 0 0 0 [some (.ref G), some (.ref h), some (.int (I (k : Int))), some (.int (I p)), some (.ref r), none, none, none, none, none, none] [] hp
  refine wp_iconst (pc := 0) dX2_quietChance_0 ?_
  refine wp_istore (pc := 1) dX2_quietChance_1 (by decide) ?_
  refine wp_ls ?_ (lp_quiet1 (T := T) (p := p) (r := r) (h := h) (k := k) (fun hp3 F3 hG3 g23 hF3 hS3 => seg_q33 hI hk rp hG3 g23 hF3 (hT.fr hS3 (by omega)) hR hq hS3 hd hd2) 8 0 (by omega) (by omega) hp Y hG' g2 (fun j h1 h2 => by omega) SO.rf)
  repeat' (first | exact LE_0 | refine LE_s rfl ?_ | refine LE_s (I_c (by first | omega | (simp only [sm]; omega))) ?_ | refine LE_s (J_c (by first | omega | exact Int.pow_succ _ _ | exact (Int.pow_succ _ _).symm | exact (Int.pow_zero _).symm | (simp only [sm]; omega))) ?_ | refine LE_n ?_)
/-! eulogies at rest -/
def gan (x y v c : Int) : Int := (if x > y then v else if x = y then v / 2 else 0) - (x - (if y + 2 ≤ x then 1 else 0)) * c
theorem sp_Games_gain (rx : 0 ≤ x ∧ x ≤ 9) (ry : 0 ≤ y ∧ y ≤ 9) (rv : 0 ≤ v ∧ v ≤ 20) (rc : 0 ≤ c ∧ c ≤ 5) : Sp g MX2_gain (rm 0 0 0) [.int (I x), .int (I y), .int (I v), .int (I c)] hp (Pur (.int (I (gan x y v c))) hp) := by
  refine Sp_mk rfl (Nat.le_of_ble_eq_true rfl) ?_
  show wp g _ _ _ 0 0 0 [some (.int (I x)), some (.int (I y)), some (.int (I v)), some (.int (I c)), none, none] [] hp
  refine wp_iload_n (pc := 0) dX2_gain_0 rfl ?_
  refine wp_iload_n (pc := 1) dX2_gain_1 rfl ?_
  refine wp_isub (pc := 2) dX2_gain_2 ?_
  refine wp_iconst (pc := 3) dX2_gain_3 ?_
  refine wp_icmp_lt (pc := 4) 11 dX2_gain_4 (by decide) (by omega) (by omega) (fun c4 => ?_) (fun c4 => ?_)
  ·
    first
    | (exfalso; omega)
    | skip
      refine wp_iconst (pc := 11) dX2_gain_11 ?_
      refine wp_istore (pc := 12) dX2_gain_12 (by decide) ?_
      refine wp_iload_n (pc := 14) dX2_gain_14 rfl ?_
      refine wp_iload (pc := 15) dX2_gain_15 rfl ?_
      refine wp_isub (pc := 17) dX2_gain_17 ?_
      refine wp_iload_n (pc := 18) dX2_gain_18 rfl ?_
      refine wp_imul (pc := 19) dX2_gain_19 ?_
      refine wp_istore (pc := 20) dX2_gain_20 (by decide) ?_
      refine wp_iload_n (pc := 22) dX2_gain_22 rfl ?_
      refine wp_iload_n (pc := 23) dX2_gain_23 rfl ?_
      refine wp_icmp_ne (pc := 24) 34 dX2_gain_24 (by decide) (by omega) (by omega) (fun c24 => ?_) (fun c24 => ?_)
      ·
        first
        | (exfalso; omega)
        | skip
          refine wp_iload_n (pc := 34) dX2_gain_34 rfl ?_
          refine wp_iload_n (pc := 35) dX2_gain_35 rfl ?_
          refine wp_icmp_le (pc := 36) 46 dX2_gain_36 (by decide) (by omega) (by omega) (fun c36 => ?_) (fun c36 => ?_)
          ·
            first
            | (exfalso; omega)
            | skip
              refine wp_iload (pc := 46) dX2_gain_46 rfl ?_
              refine wp_ineg (pc := 48) dX2_gain_48 ?_
              exact wp_ir (pc := 49) dX2_gain_49 rfl (by decide) (by decide) (by unfold gan; (repeat' split) <;> first | rfl | omega) rfl
          ·
            first
            | (exfalso; omega)
            | skip
              refine wp_iload_n (pc := 39) dX2_gain_39 rfl ?_
              refine wp_iload (pc := 40) dX2_gain_40 rfl ?_
              refine wp_isub (pc := 42) dX2_gain_42 ?_
              refine wp_goto (pc := 43) 49 dX2_gain_43 (by decide) ?_
              exact wp_ir (pc := 49) dX2_gain_49 rfl (by decide) (by decide) (by unfold gan; (repeat' split) <;> first | rfl | omega) rfl
      ·
        first
        | (exfalso; omega)
        | skip
          refine wp_iload_n (pc := 27) dX2_gain_27 rfl ?_
          refine wp_iconst (pc := 28) dX2_gain_28 ?_
          refine wp_idiv (pc := 29) dX2_gain_29 (by decide) (I_div (by omega) (by omega) (by omega) (by omega)) ?_
          refine wp_iload (pc := 30) dX2_gain_30 rfl ?_
          refine wp_isub (pc := 32) dX2_gain_32 ?_
          exact wp_ir (pc := 33) dX2_gain_33 rfl (by decide) (by decide) (by unfold gan; (repeat' split) <;> first | rfl | omega) rfl
  ·
    first
    | (exfalso; omega)
    | skip
      refine wp_iconst (pc := 7) dX2_gain_7 ?_
      refine wp_goto (pc := 8) 12 dX2_gain_8 (by decide) ?_
      refine wp_istore (pc := 12) dX2_gain_12 (by decide) ?_
      refine wp_iload_n (pc := 14) dX2_gain_14 rfl ?_
      refine wp_iload (pc := 15) dX2_gain_15 rfl ?_
      refine wp_isub (pc := 17) dX2_gain_17 ?_
      refine wp_iload_n (pc := 18) dX2_gain_18 rfl ?_
      refine wp_imul (pc := 19) dX2_gain_19 ?_
      refine wp_istore (pc := 20) dX2_gain_20 (by decide) ?_
      refine wp_iload_n (pc := 22) dX2_gain_22 rfl ?_
      refine wp_iload_n (pc := 23) dX2_gain_23 rfl ?_
      refine wp_icmp_ne (pc := 24) 34 dX2_gain_24 (by decide) (by omega) (by omega) (fun c24 => ?_) (fun c24 => ?_)
      ·
        first
        | (exfalso; omega)
        | skip
          refine wp_iload_n (pc := 34) dX2_gain_34 rfl ?_
          refine wp_iload_n (pc := 35) dX2_gain_35 rfl ?_
          refine wp_icmp_le (pc := 36) 46 dX2_gain_36 (by decide) (by omega) (by omega) (fun c36 => ?_) (fun c36 => ?_)
          ·
            first
            | (exfalso; omega)
            | skip
              refine wp_iload (pc := 46) dX2_gain_46 rfl ?_
              refine wp_ineg (pc := 48) dX2_gain_48 ?_
              exact wp_ir (pc := 49) dX2_gain_49 rfl (by decide) (by decide) (by unfold gan; (repeat' split) <;> first | rfl | omega) rfl
          ·
            first
            | (exfalso; omega)
            | skip
              refine wp_iload_n (pc := 39) dX2_gain_39 rfl ?_
              refine wp_iload (pc := 40) dX2_gain_40 rfl ?_
              refine wp_isub (pc := 42) dX2_gain_42 ?_
              refine wp_goto (pc := 43) 49 dX2_gain_43 (by decide) ?_
              exact wp_ir (pc := 49) dX2_gain_49 rfl (by decide) (by decide) (by unfold gan; (repeat' split) <;> first | rfl | omega) rfl
      ·
        first
        | (exfalso; omega)
        | skip
          refine wp_iload_n (pc := 27) dX2_gain_27 rfl ?_
          refine wp_iconst (pc := 28) dX2_gain_28 ?_
          refine wp_idiv (pc := 29) dX2_gain_29 (by decide) (I_div (by omega) (by omega) (by omega) (by omega)) ?_
          refine wp_iload (pc := 30) dX2_gain_30 rfl ?_
          refine wp_isub (pc := 32) dX2_gain_32 ?_
          exact wp_ir (pc := 33) dX2_gain_33 rfl (by decide) (by decide) (by unfold gan; (repeat' split) <;> first | rfl | omega) rfl
theorem gan_in (rx : 0 ≤ x ∧ x ≤ 9) (ry : 0 ≤ y ∧ y ≤ 9) (rv : 0 ≤ v ∧ v ≤ 20) (rc : 0 ≤ c ∧ c ≤ 5) : -45 ≤ gan x y v c ∧ gan x y v c ≤ 65 := by
  have h : ∀ (x y : Fin 10) (v : Fin 21) (c : Fin 6), -45 ≤ gan ((x : Nat) : Int) ((y : Nat) : Int) ((v : Nat) : Int) ((c : Nat) : Int) ∧ gan ((x : Nat) : Int) ((y : Nat) : Int) ((v : Nat) : Int) ((c : Nat) : Int) ≤ 65 := by decide +kernel
  have := h ⟨x.toNat, by omega⟩ ⟨y.toNat, by omega⟩ ⟨v.toNat, by omega⟩ ⟨c.toNat, by omega⟩
  dsimp only at this
  rwa [show (x.toNat : Int) = x by omega, show (y.toNat : Int) = y by omega, show (v.toNat : Int) = v by omega, show (c.toNat : Int) = c by omega] at this
/-- the most that one can have against y, of the first n and one numbers -/
def bmx (v c y : Int) : Nat → Int
  | 0 => gan 0 y v c
  | n + 1 => mx (bmx v c y n) (gan ((n : Int) + 1) y v c)
theorem bmx_in (ry : 0 ≤ y ∧ y ≤ 9) (rv : 0 ≤ v ∧ v ≤ 20) (rc : 0 ≤ c ∧ c ≤ 5) : ∀ n : Nat, n ≤ 9 → -45 ≤ bmx v c y n ∧ bmx v c y n ≤ 65
  | 0, _ => gan_in (by omega) ry rv rc
  | n + 1, h => by
    have h1 := bmx_in ry rv rc n (by omega)
    have h2 := gan_in (x := (n : Int) + 1) (by omega) ry rv rc
    unfold bmx mx
    split <;> omega
theorem lp_rest2 (rv : 0 ≤ v ∧ v ≤ 20) (rc : 0 ≤ c ∧ c ≤ 5) (ry : 0 ≤ y ∧ y ≤ 9) {Q : Option Value → Hp → Prop} (K : ∀ hp2 F, GamesAt hp2 G → hp2.2 (G + 3) = some (.inl (.int, 10, F)) → F y = bmx v c y 9 → (∀ j, j ≠ y → F j = Z j) → SO hp hp2 G (G + 4) → wp g MX2_restingPairs (rm 3 0 0) Q 0 0 67 [some (.ref G), some (.int (I v)), some (.int (I c)), some (.ref r), some (.int (I y)), none, none] [] hp2) : ∀ (m i : Nat), 9 < i + m → i ≤ 9 → ∀ (hp2 : Hp) (F : Int → Int) (hG : GamesAt hp2 G) (g3 : hp2.2 (G + 3) = some (.inl (.int, 10, F))) (hF : F y = bmx v c y i) (hZ : ∀ j, j ≠ y → F j = Z j) (hS : SO hp hp2 G (G + 4)), wp g MX2_restingPairs (rm 3 0 0) Q 0 0 28 [some (.ref G), some (.int (I v)), some (.int (I c)), some (.ref r), some (.int (I y)), some (.int (I ((i : Int) + 1))), none] [] hp2 := by
  intro m
  induction m with
  | zero => intro i h1 h2; exact absurd h1 (by omega)
  | succ m ih =>
    intro i h1 h2 hp2 F hG g3 hF hZ hS
    have hG' := hG
    obtain ⟨g0, ⟨W, g1, rW⟩, ⟨Y, g2⟩, -⟩ := hG
    have hb := bmx_in ry rv rc i (by omega)
    refine wp_iload (pc := 28) dX2_restingPairs_28 rfl ?_
    refine wp_bipush (pc := 30) (y := 9) dX2_restingPairs_30 (by decide) ?_
    refine wp_icmp_gt (pc := 32) 67 dX2_restingPairs_32 (by decide) (by omega) (by omega) (fun c32 => ?_) (fun c32 => ?_)
    ·
      have e : i = 9 := by omega
      subst e
      refine wp_ls ?_ (K hp2 F hG' g3 hF hZ hS)
      repeat' (first | exact LE_0 | refine LE_s rfl ?_ | refine LE_s (I_c (by first | omega | (simp only [sm]; omega))) ?_ | refine LE_s (J_c (by first | omega | exact Int.pow_succ _ _ | exact (Int.pow_succ _ _).symm | exact (Int.pow_zero _).symm | (simp only [sm]; omega))) ?_ | refine LE_n ?_)
    ·
      have hga := gan_in (x := (i : Int) + 1) (y := y) (by omega) ry rv rc
      skip -- go
      refine wp_aload_n (pc := 35) dX2_restingPairs_35 rfl ?_
      refine wp_getf (pc := 36) dX2_restingPairs_36 gf_X2_19 (by repeat (first | assumption | exact hset_eq | refine hset_at (by omega) ?_)) (by rfl) ?_
      refine wp_iload (pc := 39) dX2_restingPairs_39 rfl ?_
      refine wp_aload_n (pc := 41) dX2_restingPairs_41 rfl ?_
      refine wp_getf (pc := 42) dX2_restingPairs_42 gf_X2_19 (by repeat (first | assumption | exact hset_eq | refine hset_at (by omega) ?_)) (by rfl) ?_
      refine wp_iload (pc := 45) dX2_restingPairs_45 rfl ?_
      refine wp_iald (pc := 47) dX2_restingPairs_47 g3 (by omega) (by omega) (by decide) ?_
      refine wp_topE hF ?_
      refine wp_iload (pc := 48) dX2_restingPairs_48 rfl ?_
      refine wp_iload (pc := 50) dX2_restingPairs_50 rfl ?_
      refine wp_iload_n (pc := 52) dX2_restingPairs_52 rfl ?_
      refine wp_iload_n (pc := 53) dX2_restingPairs_53 rfl ?_
      refine wp_Sp (pc := 54) dX2_restingPairs_54 cl_X2_74 (sp_Games_gain (by first | assumption | omega) (by first | assumption | omega) (by first | assumption | omega) (by first | assumption | omega)) rfl rfl (by decide) (Nat.le_of_ble_eq_true rfl) ?_
      refine wp_max (pc := 57) dX2_restingPairs_57 ml_X2_60 ma_max_s ma_ini ma_max_c (by decide) (by decide) (by decide) (by decide) (Nat.le_of_ble_eq_true rfl) (by omega) (by omega) ?_
      refine wp_iast (pc := 60) dX2_restingPairs_60 g3 (by omega) (by omega) (by decide) ?_
      refine wp_iinc (pc := 61) dX2_restingPairs_61 rfl (by decide) ?_
      refine wp_goto (pc := 64) 28 dX2_restingPairs_64 (by decide) ?_
      refine wp_ls ?_ (ih (i + 1) (by omega) (by omega) _ (updI F y (mx (bmx v c y i) (gan ((i : Int) + 1) y v c))) ⟨(by repeat (first | assumption | exact hset_eq | refine hset_at (by omega) ?_)), ⟨W, (by repeat (first | assumption | exact hset_eq | refine hset_at (by omega) ?_)), rW⟩, ⟨Y, (by repeat (first | assumption | exact hset_eq | refine hset_at (by omega) ?_))⟩, ⟨_, hset_eq⟩⟩ hset_eq updI_eq (fun j hj => by rw [updI_ne hj]; exact hZ j hj) (by repeat (first | exact SO.rf | assumption | refine SO.set ?_ (by omega) (by omega))))
      repeat' (first | exact LE_0 | refine LE_s rfl ?_ | refine LE_s (I_c (by first | omega | (simp only [sm]; omega))) ?_ | refine LE_s (J_c (by first | omega | exact Int.pow_succ _ _ | exact (Int.pow_succ _ _).symm | exact (Int.pow_zero _).symm | (simp only [sm]; omega))) ?_ | refine LE_n ?_)
theorem lp_rest1 (rv : 0 ≤ v ∧ v ≤ 20) (rc : 0 ≤ c ∧ c ≤ 5) {Q : Option Value → Hp → Prop} (K : ∀ hp2 F, GamesAt hp2 G → hp2.2 (G + 3) = some (.inl (.int, 10, F)) → (∀ y : Int, 0 ≤ y → y ≤ 9 → F y = bmx v c y 9) → SO hp hp2 G (G + 4) → wp g MX2_restingPairs (rm 3 0 0) Q 0 0 73 [some (.ref G), some (.int (I v)), some (.int (I c)), some (.ref r), none, none, none] [] hp2) : ∀ (m i : Nat), 10 < i + m → i ≤ 10 → ∀ (hp2 : Hp) (F : Int → Int) (hG : GamesAt hp2 G) (g3 : hp2.2 (G + 3) = some (.inl (.int, 10, F))) (hF : ∀ y : Int, 0 ≤ y → y < i → F y = bmx v c y 9) (hS : SO hp hp2 G (G + 4)), wp g MX2_restingPairs (rm 3 0 0) Q 0 0 3 [some (.ref G), some (.int (I v)), some (.int (I c)), some (.ref r), some (.int (I (i : Int))), none, none] [] hp2 := by
  intro m
  induction m with
  | zero => intro i h1 h2; exact absurd h1 (by omega)
  | succ m ih =>
    intro i h1 h2 hp2 F hG g3 hF hS
    have hG' := hG
    obtain ⟨g0, ⟨W, g1, rW⟩, ⟨Y, g2⟩, -⟩ := hG
    refine wp_iload (pc := 3) dX2_restingPairs_3 rfl ?_
    refine wp_bipush (pc := 5) (y := 9) dX2_restingPairs_5 (by decide) ?_
    refine wp_icmp_gt (pc := 7) 73 dX2_restingPairs_7 (by decide) (by omega) (by omega) (fun c7 => ?_) (fun c7 => ?_)
    ·
      refine wp_ls ?_ (K hp2 F hG' g3 (fun y h1 h2 => hF y h1 (by omega)) hS)
      repeat' (first | exact LE_0 | refine LE_s rfl ?_ | refine LE_s (I_c (by first | omega | (simp only [sm]; omega))) ?_ | refine LE_s (J_c (by first | omega | exact Int.pow_succ _ _ | exact (Int.pow_succ _ _).symm | exact (Int.pow_zero _).symm | (simp only [sm]; omega))) ?_ | refine LE_n ?_)
    ·
      refine wp_aload_n (pc := 10) dX2_restingPairs_10 rfl ?_
      refine wp_getf (pc := 11) dX2_restingPairs_11 gf_X2_19 (by repeat (first | assumption | exact hset_eq | refine hset_at (by omega) ?_)) (by rfl) ?_
      refine wp_iload (pc := 14) dX2_restingPairs_14 rfl ?_
      refine wp_iconst (pc := 16) dX2_restingPairs_16 ?_
      refine wp_iload (pc := 17) dX2_restingPairs_17 rfl ?_
      refine wp_iload_n (pc := 19) dX2_restingPairs_19 rfl ?_
      refine wp_iload_n (pc := 20) dX2_restingPairs_20 rfl ?_
      refine wp_Sp (pc := 21) dX2_restingPairs_21 cl_X2_74 (sp_Games_gain (by first | assumption | omega) (by first | assumption | omega) (by first | assumption | omega) (by first | assumption | omega)) rfl rfl (by decide) (Nat.le_of_ble_eq_true rfl) ?_
      refine wp_iast (pc := 24) dX2_restingPairs_24 g3 (by omega) (by omega) (by decide) ?_
      refine wp_iconst (pc := 25) dX2_restingPairs_25 ?_
      refine wp_istore (pc := 26) dX2_restingPairs_26 (by decide) ?_
      refine wp_ls ?_ (lp_rest2 (hp := hp) (y := (i : Int)) (Z := F) (r := r) rv rc (by omega) ?_ 10 0 (by omega) (by omega) _ (updI F (i : Int) (gan 0 (i : Int) v c)) ⟨(by repeat (first | assumption | exact hset_eq | refine hset_at (by omega) ?_)), ⟨W, (by repeat (first | assumption | exact hset_eq | refine hset_at (by omega) ?_)), rW⟩, ⟨Y, (by repeat (first | assumption | exact hset_eq | refine hset_at (by omega) ?_))⟩, ⟨_, hset_eq⟩⟩ hset_eq updI_eq (fun j hj => updI_ne hj) (by repeat (first | exact SO.rf | assumption | refine SO.set ?_ (by omega) (by omega))))
      · repeat' (first | exact LE_0 | refine LE_s rfl ?_ | refine LE_s (I_c (by first | omega | (simp only [sm]; omega))) ?_ | refine LE_s (J_c (by first | omega | exact Int.pow_succ _ _ | exact (Int.pow_succ _ _).symm | exact (Int.pow_zero _).symm | (simp only [sm]; omega))) ?_ | refine LE_n ?_)
      · intro hp3 F3 hG3 g33 hF3 hZ3 hS3
        refine wp_iinc (pc := 67) dX2_restingPairs_67 rfl (by decide) ?_
        refine wp_goto (pc := 70) 3 dX2_restingPairs_70 (by decide) ?_
        refine wp_ls ?_ (ih (i + 1) (by omega) (by omega) hp3 F3 hG3 g33 (fun y h1 h2 => ?_) hS3)
        · repeat' (first | exact LE_0 | refine LE_s rfl ?_ | refine LE_s (I_c (by first | omega | (simp only [sm]; omega))) ?_ | refine LE_s (J_c (by first | omega | exact Int.pow_succ _ _ | exact (Int.pow_succ _ _).symm | exact (Int.pow_zero _).symm | (simp only [sm]; omega))) ?_ | refine LE_n ?_)
        · by_cases z : y = (i : Int)
          · rw [z]; exact hF3
          · rw [hZ3 y z]; exact hF y h1 (by omega)
/-- the pairs, counted from 0 .. 99, by which neither would have more -/
def rst (v c : Int) : Nat → Bool := fun k => decide (gan ((k / 10 : Nat) : Int) ((k % 10 : Nat) : Int) v c = bmx v c ((k % 10 : Nat) : Int) 9 ∧ gan ((k % 10 : Nat) : Int) ((k / 10 : Nat) : Int) v c = bmx v c ((k / 10 : Nat) : Int) 9)
def rro (P : Nat → Bool) (k : Nat) : List Int := if fst P k < k then [((fst P k / 10 : Nat) : Int), ((fst P k % 10 : Nat) : Int)] else []
theorem cnt0 (P : Nat → Bool) : ∀ k, cnt P k = 0 ↔ fst P k = k
  | 0 => by simp [cnt, fst]
  | k + 1 => by
    have ih := cnt0 P k
    have hl := fst_le P k
    show cnt P k + (if P k then 1 else 0) = 0 ↔ (if fst P k < k then fst P k else if P k then k else k + 1) = k + 1
    by_cases hP : P k = true
    · rw [if_pos hP, if_pos hP]
      by_cases z : fst P k < k
      · rw [if_pos z]; omega
      · rw [if_neg z]; omega
    · rw [if_neg hP, if_neg hP]
      by_cases z : fst P k < k
      · rw [if_pos z]; omega
      · rw [if_neg z]; omega
theorem rro_no {P : Nat → Bool} {k : Nat} (h : ¬ (P k = true ∧ cnt P k = 0)) : rro P (k + 1) = rro P k := by
  have h1 := cnt0 P k
  have hl := fst_le P k
  unfold rro
  show (if (if fst P k < k then fst P k else if P k then k else k + 1) < k + 1 then _ else _) = _
  by_cases z : fst P k < k
  · have e : fst P (k + 1) = fst P k := if_pos z
    rw [if_pos z, if_pos (by omega), if_pos z, e]
  · rw [if_neg z, if_neg z]
    have hP : ¬ P k = true := fun y => h ⟨y, h1.mpr (by omega)⟩
    rw [if_neg hP, if_neg (by omega)]
theorem rro_yes {P : Nat → Bool} {k : Nat} (hP : P k = true) (h : cnt P k = 0) : rro P (k + 1) = [((k / 10 : Nat) : Int), ((k % 10 : Nat) : Int)] := by
  have h1 := (cnt0 P k).mp h
  have e : fst P (k + 1) = k := by show (if fst P k < k then fst P k else if P k then k else k + 1) = k; rw [if_neg (by omega), if_pos hP]
  unfold rro
  rw [e, if_pos (by omega)]
theorem lp_rest4 (rv : 0 ≤ v ∧ v ≤ 20) (rc : 0 ≤ c ∧ c ≤ 5) (hn : n < 10) (hd2 : r + 2 ≤ G ∨ G + 4 ≤ r) {Q : Option Value → Hp → Prop} (K : ∀ hp2, GamesAt hp2 G → hp2.2 (G + 3) = some (.inl (.int, 10, F)) → RowAt hp2 r (rro (rst v c) (10 * (n + 1))) → SO hp hp2 r (r + 2) → wp g MX2_restingPairs (rm 3 0 0) Q 0 0 163 [some (.ref G), some (.int (I v)), some (.int (I c)), some (.ref r), some (.int (I (cnt (rst v c) (10 * (n + 1)) : Nat))), some (.int (I (n : Int))), none] [] hp2) (hF : ∀ y : Int, 0 ≤ y → y ≤ 9 → F y = bmx v c y 9) : ∀ (m i : Nat), 10 < i + m → i ≤ 10 → ∀ (hp2 : Hp) (hG : GamesAt hp2 G) (g3 : hp2.2 (G + 3) = some (.inl (.int, 10, F))) (hR : RowAt hp2 r (rro (rst v c) (10 * n + i))) (hS : SO hp hp2 r (r + 2)), wp g MX2_restingPairs (rm 3 0 0) Q 0 0 93 [some (.ref G), some (.int (I v)), some (.int (I c)), some (.ref r), some (.int (I (cnt (rst v c) (10 * n + i) : Nat))), some (.int (I (n : Int))), some (.int (I (i : Int)))] [] hp2 := by
  intro m
  induction m with
  | zero => intro i h1 h2; exact absurd h1 (by omega)
  | succ m ih =>
    intro i h1 h2 hp2 hG g3 hR hS
    have hG' := hG
    obtain ⟨g0, ⟨W, g1, rW⟩, ⟨Y, g2⟩, -⟩ := hG
    have hR' := hR
    obtain ⟨FR, r0, r1, hl, hFR⟩ := hR
    have hcl := cnt_le (rst v c) (10 * n + i)
    refine wp_iload (pc := 93) dX2_restingPairs_93 rfl ?_
    refine wp_bipush (pc := 95) (y := 9) dX2_restingPairs_95 (by decide) ?_
    refine wp_icmp_gt (pc := 97) 163 dX2_restingPairs_97 (by decide) (by omega) (by omega) (fun c97 => ?_) (fun c97 => ?_)
    ·
      have e : i = 10 := by omega
      subst e
      refine wp_ls ?_ (K hp2 hG' g3 (by rw [show 10 * (n + 1) = 10 * n + 10 by omega]; exact hR') hS)
      rw [show 10 * (n + 1) = 10 * n + 10 by omega]
      repeat' (first | exact LE_0 | refine LE_s rfl ?_ | refine LE_s (I_c (by first | omega | (simp only [sm]; omega))) ?_ | refine LE_s (J_c (by first | omega | exact Int.pow_succ _ _ | exact (Int.pow_succ _ _).symm | exact (Int.pow_zero _).symm | (simp only [sm]; omega))) ?_ | refine LE_n ?_)
    ·
      have hg1 := gan_in (x := (n : Int)) (y := (i : Int)) (by omega) (by omega) rv rc
      have hg2 := gan_in (x := (i : Int)) (y := (n : Int)) (by omega) (by omega) rv rc
      have hb1 := bmx_in (y := (n : Int)) (by omega) rv rc 9 (by omega)
      have hb2 := bmx_in (y := (i : Int)) (by omega) rv rc 9 (by omega)
      have hP : rst v c (10 * n + i) = decide (gan (n : Int) (i : Int) v c = bmx v c (i : Int) 9 ∧ gan (i : Int) (n : Int) v c = bmx v c (n : Int) 9) := by unfold rst; rw [show (10 * n + i) / 10 = n by omega, show (10 * n + i) % 10 = i by omega] -- go
      refine wp_iload (pc := 100) dX2_restingPairs_100 rfl ?_
      refine wp_iload (pc := 102) dX2_restingPairs_102 rfl ?_
      refine wp_iload_n (pc := 104) dX2_restingPairs_104 rfl ?_
      refine wp_iload_n (pc := 105) dX2_restingPairs_105 rfl ?_
      refine wp_Sp (pc := 106) dX2_restingPairs_106 cl_X2_74 (sp_Games_gain (by first | assumption | omega) (by first | assumption | omega) (by first | assumption | omega) (by first | assumption | omega)) rfl rfl (by decide) (Nat.le_of_ble_eq_true rfl) ?_
      refine wp_aload_n (pc := 109) dX2_restingPairs_109 rfl ?_
      refine wp_getf (pc := 110) dX2_restingPairs_110 gf_X2_19 (by repeat (first | assumption | exact hset_eq | refine hset_at (by omega) ?_)) (by rfl) ?_
      refine wp_iload (pc := 113) dX2_restingPairs_113 rfl ?_
      refine wp_iald (pc := 115) dX2_restingPairs_115 g3 (by omega) (by omega) (by decide) ?_
      refine wp_topE (hF _ (by omega) (by omega)) ?_
      refine wp_icmp_ne (pc := 116) 157 dX2_restingPairs_116 (by decide) (by omega) (by omega) (fun c116 => ?_) (fun c116 => ?_)
      ·
        have hno : rst v c (10 * n + i) = false := by rw [hP]; exact decide_eq_false (fun z => c116 z.1)
        skip -- go
        first
        | refine wp_iinc (pc := 157) dX2_restingPairs_157 rfl (by decide) ?_
          refine wp_goto (pc := 160) 93 dX2_restingPairs_160 (by decide) ?_
          refine wp_ls ?_ (ih (i + 1) (by omega) (by omega) hp2 hG' g3 (by rw [show 10 * n + (i + 1) = 10 * n + i + 1 by omega, rro_no (fun z => by rw [hno] at z; exact absurd z.1 (by decide))]; exact hR') hS)
          rw [show 10 * n + (i + 1) = 10 * n + i + 1 by omega, show cnt (rst v c) (10 * n + i + 1) = cnt (rst v c) (10 * n + i) by show _ + _ = _; rw [hno]; rfl]
          repeat' (first | exact LE_0 | refine LE_s rfl ?_ | refine LE_s (I_c (by first | omega | (simp only [sm]; omega))) ?_ | refine LE_s (J_c (by first | omega | exact Int.pow_succ _ _ | exact (Int.pow_succ _ _).symm | exact (Int.pow_zero _).symm | (simp only [sm]; omega))) ?_ | refine LE_n ?_)
        | refine wp_iinc (pc := 157) dX2_restingPairs_157 rfl (by decide) ?_
          refine wp_goto (pc := 160) 93 dX2_restingPairs_160 (by decide) ?_
          refine wp_ls ?_ (ih (i + 1) (by omega) (by omega) hp2 hG' g3 (by rw [show 10 * n + (i + 1) = 10 * n + i + 1 by omega, hrn]; exact hR') hS)
          rw [show 10 * n + (i + 1) = 10 * n + i + 1 by omega, hcs]
          repeat' (first | exact LE_0 | refine LE_s rfl ?_ | refine LE_s (I_c (by first | omega | (simp only [sm]; omega))) ?_ | refine LE_s (J_c (by first | omega | exact Int.pow_succ _ _ | exact (Int.pow_succ _ _).symm | exact (Int.pow_zero _).symm | (simp only [sm]; omega))) ?_ | refine LE_n ?_)
        | refine wp_iinc (pc := 157) dX2_restingPairs_157 rfl (by decide) ?_
          refine wp_goto (pc := 160) 93 dX2_restingPairs_160 (by decide) ?_
          refine wp_ls ?_ (ih (i + 1) (by omega) (by omega) hp154 (hG'.fr e154.2 (by omega)) ((e154.2.2 _ (by omega)).trans g3) (by rw [show 10 * n + (i + 1) = 10 * n + i + 1 by omega, hry]; exact e154.1) (hS.tr e154.2))
          rw [show 10 * n + (i + 1) = 10 * n + i + 1 by omega, hcs]
          repeat' (first | exact LE_0 | refine LE_s rfl ?_ | refine LE_s (I_c (by first | omega | (simp only [sm]; omega))) ?_ | refine LE_s (J_c (by first | omega | exact Int.pow_succ _ _ | exact (Int.pow_succ _ _).symm | exact (Int.pow_zero _).symm | (simp only [sm]; omega))) ?_ | refine LE_n ?_)
      ·
        refine wp_iload (pc := 119) dX2_restingPairs_119 rfl ?_
        refine wp_iload (pc := 121) dX2_restingPairs_121 rfl ?_
        refine wp_iload_n (pc := 123) dX2_restingPairs_123 rfl ?_
        refine wp_iload_n (pc := 124) dX2_restingPairs_124 rfl ?_
        refine wp_Sp (pc := 125) dX2_restingPairs_125 cl_X2_74 (sp_Games_gain (by first | assumption | omega) (by first | assumption | omega) (by first | assumption | omega) (by first | assumption | omega)) rfl rfl (by decide) (Nat.le_of_ble_eq_true rfl) ?_
        refine wp_aload_n (pc := 128) dX2_restingPairs_128 rfl ?_
        refine wp_getf (pc := 129) dX2_restingPairs_129 gf_X2_19 (by repeat (first | assumption | exact hset_eq | refine hset_at (by omega) ?_)) (by rfl) ?_
        refine wp_iload (pc := 132) dX2_restingPairs_132 rfl ?_
        refine wp_iald (pc := 134) dX2_restingPairs_134 g3 (by omega) (by omega) (by decide) ?_
        refine wp_topE (hF _ (by omega) (by omega)) ?_
        refine wp_icmp_ne (pc := 135) 157 dX2_restingPairs_135 (by decide) (by omega) (by omega) (fun c135 => ?_) (fun c135 => ?_)
        ·
          have hno : rst v c (10 * n + i) = false := by rw [hP]; exact decide_eq_false (fun z => c135 z.2)
          skip -- go
          first
          | refine wp_iinc (pc := 157) dX2_restingPairs_157 rfl (by decide) ?_
            refine wp_goto (pc := 160) 93 dX2_restingPairs_160 (by decide) ?_
            refine wp_ls ?_ (ih (i + 1) (by omega) (by omega) hp2 hG' g3 (by rw [show 10 * n + (i + 1) = 10 * n + i + 1 by omega, rro_no (fun z => by rw [hno] at z; exact absurd z.1 (by decide))]; exact hR') hS)
            rw [show 10 * n + (i + 1) = 10 * n + i + 1 by omega, show cnt (rst v c) (10 * n + i + 1) = cnt (rst v c) (10 * n + i) by show _ + _ = _; rw [hno]; rfl]
            repeat' (first | exact LE_0 | refine LE_s rfl ?_ | refine LE_s (I_c (by first | omega | (simp only [sm]; omega))) ?_ | refine LE_s (J_c (by first | omega | exact Int.pow_succ _ _ | exact (Int.pow_succ _ _).symm | exact (Int.pow_zero _).symm | (simp only [sm]; omega))) ?_ | refine LE_n ?_)
          | refine wp_iinc (pc := 157) dX2_restingPairs_157 rfl (by decide) ?_
            refine wp_goto (pc := 160) 93 dX2_restingPairs_160 (by decide) ?_
            refine wp_ls ?_ (ih (i + 1) (by omega) (by omega) hp2 hG' g3 (by rw [show 10 * n + (i + 1) = 10 * n + i + 1 by omega, hrn]; exact hR') hS)
            rw [show 10 * n + (i + 1) = 10 * n + i + 1 by omega, hcs]
            repeat' (first | exact LE_0 | refine LE_s rfl ?_ | refine LE_s (I_c (by first | omega | (simp only [sm]; omega))) ?_ | refine LE_s (J_c (by first | omega | exact Int.pow_succ _ _ | exact (Int.pow_succ _ _).symm | exact (Int.pow_zero _).symm | (simp only [sm]; omega))) ?_ | refine LE_n ?_)
          | refine wp_iinc (pc := 157) dX2_restingPairs_157 rfl (by decide) ?_
            refine wp_goto (pc := 160) 93 dX2_restingPairs_160 (by decide) ?_
            refine wp_ls ?_ (ih (i + 1) (by omega) (by omega) hp154 (hG'.fr e154.2 (by omega)) ((e154.2.2 _ (by omega)).trans g3) (by rw [show 10 * n + (i + 1) = 10 * n + i + 1 by omega, hry]; exact e154.1) (hS.tr e154.2))
            rw [show 10 * n + (i + 1) = 10 * n + i + 1 by omega, hcs]
            repeat' (first | exact LE_0 | refine LE_s rfl ?_ | refine LE_s (I_c (by first | omega | (simp only [sm]; omega))) ?_ | refine LE_s (J_c (by first | omega | exact Int.pow_succ _ _ | exact (Int.pow_succ _ _).symm | exact (Int.pow_zero _).symm | (simp only [sm]; omega))) ?_ | refine LE_n ?_)
        ·
          have hyes : rst v c (10 * n + i) = true := by rw [hP]; exact decide_eq_true ⟨c116, c135⟩
          have hcs : cnt (rst v c) (10 * n + i + 1) = cnt (rst v c) (10 * n + i) + 1 := by show _ + _ = _; rw [if_pos hyes] -- go
          refine wp_iinc (pc := 138) dX2_restingPairs_138 rfl (by decide) ?_
          refine wp_iload (pc := 141) dX2_restingPairs_141 rfl ?_
          refine wp_iconst (pc := 143) dX2_restingPairs_143 ?_
          refine wp_icmp_ne (pc := 144) 157 dX2_restingPairs_144 (by decide) (by omega) (by omega) (fun c144 => ?_) (fun c144 => ?_)
          ·
            have hrn := rro_no (P := rst v c) (k := 10 * n + i) (fun z => c144 (by omega))
            skip -- go
            first
            | refine wp_iinc (pc := 157) dX2_restingPairs_157 rfl (by decide) ?_
              refine wp_goto (pc := 160) 93 dX2_restingPairs_160 (by decide) ?_
              refine wp_ls ?_ (ih (i + 1) (by omega) (by omega) hp2 hG' g3 (by rw [show 10 * n + (i + 1) = 10 * n + i + 1 by omega, rro_no (fun z => by rw [hno] at z; exact absurd z.1 (by decide))]; exact hR') hS)
              rw [show 10 * n + (i + 1) = 10 * n + i + 1 by omega, show cnt (rst v c) (10 * n + i + 1) = cnt (rst v c) (10 * n + i) by show _ + _ = _; rw [hno]; rfl]
              repeat' (first | exact LE_0 | refine LE_s rfl ?_ | refine LE_s (I_c (by first | omega | (simp only [sm]; omega))) ?_ | refine LE_s (J_c (by first | omega | exact Int.pow_succ _ _ | exact (Int.pow_succ _ _).symm | exact (Int.pow_zero _).symm | (simp only [sm]; omega))) ?_ | refine LE_n ?_)
            | refine wp_iinc (pc := 157) dX2_restingPairs_157 rfl (by decide) ?_
              refine wp_goto (pc := 160) 93 dX2_restingPairs_160 (by decide) ?_
              refine wp_ls ?_ (ih (i + 1) (by omega) (by omega) hp2 hG' g3 (by rw [show 10 * n + (i + 1) = 10 * n + i + 1 by omega, hrn]; exact hR') hS)
              rw [show 10 * n + (i + 1) = 10 * n + i + 1 by omega, hcs]
              repeat' (first | exact LE_0 | refine LE_s rfl ?_ | refine LE_s (I_c (by first | omega | (simp only [sm]; omega))) ?_ | refine LE_s (J_c (by first | omega | exact Int.pow_succ _ _ | exact (Int.pow_succ _ _).symm | exact (Int.pow_zero _).symm | (simp only [sm]; omega))) ?_ | refine LE_n ?_)
            | refine wp_iinc (pc := 157) dX2_restingPairs_157 rfl (by decide) ?_
              refine wp_goto (pc := 160) 93 dX2_restingPairs_160 (by decide) ?_
              refine wp_ls ?_ (ih (i + 1) (by omega) (by omega) hp154 (hG'.fr e154.2 (by omega)) ((e154.2.2 _ (by omega)).trans g3) (by rw [show 10 * n + (i + 1) = 10 * n + i + 1 by omega, hry]; exact e154.1) (hS.tr e154.2))
              rw [show 10 * n + (i + 1) = 10 * n + i + 1 by omega, hcs]
              repeat' (first | exact LE_0 | refine LE_s rfl ?_ | refine LE_s (I_c (by first | omega | (simp only [sm]; omega))) ?_ | refine LE_s (J_c (by first | omega | exact Int.pow_succ _ _ | exact (Int.pow_succ _ _).symm | exact (Int.pow_zero _).symm | (simp only [sm]; omega))) ?_ | refine LE_n ?_)
          ·
            have hry := rro_yes (P := rst v c) (k := 10 * n + i) hyes (by omega)
            rw [show (10 * n + i) / 10 = n by omega, show (10 * n + i) % 10 = i by omega] at hry -- go
            refine wp_aload_n (pc := 147) dX2_restingPairs_147 rfl ?_
            refine wp_iload (pc := 148) dX2_restingPairs_148 rfl ?_
            refine wp_i2l (pc := 150) dX2_restingPairs_150 (by omega) ?_
            refine wp_iload (pc := 151) dX2_restingPairs_151 rfl ?_
            refine wp_i2l (pc := 153) dX2_restingPairs_153 (by omega) ?_
            refine wp_Vn (pc := 154) dX2_restingPairs_154 cl_X2_67 (sp_Row_tell_ hR') rfl rfl (by repeat (first | assumption | exact hset_eq | refine hset_at (by omega) ?_)) (by rfl) (by decide) (Nat.le_of_ble_eq_true rfl) (fun hp154 e154 => ?_)
            first
            | refine wp_iinc (pc := 157) dX2_restingPairs_157 rfl (by decide) ?_
              refine wp_goto (pc := 160) 93 dX2_restingPairs_160 (by decide) ?_
              refine wp_ls ?_ (ih (i + 1) (by omega) (by omega) hp2 hG' g3 (by rw [show 10 * n + (i + 1) = 10 * n + i + 1 by omega, rro_no (fun z => by rw [hno] at z; exact absurd z.1 (by decide))]; exact hR') hS)
              rw [show 10 * n + (i + 1) = 10 * n + i + 1 by omega, show cnt (rst v c) (10 * n + i + 1) = cnt (rst v c) (10 * n + i) by show _ + _ = _; rw [hno]; rfl]
              repeat' (first | exact LE_0 | refine LE_s rfl ?_ | refine LE_s (I_c (by first | omega | (simp only [sm]; omega))) ?_ | refine LE_s (J_c (by first | omega | exact Int.pow_succ _ _ | exact (Int.pow_succ _ _).symm | exact (Int.pow_zero _).symm | (simp only [sm]; omega))) ?_ | refine LE_n ?_)
            | refine wp_iinc (pc := 157) dX2_restingPairs_157 rfl (by decide) ?_
              refine wp_goto (pc := 160) 93 dX2_restingPairs_160 (by decide) ?_
              refine wp_ls ?_ (ih (i + 1) (by omega) (by omega) hp2 hG' g3 (by rw [show 10 * n + (i + 1) = 10 * n + i + 1 by omega, hrn]; exact hR') hS)
              rw [show 10 * n + (i + 1) = 10 * n + i + 1 by omega, hcs]
              repeat' (first | exact LE_0 | refine LE_s rfl ?_ | refine LE_s (I_c (by first | omega | (simp only [sm]; omega))) ?_ | refine LE_s (J_c (by first | omega | exact Int.pow_succ _ _ | exact (Int.pow_succ _ _).symm | exact (Int.pow_zero _).symm | (simp only [sm]; omega))) ?_ | refine LE_n ?_)
            | refine wp_iinc (pc := 157) dX2_restingPairs_157 rfl (by decide) ?_
              refine wp_goto (pc := 160) 93 dX2_restingPairs_160 (by decide) ?_
              refine wp_ls ?_ (ih (i + 1) (by omega) (by omega) hp154 (hG'.fr e154.2 (by omega)) ((e154.2.2 _ (by omega)).trans g3) (by rw [show 10 * n + (i + 1) = 10 * n + i + 1 by omega, hry]; exact e154.1) (hS.tr e154.2))
              rw [show 10 * n + (i + 1) = 10 * n + i + 1 by omega, hcs]
              repeat' (first | exact LE_0 | refine LE_s rfl ?_ | refine LE_s (I_c (by first | omega | (simp only [sm]; omega))) ?_ | refine LE_s (J_c (by first | omega | exact Int.pow_succ _ _ | exact (Int.pow_succ _ _).symm | exact (Int.pow_zero _).symm | (simp only [sm]; omega))) ?_ | refine LE_n ?_)
theorem lp_rest3 (rv : 0 ≤ v ∧ v ≤ 20) (rc : 0 ≤ c ∧ c ≤ 5) (hd2 : r + 2 ≤ G ∨ G + 4 ≤ r) (hF : ∀ y : Int, 0 ≤ y → y ≤ 9 → F y = bmx v c y 9) : ∀ (m i : Nat), 10 < i + m → i ≤ 10 → ∀ (hp2 : Hp) (hG : GamesAt hp2 G) (g3 : hp2.2 (G + 3) = some (.inl (.int, 10, F))) (hR : RowAt hp2 r (rro (rst v c) (10 * i))) (hS : SO hp hp2 r (r + 2)), wp g MX2_restingPairs (rm 3 0 0) (Eff (.int (I (cnt (rst v c) 100 : Nat))) (fun hp2 => RowAt hp2 r (rro (rst v c) 100) ∧ GamesAt hp2 G ∧ SO hp hp2 r (r + 2))) 0 0 83 [some (.ref G), some (.int (I v)), some (.int (I c)), some (.ref r), some (.int (I (cnt (rst v c) (10 * i) : Nat))), some (.int (I (i : Int))), none] [] hp2 := by
  intro m
  induction m with
  | zero => intro i h1 h2; exact absurd h1 (by omega)
  | succ m ih =>
    intro i h1 h2 hp2 hG g3 hR hS
    refine wp_iload (pc := 83) dX2_restingPairs_83 rfl ?_
    refine wp_bipush (pc := 85) (y := 9) dX2_restingPairs_85 (by decide) ?_
    refine wp_icmp_gt (pc := 87) 169 dX2_restingPairs_87 (by decide) (by omega) (by omega) (fun c87 => ?_) (fun c87 => ?_)
    ·
      have e : i = 10 := by omega
      subst e -- go
      refine wp_iload (pc := 169) dX2_restingPairs_169 rfl ?_
      exact wp_ir (pc := 171) dX2_restingPairs_171 rfl (by decide) (by decide) (by first | rfl | omega) ⟨hR, hG, hS⟩
    ·
      refine wp_iconst (pc := 90) dX2_restingPairs_90 ?_
      refine wp_istore (pc := 91) dX2_restingPairs_91 (by decide) ?_
      refine wp_ls ?_ (lp_rest4 (n := i) (F := F) rv rc (by omega) hd2 (fun hp3 hG3 g33 hR3 hS3 => ?_) hF 11 0 (by omega) (by omega) hp2 hG g3 hR hS)
      · repeat' (first | exact LE_0 | refine LE_s rfl ?_ | refine LE_s (I_c (by first | omega | (simp only [sm]; omega))) ?_ | refine LE_s (J_c (by first | omega | exact Int.pow_succ _ _ | exact (Int.pow_succ _ _).symm | exact (Int.pow_zero _).symm | (simp only [sm]; omega))) ?_ | refine LE_n ?_)
      · refine wp_iinc (pc := 163) dX2_restingPairs_163 rfl (by decide) ?_
        refine wp_goto (pc := 166) 83 dX2_restingPairs_166 (by decide) ?_
        refine wp_ls ?_ (ih (i + 1) (by omega) (by omega) hp3 hG3 g33 hR3 hS3)
        repeat' (first | exact LE_0 | refine LE_s rfl ?_ | refine LE_s (I_c (by first | omega | (simp only [sm]; omega))) ?_ | refine LE_s (J_c (by first | omega | exact Int.pow_succ _ _ | exact (Int.pow_succ _ _).symm | exact (Int.pow_zero _).symm | (simp only [sm]; omega))) ?_ | refine LE_n ?_)
theorem seg_r73 (rv : 0 ≤ v ∧ v ≤ 20) (rc : 0 ≤ c ∧ c ≤ 5) (hd2 : r + 2 ≤ G ∨ G + 4 ≤ r) (hF : ∀ y : Int, 0 ≤ y → y ≤ 9 → F y = bmx v c y 9) (hG : GamesAt hp G) (g3 : hp.2 (G + 3) = some (.inl (.int, 10, F))) (hR : RowAt hp r l) : wp g MX2_restingPairs (rm 3 0 0) (Eff (.int (I (cnt (rst v c) 100 : Nat))) (fun hp2 => RowAt hp2 r (rro (rst v c) 100) ∧ GamesAt hp2 G ∧ SO hp hp2 r (r + 2))) 0 0 73 [some (.ref G), some (.int (I v)), some (.int (I c)), some (.ref r), none, none, none] [] hp := by
  have hR' := hR
  obtain ⟨FR, r0, r1, hl, hFR⟩ := hR
  refine wp_iconst (pc := 73) dX2_restingPairs_73 ?_
  refine wp_istore (pc := 74) dX2_restingPairs_74 (by decide) ?_
  refine wp_aload_n (pc := 76) dX2_restingPairs_76 rfl ?_
  refine wp_Vn (pc := 77) dX2_restingPairs_77 cl_X2_78 (sp_Row_clear (by first | assumption | omega)) rfl rfl (by repeat (first | assumption | exact hset_eq | refine hset_at (by omega) ?_)) (by rfl) (by decide) (Nat.le_of_ble_eq_true rfl) (fun hp77 e77 => ?_)
  refine wp_iconst (pc := 80) dX2_restingPairs_80 ?_
  refine wp_istore (pc := 81) dX2_restingPairs_81 (by decide) ?_
  refine wp_ls ?_ (lp_rest3 rv rc hd2 hF 11 0 (by omega) (by omega) hp77 (hG.fr e77.2 (by omega)) ((e77.2.2 _ (by omega)).trans g3) e77.1 e77.2)
  repeat' (first | exact LE_0 | refine LE_s rfl ?_ | refine LE_s (I_c (by first | omega | (simp only [sm]; omega))) ?_ | refine LE_s (J_c (by first | omega | exact Int.pow_succ _ _ | exact (Int.pow_succ _ _).symm | exact (Int.pow_zero _).symm | (simp only [sm]; omega))) ?_ | refine LE_n ?_)
theorem sp_Games_restingPairs (hG : GamesAt hp G) (hR : RowAt hp r l) (rv : 0 ≤ v ∧ v ≤ 20) (rc : 0 ≤ c ∧ c ≤ 5) (hd2 : r + 2 ≤ G ∨ G + 4 ≤ r) : Sp g MX2_restingPairs (rm 3 0 0) [.ref G, .int (I v), .int (I c), .ref r] hp (Eff (.int (I (cnt (rst v c) 100 : Nat))) (fun hp2 => RowAt hp2 r (rro (rst v c) 100) ∧ GamesAt hp2 G ∧ hp2.1 = hp.1 ∧ ∀ x, (x < G ∨ G + 4 ≤ x) → (x < r ∨ r + 2 ≤ x) → hp2.2 x = hp.2 x)) := by
  have hG' := hG
  obtain ⟨g0, ⟨W, g1, rW⟩, ⟨Y, g2⟩, ⟨Z, g3⟩⟩ := hG
  refine Sp_mk rfl (Nat.le_of_ble_eq_true rfl) ?_
  show wp g _ _ _ 0 0 0 [some (.ref G), some (.int (I v)), some (.int (I c)), some (.ref r), none, none, none] [] hp
  refine wp_iconst (pc := 0) dX2_restingPairs_0 ?_
  refine wp_istore (pc := 1) dX2_restingPairs_1 (by decide) ?_
  refine wp_ls ?_ (lp_rest1 (r := r) rv rc (fun hp3 F3 hG3 g33 hF3 hS3 => wp_post (fun u hq z => ?_) (seg_r73 rv rc hd2 hF3 hG3 g33 (hR.fr hS3 (by omega)))) 11 0 (by omega) (by omega) hp Z hG' g3 (fun y h1 h2 => by omega) SO.rf)
  · repeat' (first | exact LE_0 | refine LE_s rfl ?_ | refine LE_s (I_c (by first | omega | (simp only [sm]; omega))) ?_ | refine LE_s (J_c (by first | omega | exact Int.pow_succ _ _ | exact (Int.pow_succ _ _).symm | exact (Int.pow_zero _).symm | (simp only [sm]; omega))) ?_ | refine LE_n ?_)
  · obtain ⟨z1, z2, z3, z4⟩ := z
    exact ⟨z1, z2, z3, z4.1.trans hS3.1, fun x h1 h2 => (z4.2 x h2).trans (hS3.2 x h1)⟩
end GB

