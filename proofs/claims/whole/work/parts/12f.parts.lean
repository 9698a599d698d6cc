/-! Partings: groups -/
section PG
variable {g : GT} {hp hp2 : Hp} {P r t N h n k s : Nat} {Bc Gc Dc Nc F : Int → Int} {T : Nat → Int → Int} {a b c d o v x y p : Int} {l : List Int}
abbrev pobj (P : Nat) (n : Int) : AC := .inr (.inr (4, [.ref (P + 1), .ref (P + 2), .ref (P + 3), .int (I n), .ref (P + 4)]))
def PartAt (hp : Hp) (P : Nat) : Prop := (∃ n : Int, hp.2 P = some (pobj P n)) ∧ (∃ F, hp.2 (P + 1) = some (.inl (.int, 64, F))) ∧ (∃ F, hp.2 (P + 2) = some (.inl (.int, 64, F))) ∧ (∃ F, hp.2 (P + 3) = some (.inl (.int, 6, F))) ∧ ∃ F, hp.2 (P + 4) = some (.inl (.int, 448, F))
theorem PartAt.off (hP : PartAt hp P) (hS : ∀ x, P ≤ x → x < P + 5 → hp2.2 x = hp.2 x) : PartAt hp2 P := by
  obtain ⟨⟨n, p0⟩, ⟨B, p1⟩, ⟨G, p2⟩, ⟨D, p3⟩, ⟨M, p4⟩⟩ := hP
  exact ⟨⟨n, (hS _ (by omega) (by omega)).trans p0⟩, ⟨B, (hS _ (by omega) (by omega)).trans p1⟩, ⟨G, (hS _ (by omega) (by omega)).trans p2⟩, ⟨D, (hS _ (by omega) (by omega)).trans p3⟩, ⟨M, (hS _ (by omega) (by omega)).trans p4⟩⟩
theorem PartAt.fr (hP : PartAt hp P) {lo hi : Nat} (hS : SO hp hp2 lo hi) (hd : hi ≤ P ∨ P + 5 ≤ lo) : PartAt hp2 P := hP.off fun x _ _ => hS.2 x (by omega)
def andn (a b : Nat) : Nat := a &&& (63 ^^^ b)
def low (a : Nat) : Nat := a &&& (64 - a)
theorem I_andn {a b : Nat} (ha : a < 64) (hb : b < 64) : I (a : Int) &&& (I (b : Int) ^^^ I (-1)) = I ((andn a b : Nat) : Int) := by
  have h : ∀ a b : Fin 64, I ((a : Nat) : Int) &&& (I ((b : Nat) : Int) ^^^ I (-1)) = I ((andn (a : Nat) (b : Nat) : Nat) : Int) := by decide +kernel
  exact h ⟨a, ha⟩ ⟨b, hb⟩
theorem I_low {a : Nat} (h0 : 0 < a) (ha : a < 64) : I (a : Int) &&& I (-(a : Int)) = I ((low a : Nat) : Int) := by
  have h : ∀ a : Fin 64, 0 < (a : Nat) → I ((a : Nat) : Int) &&& I (-((a : Nat) : Int)) = I ((low (a : Nat) : Nat) : Int) := by decide +kernel
  exact h ⟨a, ha⟩ h0
theorem andn_le {a b : Nat} (ha : a < 64) : andn a b ≤ a := Nat.and_le_left
theorem low_le {a : Nat} : low a ≤ a := Nat.and_le_left
theorem low_pos {a : Nat} (h0 : 0 < a) (ha : a < 64) : 0 < low a := by
  have h : ∀ a : Fin 64, 0 < (a : Nat) → 0 < low (a : Nat) := by decide +kernel
  exact h ⟨a, ha⟩ h0
theorem low_min {a b : Nat} (h0 : 0 < a) (ha : a < 64) (hb : b < low a) : ¬ (andn b a = 0 ∧ ¬ b &&& low a = 0) := by
  have h : ∀ a : Fin 64, ∀ b : Fin 64, 0 < (a : Nat) → (b : Nat) < low (a : Nat) → ¬ (andn (b : Nat) (a : Nat) = 0 ∧ ¬ (b : Nat) &&& low (a : Nat) = 0) := by decide +kernel
  exact h ⟨a, ha⟩ ⟨b, Nat.lt_of_lt_of_le hb (Nat.le_trans low_le (Nat.le_of_lt ha))⟩ h0 hb
theorem pow6 {k : Nat} (h : k ≤ 6) : 1 ≤ 2 ^ k ∧ 2 ^ k ≤ 64 := ⟨Nat.one_le_two_pow, Nat.pow_le_pow_right (by decide) h⟩
theorem sp_Partings_allOf (hT : TownAt hp h T) (hI : TI T N) : Sp g MX4_allOf (rm 1 0 0) [.ref h] hp (Pur (.int (I ((2 ^ N - 1 : Nat) : Int))) hp) := by
  obtain ⟨i8, iN, i0, i1, i2, i3, i4, i5, i6, i7⟩ := hI
  obtain ⟨t0, t1, t2, t3, t4, t5, t6, t7⟩ := hT
  have hp6 := pow6 iN
  refine Sp_mk rfl (Nat.le_of_ble_eq_true rfl) ?_
  show wp g _ _ _ 0 0 0 [some (.ref h)] [] hp
  refine wp_bipush (pc := 0) (y := 64) dX4_allOf_0 (by decide) ?_
  refine wp_iconst (pc := 2) dX4_allOf_2 ?_
  refine wp_aload_n (pc := 3) dX4_allOf_3 rfl ?_
  refine wp_getf (pc := 4) dX4_allOf_4 gf_X4_36 (by repeat (first | assumption | exact hset_eq | refine hset_at (by omega) ?_)) (by rfl) ?_
  refine wp_topE i8 ?_
  refine wp_ishl (pc := 7) dX4_allOf_7 (I_shl (by omega)) ?_
  refine wp_min (pc := 8) dX4_allOf_8 ml_X4_44 ma_min_s ma_ini ma_min_c (by decide) (by decide) (by decide) (by decide) (Nat.le_of_ble_eq_true rfl) (by omega) (by omega) ?_
  refine wp_iconst (pc := 11) dX4_allOf_11 ?_
  refine wp_isub (pc := 12) dX4_allOf_12 ?_
  exact wp_ir (pc := 13) dX4_allOf_13 rfl (by decide) (by decide) (by unfold mi; split <;> omega) rfl
/-- what is owed to a set less what it owes -/
def bsm (b : Nat → Int) (n s : Nat) : Int := sm (fun i => if s.testBit i.toNat then b i.toNat else 0) n
theorem bsm_lo {b : Nat → Int} {i s : Nat} (hs : s < 2 ^ i) : bsm b (i + 1) s = bsm b i s := by
  show sm _ i + (if _ then _ else _) = _
  rw [if_neg (by rw [Int.toNat_natCast, Nat.testBit_lt_two_pow hs]; decide), Int.add_zero]
  rfl
theorem bsm_hi {b : Nat → Int} {i s : Nat} (hs : s < 2 ^ i) : bsm b (i + 1) (2 ^ i + s) = bsm b i s + b i := by
  show sm _ i + (if _ then _ else _) = _
  rw [if_pos (by rw [Int.toNat_natCast, Nat.testBit_two_pow_add_eq, Nat.testBit_lt_two_pow hs]; rfl), Int.toNat_natCast]
  congr 1
  exact sm_congr fun j hj => by rw [Int.toNat_natCast, Nat.testBit_two_pow_add_gt hj]
theorem lp_addUp2 (hi0 : n < 6) {b : Nat → Int} {Q : Option Value → Hp → Prop} (K : ∀ hp2 F, hp2.2 P = some (pobj P a) → hp2.2 (P + 1) = some (.inl (.int, 64, F)) → (∀ s : Nat, s < 2 ^ (n + 1) → F (s : Int) = bsm b (n + 1) s) → SO hp hp2 (P + 1) (P + 2) → wp g MX4_addUpBalances (rm 3 0 0) Q 0 0 63 [some (.ref P), some (.ref h), some (.int (I (n : Int))), none, none, none] [] hp2) : ∀ (m i : Nat), (2 ^ n) < i + m → i ≤ (2 ^ n) → ∀ (hp2 : Hp) (F : Int → Int) (p0 : hp2.2 P = some (pobj P a)) (p1 : hp2.2 (P + 1) = some (.inl (.int, 64, F))) (hF : ∀ s : Nat, s < 2 ^ n + i → F (s : Int) = bsm b (n + 1) s) (hS : SO hp hp2 (P + 1) (P + 2)), wp g MX4_addUpBalances (rm 3 0 0) Q 0 0 31 [some (.ref P), some (.ref h), some (.int (I (n : Int))), some (.int (I (b n))), some (.int (I ((2 ^ n : Nat) : Int))), some (.int (I (i : Int)))] [] hp2 := by
  intro m
  induction m with
  | zero => intro i h1 h2; exact absurd h1 (by omega)
  | succ m ih =>
    intro i h1 h2 hp2 F p0 p1 hF hS
    have hp6 := pow6 (k := n + 1) (by omega)
    have e2 : 2 ^ (n + 1) = 2 ^ n + 2 ^ n := by rw [Nat.pow_succ]; omega
    refine wp_iload (pc := 31) dX4_addUpBalances_31 rfl ?_
    refine wp_iload (pc := 33) dX4_addUpBalances_33 rfl ?_
    refine wp_icmp_ge (pc := 35) 63 dX4_addUpBalances_35 (by decide) (by omega) (by omega) (fun c35 => ?_) (fun c35 => ?_)
    ·
      have e : i = 2 ^ n := by omega
      refine wp_ls ?_ (K hp2 F p0 p1 (fun s hs => hF s (by omega)) hS)
      repeat' (first | exact LE_0 | refine LE_s rfl ?_ | refine LE_s (I_c (by first | omega | (simp only [sm]; omega))) ?_ | refine LE_s (J_c (by first | omega | exact Int.pow_succ _ _ | exact (Int.pow_succ _ _).symm | exact (Int.pow_zero _).symm | (simp only [sm]; omega))) ?_ | refine LE_n ?_)
    ·
      refine wp_aload_n (pc := 38) dX4_addUpBalances_38 rfl ?_
      refine wp_getf (pc := 39) dX4_addUpBalances_39 gf_X4_9 (by repeat (first | assumption | exact hset_eq | refine hset_at (by omega) ?_)) (by rfl) ?_
      refine wp_iload (pc := 42) dX4_addUpBalances_42 rfl ?_
      refine wp_iload (pc := 44) dX4_addUpBalances_44 rfl ?_
      refine wp_iadd (pc := 46) dX4_addUpBalances_46 ?_
      refine wp_aload_n (pc := 47) dX4_addUpBalances_47 rfl ?_
      refine wp_getf (pc := 48) dX4_addUpBalances_48 gf_X4_9 (by repeat (first | assumption | exact hset_eq | refine hset_at (by omega) ?_)) (by rfl) ?_
      refine wp_iload (pc := 51) dX4_addUpBalances_51 rfl ?_
      refine wp_iald (pc := 53) dX4_addUpBalances_53 p1 (by omega) (by omega) (by decide) ?_
      refine wp_topE (hF i (by omega)) ?_
      refine wp_iload_n (pc := 54) dX4_addUpBalances_54 rfl ?_
      refine wp_iadd (pc := 55) dX4_addUpBalances_55 ?_
      refine wp_iast (pc := 56) dX4_addUpBalances_56 p1 (by omega) (by omega) (by decide) ?_
      refine wp_iinc (pc := 57) dX4_addUpBalances_57 rfl (by decide) ?_
      refine wp_goto (pc := 60) 31 dX4_addUpBalances_60 (by decide) ?_
      refine wp_ls ?_ (ih (i + 1) (by omega) (by omega) _ (updI F (((2 ^ n : Nat) : Int) + (i : Int)) (bsm b (n + 1) i + b n)) (hset_at (by omega) p0) hset_eq (fun s hs => ?_) (hS.set (by omega) (by omega)))
      · repeat' (first | exact LE_0 | refine LE_s rfl ?_ | refine LE_s (I_c (by first | omega | (simp only [sm]; omega))) ?_ | refine LE_s (J_c (by first | omega | exact Int.pow_succ _ _ | exact (Int.pow_succ _ _).symm | exact (Int.pow_zero _).symm | (simp only [sm]; omega))) ?_ | refine LE_n ?_)
      · by_cases z : s = 2 ^ n + i
        · rw [show (s : Int) = ((2 ^ n : Nat) : Int) + (i : Int) by omega, updI_eq, z, bsm_hi (by omega), bsm_lo (by omega)]
        · rw [updI_ne (by omega)]; exact hF s (by omega)
theorem lp_addUp1 (hI : TI T N) (hd : h + 8 ≤ P ∨ P + 5 ≤ h) : ∀ (m i : Nat), N < i + m → i ≤ N → ∀ (hp2 : Hp) (F : Int → Int) (p0 : hp2.2 P = some (pobj P a)) (p1 : hp2.2 (P + 1) = some (.inl (.int, 64, F))) (hT : TownAt hp2 h T) (hF : ∀ s : Nat, s < 2 ^ i → F (s : Int) = bsm (fun j => bal T j N) i s) (hS : SO hp hp2 (P + 1) (P + 2)), wp g MX4_addUpBalances (rm 3 0 0) (Vod (fun hp2 => (∃ F, hp2.2 (P + 1) = some (.inl (.int, 64, F)) ∧ ∀ s : Nat, s < 2 ^ N → F (s : Int) = bsm (fun j => bal T j N) N s) ∧ SO hp hp2 (P + 1) (P + 2))) 0 0 9 [some (.ref P), some (.ref h), some (.int (I (i : Int))), none, none, none] [] hp2 := by
  intro m
  induction m with
  | zero => intro i h1 h2; exact absurd h1 (by omega)
  | succ m ih =>
    intro i h1 h2 hp2 F p0 p1 hT hF hS
    have hI' := hI
    obtain ⟨i8, iN, i0, i1, i2, i3, i4, i5, i6, i7⟩ := hI
    have hT' := hT
    obtain ⟨t0, t1, t2, t3, t4, t5, t6, t7⟩ := hT
    refine wp_iload_n (pc := 9) dX4_addUpBalances_9 rfl ?_
    refine wp_aload_n (pc := 10) dX4_addUpBalances_10 rfl ?_
    refine wp_getf (pc := 11) dX4_addUpBalances_11 gf_X4_36 (by repeat (first | assumption | exact hset_eq | refine hset_at (by omega) ?_)) (by rfl) ?_
    refine wp_icmp_ge (pc := 14) 69 dX4_addUpBalances_14 (by decide) (by omega) (by omega) (fun c14 => ?_) (fun c14 => ?_)
    ·
      have e : i = N := by omega
      subst e -- go
      exact wp_vr (pc := 69) dX4_addUpBalances_69 rfl (by decide) (by decide) ⟨⟨F, p1, hF⟩, hS⟩
    ·
      refine wp_aload_n (pc := 17) dX4_addUpBalances_17 rfl ?_
      refine wp_iload_n (pc := 18) dX4_addUpBalances_18 rfl ?_
      refine wp_Vp (pc := 19) dX4_addUpBalances_19 cl_X4_42 (sp_Town_balance (by first | assumption | omega) (by first | assumption | omega) (by first | assumption | omega) (by first | assumption | omega)) rfl rfl (by repeat (first | assumption | exact hset_eq | refine hset_at (by omega) ?_)) (by rfl) (by decide) (Nat.le_of_ble_eq_true rfl) ?_
      refine wp_istore_n (pc := 22) dX4_addUpBalances_22 (by decide) ?_
      refine wp_iconst (pc := 23) dX4_addUpBalances_23 ?_
      refine wp_iload_n (pc := 24) dX4_addUpBalances_24 rfl ?_
      refine wp_ishl (pc := 25) dX4_addUpBalances_25 (I_shl (by omega)) ?_
      refine wp_istore (pc := 26) dX4_addUpBalances_26 (by decide) ?_
      refine wp_iconst (pc := 28) dX4_addUpBalances_28 ?_
      refine wp_istore (pc := 29) dX4_addUpBalances_29 (by decide) ?_
      refine wp_ls ?_ (lp_addUp2 (hp := hp) (n := i) (a := a) (h := h) (b := fun j => bal T j N) (by omega) (fun hp3 F3 q0 q1 hF3 hS3 => ?_) (2 ^ i + 1) 0 (by rw [Nat.zero_add]; exact Nat.lt_succ_self _) (Nat.zero_le _) hp2 F p0 p1 (fun s hs => by rw [bsm_lo (by omega)]; exact hF s (by omega)) hS)
      · repeat' (first | exact LE_0 | refine LE_s rfl ?_ | refine LE_s (I_c (by first | omega | (simp only [sm]; omega))) ?_ | refine LE_s (J_c (by first | omega | exact Int.pow_succ _ _ | exact (Int.pow_succ _ _).symm | exact (Int.pow_zero _).symm | (simp only [sm]; omega))) ?_ | refine LE_n ?_)
      · refine wp_iinc (pc := 63) dX4_addUpBalances_63 rfl (by decide) ?_
        refine wp_goto (pc := 66) 9 dX4_addUpBalances_66 (by decide) ?_
        refine wp_ls ?_ (ih (i + 1) (by omega) (by omega) hp3 F3 q0 q1 (TownAt.off hT' fun x z1 z2 => (hS3.2 x (by omega)).trans (hS.2 x (by omega)).symm) hF3 hS3)
        repeat' (first | exact LE_0 | refine LE_s rfl ?_ | refine LE_s (I_c (by first | omega | (simp only [sm]; omega))) ?_ | refine LE_s (J_c (by first | omega | exact Int.pow_succ _ _ | exact (Int.pow_succ _ _).symm | exact (Int.pow_zero _).symm | (simp only [sm]; omega))) ?_ | refine LE_n ?_)
theorem sp_Partings_addUpBalances (hI : TI T N) (hd : h + 8 ≤ P ∨ P + 5 ≤ h) (p0 : hp.2 P = some (pobj P a)) (p1 : hp.2 (P + 1) = some (.inl (.int, 64, F))) (hT : TownAt hp h T) : Sp g MX4_addUpBalances (rm 3 0 0) [.ref P, .ref h] hp (Vod (fun hp2 => (∃ F, hp2.2 (P + 1) = some (.inl (.int, 64, F)) ∧ ∀ s : Nat, s < 2 ^ N → F (s : Int) = bsm (fun j => bal T j N) N s) ∧ SO hp hp2 (P + 1) (P + 2))) := by
  refine Sp_mk rfl (Nat.le_of_ble_eq_true rfl) ?_
  show wp g _ _ _ 0 0 0 [some (.ref P), some (.ref h), none, none, none, none] [] hp
  refine wp_aload_n (pc := 0) dX4_addUpBalances_0 rfl ?_
  refine wp_getf (pc := 1) dX4_addUpBalances_1 gf_X4_9 (by repeat (first | assumption | exact hset_eq | refine hset_at (by omega) ?_)) (by rfl) ?_
  refine wp_iconst (pc := 4) dX4_addUpBalances_4 ?_
  refine wp_iconst (pc := 5) dX4_addUpBalances_5 ?_
  refine wp_iast (pc := 6) dX4_addUpBalances_6 (by repeat (first | assumption | exact hset_eq | refine hset_at (by omega) ?_)) (by omega) (by omega) (by decide) ?_
  refine wp_iconst (pc := 7) dX4_addUpBalances_7 ?_
  refine wp_istore_n (pc := 8) dX4_addUpBalances_8 (by decide) ?_
  refine wp_ls ?_ (lp_addUp1 (a := a) hI hd (N + 1) 0 (by omega) (by omega) _ (updI F 0 0) (hset_at (by omega) p0) hset_eq (hT.off fun x z1 z2 => hset_ne (by omega)) (fun s hs => ?_) (SO.rf.set (by omega) (by omega)))
  · repeat' (first | exact LE_0 | refine LE_s rfl ?_ | refine LE_s (I_c (by first | omega | (simp only [sm]; omega))) ?_ | refine LE_s (J_c (by first | omega | exact Int.pow_succ _ _ | exact (Int.pow_succ _ _).symm | exact (Int.pow_zero _).symm | (simp only [sm]; omega))) ?_ | refine LE_n ?_)
  · have e : s = 0 := by simpa using hs
    subst e
    rfl
/-- the most groups of s with its first one, of the parts below k -/
def gcd1 (B : Int → Int) (s q : Nat) : Prop := andn q s = 0 ∧ ¬ q &&& low s = 0 ∧ B (q : Int) = 0
def gac (B G : Int → Int) (s : Nat) : Nat → Int
  | 0 => 0
  | q + 1 => if andn q s = 0 ∧ ¬ q &&& low s = 0 ∧ B (q : Int) = 0 then mx (gac B G s q) (1 + G ((andn s q : Nat) : Int)) else gac B G s q
theorem gac_in {B G : Int → Int} (hG : ∀ i, 0 ≤ G i ∧ G i ≤ 100) (s : Nat) : ∀ q, 0 ≤ gac B G s q ∧ gac B G s q ≤ 101
  | 0 => by unfold gac; omega
  | q + 1 => by
    have h1 := gac_in hG (B := B) s q
    have h2 := hG ((andn s q : Nat) : Int)
    unfold gac mx
    split
    · split <;> omega
    · exact h1
theorem gac_0 {B G : Int → Int} {s : Nat} (h0 : 0 < s) (hs : s < 64) : ∀ q, q ≤ low s → gac B G s q = 0
  | 0, _ => rfl
  | q + 1, h => by
    unfold gac
    rw [if_neg (fun z => low_min h0 hs (b := q) (by omega) ⟨z.1, z.2.1⟩)]
    exact gac_0 h0 hs q (by omega)
theorem jn_gof {Q : Option Value → Hp → Prop} {q : Prop} [Decidable q] {z : Int} (hk : k < 64) (hs : s < 64) (rz : 0 ≤ z ∧ z ≤ 101) (p0 : hp.2 P = some (pobj P a)) (p2 : hp.2 (P + 2) = some (.inl (.int, 64, Gc))) (hG : ∀ i, 0 ≤ Gc i ∧ Gc i ≤ 100) (K : wp g MX4_groupsOf (rm 1 0 0) Q 0 0 10 [some (.ref P), some (.int (I (s : Int))), some (.int (I (if q then mx z (1 + Gc ((andn s k : Nat) : Int)) else z))), some (.int (I x)), some (.int (I ((k + 1 : Nat) : Int))), none] [] hp) : wp g MX4_groupsOf (rm 1 0 0) Q 0 0 47 [some (.ref P), some (.int (I (s : Int))), some (.int (I z)), some (.int (I x)), some (.int (I (k : Int))), none] [.int (B q)] hp := by
  have ha := andn_le (b := k) hs
  have hg := hG ((andn s k : Nat) : Int)
  refine wp_istore (pc := 47) dX4_groupsOf_47 (by decide) ?_
  refine wp_iload (pc := 49) dX4_groupsOf_49 rfl ?_
  first | refine wp_ifb_eq (pc := 51) 72 dX4_groupsOf_51 (by decide) (fun c51 => ?_) (fun c51 => ?_) | refine wp_if_eq (pc := 51) 72 dX4_groupsOf_51 (by decide) (by omega) (fun c51 => ?_) (fun c51 => ?_)
  ·
    rw [if_neg c51] at K -- go
    refine wp_iinc (pc := 72) dX4_groupsOf_72 rfl (by decide) ?_
    refine wp_goto (pc := 75) 10 dX4_groupsOf_75 (by decide) ?_
    refine wp_ls ?_ K
    repeat' (first | exact LE_0 | refine LE_s rfl ?_ | refine LE_s (I_c (by first | omega | (simp only [sm]; omega))) ?_ | refine LE_s (J_c (by first | omega | exact Int.pow_succ _ _ | exact (Int.pow_succ _ _).symm | exact (Int.pow_zero _).symm | (simp only [sm]; omega))) ?_ | refine LE_n ?_)
  ·
    rw [if_pos c51] at K -- go
    refine wp_iload_n (pc := 54) dX4_groupsOf_54 rfl ?_
    refine wp_iconst (pc := 55) dX4_groupsOf_55 ?_
    refine wp_aload_n (pc := 56) dX4_groupsOf_56 rfl ?_
    refine wp_getf (pc := 57) dX4_groupsOf_57 gf_X4_15 (by repeat (first | assumption | exact hset_eq | refine hset_at (by omega) ?_)) (by rfl) ?_
    refine wp_iload_n (pc := 60) dX4_groupsOf_60 rfl ?_
    refine wp_iload (pc := 61) dX4_groupsOf_61 rfl ?_
    refine wp_iconst (pc := 63) dX4_groupsOf_63 ?_
    refine wp_ixor (pc := 64) dX4_groupsOf_64 rfl ?_
    refine wp_iand (pc := 65) dX4_groupsOf_65 (I_andn hs hk) ?_
    refine wp_iald (pc := 66) dX4_groupsOf_66 p2 (by omega) (by omega) (by decide) ?_
    refine wp_iadd (pc := 67) dX4_groupsOf_67 ?_
    refine wp_max (pc := 68) dX4_groupsOf_68 ml_X4_50 ma_max_s ma_ini ma_max_c (by decide) (by decide) (by decide) (by decide) (Nat.le_of_ble_eq_true rfl) (by omega) (by omega) ?_
    refine wp_istore_n (pc := 71) dX4_groupsOf_71 (by decide) ?_
    refine wp_iinc (pc := 72) dX4_groupsOf_72 rfl (by decide) ?_
    refine wp_goto (pc := 75) 10 dX4_groupsOf_75 (by decide) ?_
    refine wp_ls ?_ K
    repeat' (first | exact LE_0 | refine LE_s rfl ?_ | refine LE_s (I_c (by first | omega | (simp only [sm]; omega))) ?_ | refine LE_s (J_c (by first | omega | exact Int.pow_succ _ _ | exact (Int.pow_succ _ _).symm | exact (Int.pow_zero _).symm | (simp only [sm]; omega))) ?_ | refine LE_n ?_)
theorem lp_gof (h0 : 0 < s) (hs : s < 64) (p0 : hp.2 P = some (pobj P a)) (p1 : hp.2 (P + 1) = some (.inl (.int, 64, Bc))) (rB : ∀ i : Nat, i < 64 → InR (Bc i)) (p2 : hp.2 (P + 2) = some (.inl (.int, 64, Gc))) (hG : ∀ i, 0 ≤ Gc i ∧ Gc i ≤ 100) : ∀ (m i : Nat), (s + 1) < i + m → i ≤ (s + 1) → wp g MX4_groupsOf (rm 1 0 0) (Pur (.int (I (gac Bc Gc s (s + 1)))) hp) 0 0 10 [some (.ref P), some (.int (I (s : Int))), some (.int (I (gac Bc Gc s i))), some (.int (I ((low s : Nat) : Int))), some (.int (I (i : Int))), none] [] hp := by
  intro m
  induction m with
  | zero => intro i h1 h2; exact absurd h1 (by omega)
  | succ m ih =>
    intro i h1 h2
    have hga := gac_in (B := Bc) hG s i
    refine wp_iload (pc := 10) dX4_groupsOf_10 rfl ?_
    refine wp_iload_n (pc := 12) dX4_groupsOf_12 rfl ?_
    refine wp_icmp_gt (pc := 13) 78 dX4_groupsOf_13 (by decide) (by omega) (by omega) (fun c13 => ?_) (fun c13 => ?_)
    ·
      have e : i = s + 1 := by omega
      subst e -- go
      refine wp_iload_n (pc := 78) dX4_groupsOf_78 rfl ?_
      exact wp_ir (pc := 79) dX4_groupsOf_79 rfl (by decide) (by decide) (by first | rfl | omega) rfl
    ·
      have rBi := rB i (by omega)
      skip -- go
      refine wp_iload (pc := 16) dX4_groupsOf_16 rfl ?_
      refine wp_iload_n (pc := 18) dX4_groupsOf_18 rfl ?_
      refine wp_iconst (pc := 19) dX4_groupsOf_19 ?_
      refine wp_ixor (pc := 20) dX4_groupsOf_20 rfl ?_
      refine wp_iand (pc := 21) dX4_groupsOf_21 (I_andn (by omega) hs) ?_
      first | refine wp_ifb_ne (pc := 22) 46 dX4_groupsOf_22 (by decide) (fun c22 => ?_) (fun c22 => ?_) | refine wp_if_ne (pc := 22) 46 dX4_groupsOf_22 (by decide) (by have := andn_le (a := i) (b := s) (by omega); omega) (fun c22 => ?_) (fun c22 => ?_)
      ·
        refine wp_iconst (pc := 46) dX4_groupsOf_46 ?_
        refine wp_topB (q := andn i s = 0 ∧ ¬ i &&& low s = 0 ∧ Bc (i : Int) = 0) (by first | rw [if_pos (by omega)] | rw [if_neg (by omega)]) ?_
        refine wp_ls ?_ (jn_gof (k := i) (z := gac Bc Gc s i) (by omega) hs hga p0 p2 hG (ih (i + 1) (by omega) (by omega)))
        repeat' (first | exact LE_0 | refine LE_s rfl ?_ | refine LE_s (I_c (by first | omega | (simp only [sm]; omega))) ?_ | refine LE_s (J_c (by first | omega | exact Int.pow_succ _ _ | exact (Int.pow_succ _ _).symm | exact (Int.pow_zero _).symm | (simp only [sm]; omega))) ?_ | refine LE_n ?_)
      ·
        refine wp_iload (pc := 25) dX4_groupsOf_25 rfl ?_
        refine wp_iload_n (pc := 27) dX4_groupsOf_27 rfl ?_
        refine wp_iand (pc := 28) dX4_groupsOf_28 I_and ?_
        first | refine wp_ifb_eq (pc := 29) 46 dX4_groupsOf_29 (by decide) (fun c29 => ?_) (fun c29 => ?_) | refine wp_if_eq (pc := 29) 46 dX4_groupsOf_29 (by decide) (by have := Nat.and_le_left (n := i) (m := low s); omega) (fun c29 => ?_) (fun c29 => ?_)
        ·
          refine wp_iconst (pc := 46) dX4_groupsOf_46 ?_
          refine wp_topB (q := andn i s = 0 ∧ ¬ i &&& low s = 0 ∧ Bc (i : Int) = 0) (by first | rw [if_pos (by omega)] | rw [if_neg (by omega)]) ?_
          refine wp_ls ?_ (jn_gof (k := i) (z := gac Bc Gc s i) (by omega) hs hga p0 p2 hG (ih (i + 1) (by omega) (by omega)))
          repeat' (first | exact LE_0 | refine LE_s rfl ?_ | refine LE_s (I_c (by first | omega | (simp only [sm]; omega))) ?_ | refine LE_s (J_c (by first | omega | exact Int.pow_succ _ _ | exact (Int.pow_succ _ _).symm | exact (Int.pow_zero _).symm | (simp only [sm]; omega))) ?_ | refine LE_n ?_)
        ·
          refine wp_aload_n (pc := 32) dX4_groupsOf_32 rfl ?_
          refine wp_getf (pc := 33) dX4_groupsOf_33 gf_X4_9 (by repeat (first | assumption | exact hset_eq | refine hset_at (by omega) ?_)) (by rfl) ?_
          refine wp_iload (pc := 36) dX4_groupsOf_36 rfl ?_
          refine wp_iald (pc := 38) dX4_groupsOf_38 p1 (by omega) (by omega) (by decide) ?_
          first | refine wp_ifb_ne (pc := 39) 46 dX4_groupsOf_39 (by decide) (fun c39 => ?_) (fun c39 => ?_) | refine wp_if_ne (pc := 39) 46 dX4_groupsOf_39 (by decide) (by omega) (fun c39 => ?_) (fun c39 => ?_)
          ·
            refine wp_iconst (pc := 46) dX4_groupsOf_46 ?_
            refine wp_topB (q := andn i s = 0 ∧ ¬ i &&& low s = 0 ∧ Bc (i : Int) = 0) (by first | rw [if_pos (by omega)] | rw [if_neg (by omega)]) ?_
            refine wp_ls ?_ (jn_gof (k := i) (z := gac Bc Gc s i) (by omega) hs hga p0 p2 hG (ih (i + 1) (by omega) (by omega)))
            repeat' (first | exact LE_0 | refine LE_s rfl ?_ | refine LE_s (I_c (by first | omega | (simp only [sm]; omega))) ?_ | refine LE_s (J_c (by first | omega | exact Int.pow_succ _ _ | exact (Int.pow_succ _ _).symm | exact (Int.pow_zero _).symm | (simp only [sm]; omega))) ?_ | refine LE_n ?_)
          ·
            refine wp_iconst (pc := 42) dX4_groupsOf_42 ?_
            refine wp_goto (pc := 43) 47 dX4_groupsOf_43 (by decide) ?_
            refine wp_topB (q := andn i s = 0 ∧ ¬ i &&& low s = 0 ∧ Bc (i : Int) = 0) (by first | rw [if_pos (by omega)] | rw [if_neg (by omega)]) ?_
            refine wp_ls ?_ (jn_gof (k := i) (z := gac Bc Gc s i) (by omega) hs hga p0 p2 hG (ih (i + 1) (by omega) (by omega)))
            repeat' (first | exact LE_0 | refine LE_s rfl ?_ | refine LE_s (I_c (by first | omega | (simp only [sm]; omega))) ?_ | refine LE_s (J_c (by first | omega | exact Int.pow_succ _ _ | exact (Int.pow_succ _ _).symm | exact (Int.pow_zero _).symm | (simp only [sm]; omega))) ?_ | refine LE_n ?_)
theorem sp_Partings_groupsOf (h0 : 0 < s) (hs : s < 64) (p0 : hp.2 P = some (pobj P a)) (p1 : hp.2 (P + 1) = some (.inl (.int, 64, Bc))) (rB : ∀ i : Nat, i < 64 → InR (Bc i)) (p2 : hp.2 (P + 2) = some (.inl (.int, 64, Gc))) (hG : ∀ i, 0 ≤ Gc i ∧ Gc i ≤ 100) : Sp g MX4_groupsOf (rm 1 0 0) [.ref P, .int (I (s : Int))] hp (Pur (.int (I (gac Bc Gc s (s + 1)))) hp) := by
  have hl := low_le (a := s)
  refine Sp_mk rfl (Nat.le_of_ble_eq_true rfl) ?_
  show wp g _ _ _ 0 0 0 [some (.ref P), some (.int (I (s : Int))), none, none, none, none] [] hp
  refine wp_iconst (pc := 0) dX4_groupsOf_0 ?_
  refine wp_istore_n (pc := 1) dX4_groupsOf_1 (by decide) ?_
  refine wp_iload_n (pc := 2) dX4_groupsOf_2 rfl ?_
  refine wp_iload_n (pc := 3) dX4_groupsOf_3 rfl ?_
  refine wp_ineg (pc := 4) dX4_groupsOf_4 ?_
  refine wp_iand (pc := 5) dX4_groupsOf_5 (I_low h0 hs) ?_
  refine wp_istore_n (pc := 6) dX4_groupsOf_6 (by decide) ?_
  refine wp_iload_n (pc := 7) dX4_groupsOf_7 rfl ?_
  refine wp_istore (pc := 8) dX4_groupsOf_8 (by decide) ?_
  refine wp_ls ?_ (lp_gof h0 hs p0 p1 rB p2 hG (s + 2) (low s) (by omega) (by omega))
  rw [gac_0 h0 hs _ (Nat.le_refl _)]
  repeat' (first | exact LE_0 | refine LE_s rfl ?_ | refine LE_s (I_c (by first | omega | (simp only [sm]; omega))) ?_ | refine LE_s (J_c (by first | omega | exact Int.pow_succ _ _ | exact (Int.pow_succ _ _).symm | exact (Int.pow_zero _).symm | (simp only [sm]; omega))) ?_ | refine LE_n ?_)
end PG

