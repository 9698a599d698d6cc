/-! Partings: groups -/
section PG
variable {g : GT} {hp hp2 : Hp} {P r t N h n k s : Nat} {Bc Gc Dc Nc F : Int → Int} {T : Nat → Int → Int} {a b c d o v x y p : Int} {l : List Int}
abbrev pobj (P : Nat) (n : Int) : AC := .inr (.inr (4, [.ref (P + 1), .ref (P + 2), .ref (P + 3), .int (I n), .ref (P + 4)]))
def PartAt (hp : Hp) (P : Nat) : Prop := (∃ n : Int, hp.2 P = some (pobj P n)) ∧ (∃ F, hp.2 (P + 1) = some (.inl (.int, 64, F))) ∧ (∃ F, hp.2 (P + 2) = some (.inl (.int, 64, F)) ∧ ∀ i, 0 ≤ F i ∧ F i ≤ 100) ∧ (∃ F, hp.2 (P + 3) = some (.inl (.int, 6, F)) ∧ ∀ i, 0 ≤ F i ∧ F i ≤ 9) ∧ ∃ F, hp.2 (P + 4) = some (.inl (.int, 448, F)) ∧ ∀ i, 0 ≤ F i ∧ F i ≤ 7
theorem PartAt.off (hP : PartAt hp P) (hS : ∀ x, P ≤ x → x < P + 5 → hp2.2 x = hp.2 x) : PartAt hp2 P := by
  obtain ⟨⟨n, p0⟩, ⟨B, p1⟩, ⟨G, p2, r2⟩, ⟨D, p3, r3⟩, ⟨M, p4, r4⟩⟩ := hP
  exact ⟨⟨n, (hS _ (by omega) (by omega)).trans p0⟩, ⟨B, (hS _ (by omega) (by omega)).trans p1⟩, ⟨G, (hS _ (by omega) (by omega)).trans p2, r2⟩, ⟨D, (hS _ (by omega) (by omega)).trans p3, r3⟩, ⟨M, (hS _ (by omega) (by omega)).trans p4, r4⟩⟩
theorem PartAt.fr (hP : PartAt hp P) {lo hi : Nat} (hS : SO hp hp2 lo hi) (hd : hi ≤ P ∨ P + 5 ≤ lo) : PartAt hp2 P := hP.off fun x _ _ => hS.2 x (by omega)
def andn (a b : Nat) : Nat := a &&& (63 ^^^ b)
def low (a : Nat) : Nat := a &&& (64 - a)
theorem I_andn {a b : Nat} (ha : a < 64) (hb : b < 64) : I (a : Int) &&& (I (b : Int) ^^^ I (-1)) = I ((andn a b : Nat) : Int) := by
  have h : ∀ a b : Fin 64, I ((a : Nat) : Int) &&& (I ((b : Nat) : Int) ^^^ I (-1)) = I ((andn (a : Nat) (b : Nat) : Nat) : Int) := by decide +kernel
  exact h ⟨a, ha⟩ ⟨b, hb⟩
theorem I_low {a : Nat} (h0 : 0 < a) (ha : a < 64) : I (a : Int) &&& I (-(a : Int)) = I ((low a : Nat) : Int) := by
  have h : ∀ a : Fin 64, 0 < (a : Nat) → I ((a : Nat) : Int) &&& I (-((a : Nat) : Int)) = I ((low (a : Nat) : Nat) : Int) := by decide +kernel
  exact h ⟨a, ha⟩ h0
theorem andn_le {a b : Nat} (ha : a < 64) : andn a b ≤ a := Nat.and_le_left
theorem low_le {a : Nat} : low a ≤ a := Nat.and_le_left
theorem low_pos {a : Nat} (h0 : 0 < a) (ha : a < 64) : 0 < low a := by
  have h : ∀ a : Fin 64, 0 < (a : Nat) → 0 < low (a : Nat) := by decide +kernel
  exact h ⟨a, ha⟩ h0
theorem low_min {a b : Nat} (h0 : 0 < a) (ha : a < 64) (hb : b < low a) : ¬ (andn b a = 0 ∧ ¬ b &&& low a = 0) := by
  have h : ∀ a : Fin 64, ∀ b : Fin 64, 0 < (a : Nat) → (b : Nat) < low (a : Nat) → ¬ (andn (b : Nat) (a : Nat) = 0 ∧ ¬ (b : Nat) &&& low (a : Nat) = 0) := by decide +kernel
  exact h ⟨a, ha⟩ ⟨b, Nat.lt_of_lt_of_le hb (Nat.le_trans low_le (Nat.le_of_lt ha))⟩ h0 hb
theorem pow6 {k : Nat} (h : k ≤ 6) : 1 ≤ 2 ^ k ∧ 2 ^ k ≤ 64 := ⟨Nat.one_le_two_pow, Nat.pow_le_pow_right (by decide) h⟩
theorem sp_Partings_allOf (hT : TownAt hp h T) (hI : TI T N) : Sp g MX4_allOf (rm 1 0 0) [.ref h] hp (Pur (.int (I ((2 ^ N - 1 : Nat) : Int))) hp) := by
  obtain ⟨i8, iN, i0, i1, i2, i3, i4, i5, i6, i7⟩ := hI
  obtain ⟨t0, t1, t2, t3, t4, t5, t6, t7⟩ := hT
  have hp6 := pow6 iN
  refine Sp_mk rfl (Nat.le_of_ble_eq_true rfl) ?_
  show wp g _ _ _ 0 0 0 [some (.ref h)] [] hp
  refine wp_bipush (pc := 0) (y := 64) dX4_allOf_0 (by decide) ?_
  refine wp_iconst (pc := 2) dX4_allOf_2 ?_
  refine wp_aload_n (pc := 3) dX4_allOf_3 rfl ?_
  refine wp_getf (pc := 4) dX4_allOf_4 gf_X4_36 (by repeat (first | assumption | exact hset_eq | refine hset_at (by omega) ?_)) (by rfl) ?_
  refine wp_topE i8 ?_
  refine wp_ishl (pc := 7) dX4_allOf_7 (I_shl (by omega)) ?_
  refine wp_min (pc := 8) dX4_allOf_8 ml_X4_44 ma_min_s ma_ini ma_min_c (by decide) (by decide) (by decide) (by decide) (Nat.le_of_ble_eq_true rfl) (by omega) (by omega) ?_
  refine wp_iconst (pc := 11) dX4_allOf_11 ?_
  refine wp_isub (pc := 12) dX4_allOf_12 ?_
  exact wp_ir (pc := 13) dX4_allOf_13 rfl (by decide) (by decide) (by unfold mi; split <;> omega) rfl
/-- what is owed to a set less what it owes -/
def bsm (b : Nat → Int) (n s : Nat) : Int := sm (fun i => if s.testBit i.toNat then b i.toNat else 0) n
theorem bsm_lo {b : Nat → Int} {i s : Nat} (hs : s < 2 ^ i) : bsm b (i + 1) s = bsm b i s := by
  show sm _ i + (if _ then _ else _) = _
  rw [if_neg (by rw [Int.toNat_natCast, Nat.testBit_lt_two_pow hs]; decide), Int.add_zero]
  rfl
theorem bsm_hi {b : Nat → Int} {i s : Nat} (hs : s < 2 ^ i) : bsm b (i + 1) (2 ^ i + s) = bsm b i s + b i := by
  show sm _ i + (if _ then _ else _) = _
  rw [if_pos (by rw [Int.toNat_natCast, Nat.testBit_two_pow_add_eq, Nat.testBit_lt_two_pow hs]; rfl), Int.toNat_natCast]
  congr 1
  exact sm_congr fun j hj => by rw [Int.toNat_natCast, Nat.testBit_two_pow_add_gt hj]
theorem lp_addUp2 (hi0 : n < 6) {b : Nat → Int} {Q : Option Value → Hp → Prop} (K : ∀ hp2 F, hp2.2 P = some (pobj P a) → hp2.2 (P + 1) = some (.inl (.int, 64, F)) → (∀ s : Nat, s < 2 ^ (n + 1) → F (s : Int) = bsm b (n + 1) s) → SO hp hp2 (P + 1) (P + 2) → wp g MX4_addUpBalances (rm 3 0 0) Q 0 0 63 [some (.ref P), some (.ref h), some (.int (I (n : Int))), none, none, none] [] hp2) : ∀ (m i : Nat), (2 ^ n) < i + m → i ≤ (2 ^ n) → ∀ (hp2 : Hp) (F : Int → Int) (p0 : hp2.2 P = some (pobj P a)) (p1 : hp2.2 (P + 1) = some (.inl (.int, 64, F))) (hF : ∀ s : Nat, s < 2 ^ n + i → F (s : Int) = bsm b (n + 1) s) (hS : SO hp hp2 (P + 1) (P + 2)), wp g MX4_addUpBalances (rm 3 0 0) Q 0 0 31 [some (.ref P), some (.ref h), some (.int (I (n : Int))), some (.int (I (b n))), some (.int (I ((2 ^ n : Nat) : Int))), some (.int (I (i : Int)))] [] hp2 := by
  intro m
  induction m with
  | zero => intro i h1 h2; exact absurd h1 (by omega)
  | succ m ih =>
    intro i h1 h2 hp2 F p0 p1 hF hS
    have hp6 := pow6 (k := n + 1) (by omega)
    have e2 : 2 ^ (n + 1) = 2 ^ n + 2 ^ n := by rw [Nat.pow_succ]; omega
    refine wp_iload (pc := 31) dX4_addUpBalances_31 rfl ?_
    refine wp_iload (pc := 33) dX4_addUpBalances_33 rfl ?_
    refine wp_icmp_ge (pc := 35) 63 dX4_addUpBalances_35 (by decide) (by omega) (by omega) (fun c35 => ?_) (fun c35 => ?_)
    ·
      have e : i = 2 ^ n := by omega
      refine wp_ls ?_ (K hp2 F p0 p1 (fun s hs => hF s (by omega)) hS)
      repeat' (first | exact LE_0 | refine LE_s rfl ?_ | refine LE_s (I_c (by first | omega | (simp only [sm]; omega))) ?_ | refine LE_s (J_c (by first | omega | exact Int.pow_succ _ _ | exact (Int.pow_succ _ _).symm | exact (Int.pow_zero _).symm | (simp only [sm]; omega))) ?_ | refine LE_n ?_)
    ·
      refine wp_aload_n (pc := 38) dX4_addUpBalances_38 rfl ?_
      refine wp_getf (pc := 39) dX4_addUpBalances_39 gf_X4_9 (by repeat (first | assumption | exact hset_eq | refine hset_at (by omega) ?_)) (by rfl) ?_
      refine wp_iload (pc := 42) dX4_addUpBalances_42 rfl ?_
      refine wp_iload (pc := 44) dX4_addUpBalances_44 rfl ?_
      refine wp_iadd (pc := 46) dX4_addUpBalances_46 ?_
      refine wp_aload_n (pc := 47) dX4_addUpBalances_47 rfl ?_
      refine wp_getf (pc := 48) dX4_addUpBalances_48 gf_X4_9 (by repeat (first | assumption | exact hset_eq | refine hset_at (by omega) ?_)) (by rfl) ?_
      refine wp_iload (pc := 51) dX4_addUpBalances_51 rfl ?_
      refine wp_iald (pc := 53) dX4_addUpBalances_53 p1 (by omega) (by omega) (by decide) ?_
      refine wp_topE (hF i (by omega)) ?_
      refine wp_iload_n (pc := 54) dX4_addUpBalances_54 rfl ?_
      refine wp_iadd (pc := 55) dX4_addUpBalances_55 ?_
      refine wp_iast (pc := 56) dX4_addUpBalances_56 p1 (by omega) (by omega) (by decide) ?_
      refine wp_iinc (pc := 57) dX4_addUpBalances_57 rfl (by decide) ?_
      refine wp_goto (pc := 60) 31 dX4_addUpBalances_60 (by decide) ?_
      refine wp_ls ?_ (ih (i + 1) (by omega) (by omega) _ (updI F (((2 ^ n : Nat) : Int) + (i : Int)) (bsm b (n + 1) i + b n)) (hset_at (by omega) p0) hset_eq (fun s hs => ?_) (hS.set (by omega) (by omega)))
      · repeat' (first | exact LE_0 | refine LE_s rfl ?_ | refine LE_s (I_c (by first | omega | (simp only [sm]; omega))) ?_ | refine LE_s (J_c (by first | omega | exact Int.pow_succ _ _ | exact (Int.pow_succ _ _).symm | exact (Int.pow_zero _).symm | (simp only [sm]; omega))) ?_ | refine LE_n ?_)
      · by_cases z : s = 2 ^ n + i
        · rw [show (s : Int) = ((2 ^ n : Nat) : Int) + (i : Int) by omega, updI_eq, z, bsm_hi (by omega), bsm_lo (by omega)]
        · rw [updI_ne (by omega)]; exact hF s (by omega)
theorem lp_addUp1 (hI : TI T N) (hd : h + 8 ≤ P ∨ P + 5 ≤ h) : ∀ (m i : Nat), N < i + m → i ≤ N → ∀ (hp2 : Hp) (F : Int → Int) (p0 : hp2.2 P = some (pobj P a)) (p1 : hp2.2 (P + 1) = some (.inl (.int, 64, F))) (hT : TownAt hp2 h T) (hF : ∀ s : Nat, s < 2 ^ i → F (s : Int) = bsm (fun j => bal T j N) i s) (hS : SO hp hp2 (P + 1) (P + 2)), wp g MX4_addUpBalances (rm 3 0 0) (Vod (fun hp2 => (∃ F, hp2.2 (P + 1) = some (.inl (.int, 64, F)) ∧ ∀ s : Nat, s < 2 ^ N → F (s : Int) = bsm (fun j => bal T j N) N s) ∧ SO hp hp2 (P + 1) (P + 2))) 0 0 9 [some (.ref P), some (.ref h), some (.int (I (i : Int))), none, none, none] [] hp2 := by
  intro m
  induction m with
  | zero => intro i h1 h2; exact absurd h1 (by omega)
  | succ m ih =>
    intro i h1 h2 hp2 F p0 p1 hT hF hS
    have hI' := hI
    obtain ⟨i8, iN, i0, i1, i2, i3, i4, i5, i6, i7⟩ := hI
    have hT' := hT
    obtain ⟨t0, t1, t2, t3, t4, t5, t6, t7⟩ := hT
    refine wp_iload_n (pc := 9) dX4_addUpBalances_9 rfl ?_
    refine wp_aload_n (pc := 10) dX4_addUpBalances_10 rfl ?_
    refine wp_getf (pc := 11) dX4_addUpBalances_11 gf_X4_36 (by repeat (first | assumption | exact hset_eq | refine hset_at (by omega) ?_)) (by rfl) ?_
    refine wp_icmp_ge (pc := 14) 69 dX4_addUpBalances_14 (by decide) (by omega) (by omega) (fun c14 => ?_) (fun c14 => ?_)
    ·
      have e : i = N := by omega
      subst e -- go
      exact wp_vr (pc := 69) dX4_addUpBalances_69 rfl (by decide) (by decide) ⟨⟨F, p1, hF⟩, hS⟩
    ·
      refine wp_aload_n (pc := 17) dX4_addUpBalances_17 rfl ?_
      refine wp_iload_n (pc := 18) dX4_addUpBalances_18 rfl ?_
      refine wp_Vp (pc := 19) dX4_addUpBalances_19 cl_X4_42 (sp_Town_balance (by first | assumption | omega) (by first | assumption | omega) (by first | assumption | omega) (by first | assumption | omega)) rfl rfl (by repeat (first | assumption | exact hset_eq | refine hset_at (by omega) ?_)) (by rfl) (by decide) (Nat.le_of_ble_eq_true rfl) ?_
      refine wp_istore_n (pc := 22) dX4_addUpBalances_22 (by decide) ?_
      refine wp_iconst (pc := 23) dX4_addUpBalances_23 ?_
      refine wp_iload_n (pc := 24) dX4_addUpBalances_24 rfl ?_
      refine wp_ishl (pc := 25) dX4_addUpBalances_25 (I_shl (by omega)) ?_
      refine wp_istore (pc := 26) dX4_addUpBalances_26 (by decide) ?_
      refine wp_iconst (pc := 28) dX4_addUpBalances_28 ?_
      refine wp_istore (pc := 29) dX4_addUpBalances_29 (by decide) ?_
      refine wp_ls ?_ (lp_addUp2 (hp := hp) (n := i) (a := a) (h := h) (b := fun j => bal T j N) (by omega) (fun hp3 F3 q0 q1 hF3 hS3 => ?_) (2 ^ i + 1) 0 (by rw [Nat.zero_add]; exact Nat.lt_succ_self _) (Nat.zero_le _) hp2 F p0 p1 (fun s hs => by rw [bsm_lo (by omega)]; exact hF s (by omega)) hS)
      · repeat' (first | exact LE_0 | refine LE_s rfl ?_ | refine LE_s (I_c (by first | omega | (simp only [sm]; omega))) ?_ | refine LE_s (J_c (by first | omega | exact Int.pow_succ _ _ | exact (Int.pow_succ _ _).symm | exact (Int.pow_zero _).symm | (simp only [sm]; omega))) ?_ | refine LE_n ?_)
      · refine wp_iinc (pc := 63) dX4_addUpBalances_63 rfl (by decide) ?_
        refine wp_goto (pc := 66) 9 dX4_addUpBalances_66 (by decide) ?_
        refine wp_ls ?_ (ih (i + 1) (by omega) (by omega) hp3 F3 q0 q1 (TownAt.off hT' fun x z1 z2 => (hS3.2 x (by omega)).trans (hS.2 x (by omega)).symm) hF3 hS3)
        repeat' (first | exact LE_0 | refine LE_s rfl ?_ | refine LE_s (I_c (by first | omega | (simp only [sm]; omega))) ?_ | refine LE_s (J_c (by first | omega | exact Int.pow_succ _ _ | exact (Int.pow_succ _ _).symm | exact (Int.pow_zero _).symm | (simp only [sm]; omega))) ?_ | refine LE_n ?_)
theorem sp_Partings_addUpBalances (hI : TI T N) (hd : h + 8 ≤ P ∨ P + 5 ≤ h) (p0 : hp.2 P = some (pobj P a)) (p1 : hp.2 (P + 1) = some (.inl (.int, 64, F))) (hT : TownAt hp h T) : Sp g MX4_addUpBalances (rm 3 0 0) [.ref P, .ref h] hp (Vod (fun hp2 => (∃ F, hp2.2 (P + 1) = some (.inl (.int, 64, F)) ∧ ∀ s : Nat, s < 2 ^ N → F (s : Int) = bsm (fun j => bal T j N) N s) ∧ SO hp hp2 (P + 1) (P + 2))) := by
  refine Sp_mk rfl (Nat.le_of_ble_eq_true rfl) ?_
  show wp g _ _ _ 0 0 0 [some (.ref P), some (.ref h), none, none, none, none] [] hp
  refine wp_aload_n (pc := 0) dX4_addUpBalances_0 rfl ?_
  refine wp_getf (pc := 1) dX4_addUpBalances_1 gf_X4_9 (by repeat (first | assumption | exact hset_eq | refine hset_at (by omega) ?_)) (by rfl) ?_
  refine wp_iconst (pc := 4) dX4_addUpBalances_4 ?_
  refine wp_iconst (pc := 5) dX4_addUpBalances_5 ?_
  refine wp_iast (pc := 6) dX4_addUpBalances_6 (by repeat (first | assumption | exact hset_eq | refine hset_at (by omega) ?_)) (by omega) (by omega) (by decide) ?_
  refine wp_iconst (pc := 7) dX4_addUpBalances_7 ?_
  refine wp_istore_n (pc := 8) dX4_addUpBalances_8 (by decide) ?_
  refine wp_ls ?_ (lp_addUp1 (a := a) hI hd (N + 1) 0 (by omega) (by omega) _ (updI F 0 0) (hset_at (by omega) p0) hset_eq (hT.off fun x z1 z2 => hset_ne (by omega)) (fun s hs => ?_) (SO.rf.set (by omega) (by omega)))
  · repeat' (first | exact LE_0 | refine LE_s rfl ?_ | refine LE_s (I_c (by first | omega | (simp only [sm]; omega))) ?_ | refine LE_s (J_c (by first | omega | exact Int.pow_succ _ _ | exact (Int.pow_succ _ _).symm | exact (Int.pow_zero _).symm | (simp only [sm]; omega))) ?_ | refine LE_n ?_)
  · have e : s = 0 := by simpa using hs
    subst e
    rfl
/-- the most groups of s with its first one, of the parts below k -/
def gcd1 (B : Int → Int) (s q : Nat) : Prop := andn q s = 0 ∧ ¬ q &&& low s = 0 ∧ B (q : Int) = 0
def gac (B G : Int → Int) (s : Nat) : Nat → Int
  | 0 => 0
  | q + 1 => if andn q s = 0 ∧ ¬ q &&& low s = 0 ∧ B (q : Int) = 0 then mx (gac B G s q) (1 + G ((andn s q : Nat) : Int)) else gac B G s q
theorem gac_in {B G : Int → Int} (hG : ∀ i, 0 ≤ G i ∧ G i ≤ 100) (s : Nat) : ∀ q, 0 ≤ gac B G s q ∧ gac B G s q ≤ 101
  | 0 => by unfold gac; omega
  | q + 1 => by
    have h1 := gac_in hG (B := B) s q
    have h2 := hG ((andn s q : Nat) : Int)
    unfold gac mx
    split
    · split <;> omega
    · exact h1
theorem gac_0 {B G : Int → Int} {s : Nat} (h0 : 0 < s) (hs : s < 64) : ∀ q, q ≤ low s → gac B G s q = 0
  | 0, _ => rfl
  | q + 1, h => by
    unfold gac
    rw [if_neg (fun z => low_min h0 hs (b := q) (by omega) ⟨z.1, z.2.1⟩)]
    exact gac_0 h0 hs q (by omega)
theorem jn_gof {Q : Option Value → Hp → Prop} {q : Prop} [Decidable q] {z : Int} (hk : k < 64) (hs : s < 64) (rz : 0 ≤ z ∧ z ≤ 101) (p0 : hp.2 P = some (pobj P a)) (p2 : hp.2 (P + 2) = some (.inl (.int, 64, Gc))) (hG : ∀ i, 0 ≤ Gc i ∧ Gc i ≤ 100) (K : wp g MX4_groupsOf (rm 1 0 0) Q 0 0 10 [some (.ref P), some (.int (I (s : Int))), some (.int (I (if q then mx z (1 + Gc ((andn s k : Nat) : Int)) else z))), some (.int (I x)), some (.int (I ((k + 1 : Nat) : Int))), none] [] hp) : wp g MX4_groupsOf (rm 1 0 0) Q 0 0 47 [some (.ref P), some (.int (I (s : Int))), some (.int (I z)), some (.int (I x)), some (.int (I (k : Int))), none] [.int (B q)] hp := by
  have ha := andn_le (b := k) hs
  have hg := hG ((andn s k : Nat) : Int)
  refine wp_istore (pc := 47) dX4_groupsOf_47 (by decide) ?_
  refine wp_iload (pc := 49) dX4_groupsOf_49 rfl ?_
  first | refine wp_ifb_eq (pc := 51) 72 dX4_groupsOf_51 (by decide) (fun c51 => ?_) (fun c51 => ?_) | refine wp_if_eq (pc := 51) 72 dX4_groupsOf_51 (by decide) (by omega) (fun c51 => ?_) (fun c51 => ?_)
  ·
    rw [if_neg c51] at K -- go
    refine wp_iinc (pc := 72) dX4_groupsOf_72 rfl (by decide) ?_
    refine wp_goto (pc := 75) 10 dX4_groupsOf_75 (by decide) ?_
    refine wp_ls ?_ K
    repeat' (first | exact LE_0 | refine LE_s rfl ?_ | refine LE_s (I_c (by first | omega | (simp only [sm]; omega))) ?_ | refine LE_s (J_c (by first | omega | exact Int.pow_succ _ _ | exact (Int.pow_succ _ _).symm | exact (Int.pow_zero _).symm | (simp only [sm]; omega))) ?_ | refine LE_n ?_)
  ·
    rw [if_pos c51] at K -- go
    refine wp_iload_n (pc := 54) dX4_groupsOf_54 rfl ?_
    refine wp_iconst (pc := 55) dX4_groupsOf_55 ?_
    refine wp_aload_n (pc := 56) dX4_groupsOf_56 rfl ?_
    refine wp_getf (pc := 57) dX4_groupsOf_57 gf_X4_15 (by repeat (first | assumption | exact hset_eq | refine hset_at (by omega) ?_)) (by rfl) ?_
    refine wp_iload_n (pc := 60) dX4_groupsOf_60 rfl ?_
    refine wp_iload (pc := 61) dX4_groupsOf_61 rfl ?_
    refine wp_iconst (pc := 63) dX4_groupsOf_63 ?_
    refine wp_ixor (pc := 64) dX4_groupsOf_64 rfl ?_
    refine wp_iand (pc := 65) dX4_groupsOf_65 (I_andn hs hk) ?_
    refine wp_iald (pc := 66) dX4_groupsOf_66 p2 (by omega) (by omega) (by decide) ?_
    refine wp_iadd (pc := 67) dX4_groupsOf_67 ?_
    refine wp_max (pc := 68) dX4_groupsOf_68 ml_X4_50 ma_max_s ma_ini ma_max_c (by decide) (by decide) (by decide) (by decide) (Nat.le_of_ble_eq_true rfl) (by omega) (by omega) ?_
    refine wp_istore_n (pc := 71) dX4_groupsOf_71 (by decide) ?_
    refine wp_iinc (pc := 72) dX4_groupsOf_72 rfl (by decide) ?_
    refine wp_goto (pc := 75) 10 dX4_groupsOf_75 (by decide) ?_
    refine wp_ls ?_ K
    repeat' (first | exact LE_0 | refine LE_s rfl ?_ | refine LE_s (I_c (by first | omega | (simp only [sm]; omega))) ?_ | refine LE_s (J_c (by first | omega | exact Int.pow_succ _ _ | exact (Int.pow_succ _ _).symm | exact (Int.pow_zero _).symm | (simp only [sm]; omega))) ?_ | refine LE_n ?_)
theorem lp_gof (h0 : 0 < s) (hs : s < 64) (p0 : hp.2 P = some (pobj P a)) (p1 : hp.2 (P + 1) = some (.inl (.int, 64, Bc))) (rB : ∀ i : Nat, i ≤ s → InR (Bc i)) (p2 : hp.2 (P + 2) = some (.inl (.int, 64, Gc))) (hG : ∀ i, 0 ≤ Gc i ∧ Gc i ≤ 100) : ∀ (m i : Nat), (s + 1) < i + m → i ≤ (s + 1) → wp g MX4_groupsOf (rm 1 0 0) (Pur (.int (I (gac Bc Gc s (s + 1)))) hp) 0 0 10 [some (.ref P), some (.int (I (s : Int))), some (.int (I (gac Bc Gc s i))), some (.int (I ((low s : Nat) : Int))), some (.int (I (i : Int))), none] [] hp := by
  intro m
  induction m with
  | zero => intro i h1 h2; exact absurd h1 (by omega)
  | succ m ih =>
    intro i h1 h2
    have hga := gac_in (B := Bc) hG s i
    refine wp_iload (pc := 10) dX4_groupsOf_10 rfl ?_
    refine wp_iload_n (pc := 12) dX4_groupsOf_12 rfl ?_
    refine wp_icmp_gt (pc := 13) 78 dX4_groupsOf_13 (by decide) (by omega) (by omega) (fun c13 => ?_) (fun c13 => ?_)
    ·
      have e : i = s + 1 := by omega
      subst e -- go
      refine wp_iload_n (pc := 78) dX4_groupsOf_78 rfl ?_
      exact wp_ir (pc := 79) dX4_groupsOf_79 rfl (by decide) (by decide) (by first | rfl | omega) rfl
    ·
      have rBi := rB i (by omega)
      skip -- go
      refine wp_iload (pc := 16) dX4_groupsOf_16 rfl ?_
      refine wp_iload_n (pc := 18) dX4_groupsOf_18 rfl ?_
      refine wp_iconst (pc := 19) dX4_groupsOf_19 ?_
      refine wp_ixor (pc := 20) dX4_groupsOf_20 rfl ?_
      refine wp_iand (pc := 21) dX4_groupsOf_21 (I_andn (by omega) hs) ?_
      first | refine wp_ifb_ne (pc := 22) 46 dX4_groupsOf_22 (by decide) (fun c22 => ?_) (fun c22 => ?_) | refine wp_if_ne (pc := 22) 46 dX4_groupsOf_22 (by decide) (by have := andn_le (a := i) (b := s) (by omega); omega) (fun c22 => ?_) (fun c22 => ?_)
      ·
        refine wp_iconst (pc := 46) dX4_groupsOf_46 ?_
        refine wp_topB (q := andn i s = 0 ∧ ¬ i &&& low s = 0 ∧ Bc (i : Int) = 0) (by first | rw [if_pos (by omega)] | rw [if_neg (by omega)]) ?_
        refine wp_ls ?_ (jn_gof (k := i) (z := gac Bc Gc s i) (by omega) hs hga p0 p2 hG (ih (i + 1) (by omega) (by omega)))
        repeat' (first | exact LE_0 | refine LE_s rfl ?_ | refine LE_s (I_c (by first | omega | (simp only [sm]; omega))) ?_ | refine LE_s (J_c (by first | omega | exact Int.pow_succ _ _ | exact (Int.pow_succ _ _).symm | exact (Int.pow_zero _).symm | (simp only [sm]; omega))) ?_ | refine LE_n ?_)
      ·
        refine wp_iload (pc := 25) dX4_groupsOf_25 rfl ?_
        refine wp_iload_n (pc := 27) dX4_groupsOf_27 rfl ?_
        refine wp_iand (pc := 28) dX4_groupsOf_28 I_and ?_
        first | refine wp_ifb_eq (pc := 29) 46 dX4_groupsOf_29 (by decide) (fun c29 => ?_) (fun c29 => ?_) | refine wp_if_eq (pc := 29) 46 dX4_groupsOf_29 (by decide) (by have := Nat.and_le_left (n := i) (m := low s); omega) (fun c29 => ?_) (fun c29 => ?_)
        ·
          refine wp_iconst (pc := 46) dX4_groupsOf_46 ?_
          refine wp_topB (q := andn i s = 0 ∧ ¬ i &&& low s = 0 ∧ Bc (i : Int) = 0) (by first | rw [if_pos (by omega)] | rw [if_neg (by omega)]) ?_
          refine wp_ls ?_ (jn_gof (k := i) (z := gac Bc Gc s i) (by omega) hs hga p0 p2 hG (ih (i + 1) (by omega) (by omega)))
          repeat' (first | exact LE_0 | refine LE_s rfl ?_ | refine LE_s (I_c (by first | omega | (simp only [sm]; omega))) ?_ | refine LE_s (J_c (by first | omega | exact Int.pow_succ _ _ | exact (Int.pow_succ _ _).symm | exact (Int.pow_zero _).symm | (simp only [sm]; omega))) ?_ | refine LE_n ?_)
        ·
          refine wp_aload_n (pc := 32) dX4_groupsOf_32 rfl ?_
          refine wp_getf (pc := 33) dX4_groupsOf_33 gf_X4_9 (by repeat (first | assumption | exact hset_eq | refine hset_at (by omega) ?_)) (by rfl) ?_
          refine wp_iload (pc := 36) dX4_groupsOf_36 rfl ?_
          refine wp_iald (pc := 38) dX4_groupsOf_38 p1 (by omega) (by omega) (by decide) ?_
          first | refine wp_ifb_ne (pc := 39) 46 dX4_groupsOf_39 (by decide) (fun c39 => ?_) (fun c39 => ?_) | refine wp_if_ne (pc := 39) 46 dX4_groupsOf_39 (by decide) (by omega) (fun c39 => ?_) (fun c39 => ?_)
          ·
            refine wp_iconst (pc := 46) dX4_groupsOf_46 ?_
            refine wp_topB (q := andn i s = 0 ∧ ¬ i &&& low s = 0 ∧ Bc (i : Int) = 0) (by first | rw [if_pos (by omega)] | rw [if_neg (by omega)]) ?_
            refine wp_ls ?_ (jn_gof (k := i) (z := gac Bc Gc s i) (by omega) hs hga p0 p2 hG (ih (i + 1) (by omega) (by omega)))
            repeat' (first | exact LE_0 | refine LE_s rfl ?_ | refine LE_s (I_c (by first | omega | (simp only [sm]; omega))) ?_ | refine LE_s (J_c (by first | omega | exact Int.pow_succ _ _ | exact (Int.pow_succ _ _).symm | exact (Int.pow_zero _).symm | (simp only [sm]; omega))) ?_ | refine LE_n ?_)
          ·
            refine wp_iconst (pc := 42) dX4_groupsOf_42 ?_
            refine wp_goto (pc := 43) 47 dX4_groupsOf_43 (by decide) ?_
            refine wp_topB (q := andn i s = 0 ∧ ¬ i &&& low s = 0 ∧ Bc (i : Int) = 0) (by first | rw [if_pos (by omega)] | rw [if_neg (by omega)]) ?_
            refine wp_ls ?_ (jn_gof (k := i) (z := gac Bc Gc s i) (by omega) hs hga p0 p2 hG (ih (i + 1) (by omega) (by omega)))
            repeat' (first | exact LE_0 | refine LE_s rfl ?_ | refine LE_s (I_c (by first | omega | (simp only [sm]; omega))) ?_ | refine LE_s (J_c (by first | omega | exact Int.pow_succ _ _ | exact (Int.pow_succ _ _).symm | exact (Int.pow_zero _).symm | (simp only [sm]; omega))) ?_ | refine LE_n ?_)
theorem sp_Partings_groupsOf (h0 : 0 < s) (hs : s < 64) (p0 : hp.2 P = some (pobj P a)) (p1 : hp.2 (P + 1) = some (.inl (.int, 64, Bc))) (rB : ∀ i : Nat, i ≤ s → InR (Bc i)) (p2 : hp.2 (P + 2) = some (.inl (.int, 64, Gc))) (hG : ∀ i, 0 ≤ Gc i ∧ Gc i ≤ 100) : Sp g MX4_groupsOf (rm 1 0 0) [.ref P, .int (I (s : Int))] hp (Pur (.int (I (gac Bc Gc s (s + 1)))) hp) := by
  have hl := low_le (a := s)
  refine Sp_mk rfl (Nat.le_of_ble_eq_true rfl) ?_
  show wp g _ _ _ 0 0 0 [some (.ref P), some (.int (I (s : Int))), none, none, none, none] [] hp
  refine wp_iconst (pc := 0) dX4_groupsOf_0 ?_
  refine wp_istore_n (pc := 1) dX4_groupsOf_1 (by decide) ?_
  refine wp_iload_n (pc := 2) dX4_groupsOf_2 rfl ?_
  refine wp_iload_n (pc := 3) dX4_groupsOf_3 rfl ?_
  refine wp_ineg (pc := 4) dX4_groupsOf_4 ?_
  refine wp_iand (pc := 5) dX4_groupsOf_5 (I_low h0 hs) ?_
  refine wp_istore_n (pc := 6) dX4_groupsOf_6 (by decide) ?_
  refine wp_iload_n (pc := 7) dX4_groupsOf_7 rfl ?_
  refine wp_istore (pc := 8) dX4_groupsOf_8 (by decide) ?_
  refine wp_ls ?_ (lp_gof h0 hs p0 p1 rB p2 hG (s + 2) (low s) (by omega) (by omega))
  rw [gac_0 h0 hs _ (Nat.le_refl _)]
  repeat' (first | exact LE_0 | refine LE_s rfl ?_ | refine LE_s (I_c (by first | omega | (simp only [sm]; omega))) ?_ | refine LE_s (J_c (by first | omega | exact Int.pow_succ _ _ | exact (Int.pow_succ _ _).symm | exact (Int.pow_zero _).symm | (simp only [sm]; omega))) ?_ | refine LE_n ?_)
/-- the table of the most groups, of the sets up to n -/
def gtb (B : Int → Int) : Nat → Int → Int
  | 0 => fun _ => 0
  | n + 1 => fun i => if i ≤ (n : Int) then gtb B n i else if B ((n + 1 : Nat) : Int) = 0 then gac B (gtb B n) (n + 1) (n + 2) else 0
theorem gac_hi {B G : Int → Int} {s : Nat} {M : Int} (hM : 0 ≤ M) (hG : ∀ i, 0 ≤ G i ∧ G i ≤ M) : ∀ q, 0 ≤ gac B G s q ∧ gac B G s q ≤ M + 1
  | 0 => by unfold gac; omega
  | q + 1 => by
    have h1 := gac_hi hM hG (B := B) (s := s) q
    have h2 := hG ((andn s q : Nat) : Int)
    unfold gac mx
    split
    · split <;> omega
    · exact h1
theorem gtb_in (B : Int → Int) : ∀ (n : Nat) (i : Int), 0 ≤ gtb B n i ∧ gtb B n i ≤ n
  | 0, i => by unfold gtb; omega
  | n + 1, i => by
    have h1 := gtb_in B n i
    unfold gtb
    split
    · omega
    · split
      · have := gac_hi (B := B) (s := n + 1) (M := n) (by omega) (gtb_in B n) (n + 2)
        omega
      · omega
theorem gtb_mono (B : Int → Int) {i : Int} {n : Nat} (hi : i ≤ n) : ∀ m : Nat, n ≤ m → gtb B m i = gtb B n i
  | 0, h => by rw [show n = 0 by omega]
  | m + 1, h => by
    by_cases e : n = m + 1
    · rw [e]
    · show (if i ≤ (m : Int) then gtb B m i else _) = _
      rw [if_pos (by omega), gtb_mono B hi m (by omega)]
theorem andn_lt {s q : Nat} (hs : s < 64) (hq : q < 64) (h : ¬ q &&& low s = 0) : andn s q < s := by
  have h1 : ∀ s q : Fin 64, ¬ (q : Nat) &&& low (s : Nat) = 0 → andn (s : Nat) (q : Nat) < (s : Nat) := by decide +kernel
  exact h1 ⟨s, hs⟩ ⟨q, hq⟩ h
theorem gac_congr {B B' G G' : Int → Int} {s : Nat} (hs : s < 64) (hB : ∀ i : Nat, i ≤ s → B i = B' i) (hG : ∀ i : Nat, i < s → G i = G' i) : ∀ q, q ≤ s + 1 → gac B G s q = gac B' G' s q
  | 0, _ => rfl
  | q + 1, h => by
    unfold gac
    rw [gac_congr hs hB hG q (by omega), hB q (by omega)]
    by_cases z : andn q s = 0 ∧ ¬ q &&& low s = 0 ∧ B' (q : Int) = 0
    · rw [if_pos z, if_pos z, hG _ (andn_lt hs (by omega) z.2.1)]
    · rw [if_neg z, if_neg z]
theorem oby_in (hI : TI T N) {p : Int} : 0 ≤ oby T p N ∧ oby T p N ≤ 594 := by
  have := sm_range (f := fun i => T 1 (p * 6 + i)) (lo := 0) (hi := 99) (n := N) (fun i _ => hI.2.2.2.1 _)
  have h6 := hI.2.1
  unfold oby
  omega
theorem oto_in (hI : TI T N) {p : Int} : 0 ≤ oto T p N ∧ oto T p N ≤ 594 := by
  have := sm_range (f := fun i => T 1 (i * 6 + p)) (lo := 0) (hi := 99) (n := N) (fun i _ => hI.2.2.2.1 _)
  have h6 := hI.2.1
  unfold oto
  omega
theorem bal_in (hI : TI T N) {p : Int} : -594 ≤ bal T p N ∧ bal T p N ≤ 594 := by
  have h1 := oby_in hI (p := p)
  have h2 := oto_in hI (p := p)
  unfold bal
  omega
theorem bsm_in {b : Nat → Int} (hb : ∀ i, -594 ≤ b i ∧ b i ≤ 594) {n s : Nat} (hn : n ≤ 6) : -4000 ≤ bsm b n s ∧ bsm b n s ≤ 4000 := by
  have := sm_range (f := fun i => if s.testBit i.toNat then b i.toNat else 0) (lo := -594) (hi := 594) (n := n) (fun i _ => by
    have := hb ((i : Int).toNat)
    split <;> omega)
  unfold bsm
  omega
/-- what is owed to a set, by its number -/
def bsI (T : Nat → Int → Int) (N : Nat) : Int → Int := fun i => bsm (fun j => bal T j N) N i.toNat
/-- scratch beyond what counts is put to 0 -/
def clip (G : Int → Int) (n : Int) : Int → Int := fun i => if 0 ≤ i ∧ i ≤ n then G i else 0
theorem lp_mostGroups (hI : TI T N) (rF : ∀ i : Nat, i < 2 ^ N → F i = bsI T N i) : ∀ (m i : Nat), (2 ^ N - 1) < i + m → i ≤ (2 ^ N - 1) → ∀ (hp2 : Hp) (Gc : Int → Int) (p0 : hp2.2 P = some (pobj P a)) (p1 : hp2.2 (P + 1) = some (.inl (.int, 64, F))) (p2 : hp2.2 (P + 2) = some (.inl (.int, 64, Gc))) (rG : ∀ j, 0 ≤ Gc j ∧ Gc j ≤ 100) (hG : ∀ j : Nat, j ≤ i → Gc j = gtb (bsI T N) i j) (hS : SO hp hp2 (P + 1) (P + 3)), wp g MX4_mostGroups (rm 4 0 0) (Eff (.int (I (gtb (bsI T N) (2 ^ N - 1) ((2 ^ N - 1 : Nat) : Int)))) (fun hp2 => (∃ Gc, hp2.2 (P + 1) = some (.inl (.int, 64, F)) ∧ hp2.2 (P + 2) = some (.inl (.int, 64, Gc)) ∧ (∀ j, 0 ≤ Gc j ∧ Gc j ≤ 100) ∧ ∀ j : Nat, j < 2 ^ N → Gc j = gtb (bsI T N) (2 ^ N - 1) j) ∧ SO hp hp2 (P + 1) (P + 3))) 0 0 19 [some (.ref P), some (.ref h), some (.int (I ((2 ^ N - 1 : Nat) : Int))), some (.int (I ((i : Int) + 1)))] [] hp2 := by
  intro m
  induction m with
  | zero => intro i h1 h2; exact absurd h1 (by omega)
  | succ m ih =>
    intro i h1 h2 hp2 Gc p0 p1 p2 rG hG hS
    have hp6 := pow6 hI.2.1
    have hbn : ∀ j : Nat, j < 2 ^ N → -4000 ≤ F j ∧ F j ≤ 4000 := fun j hj => by rw [rF j hj]; exact bsm_in (fun _ => bal_in hI) hI.2.1
    have ihx : ∀ w : Int, i < 2 ^ N - 1 → w = gtb (bsI T N) (i + 1) ((i + 1 : Nat) : Int) → wp g MX4_mostGroups (rm 4 0 0) (Eff (.int (I (gtb (bsI T N) (2 ^ N - 1) ((2 ^ N - 1 : Nat) : Int)))) (fun hp2 => (∃ Gc, hp2.2 (P + 1) = some (.inl (.int, 64, F)) ∧ hp2.2 (P + 2) = some (.inl (.int, 64, Gc)) ∧ (∀ j, 0 ≤ Gc j ∧ Gc j ≤ 100) ∧ ∀ j : Nat, j < 2 ^ N → Gc j = gtb (bsI T N) (2 ^ N - 1) j) ∧ SO hp hp2 (P + 1) (P + 3))) 0 0 47 [some (.ref P), some (.ref h), some (.int (I ((2 ^ N - 1 : Nat) : Int))), some (.int (I ((i : Int) + 1)))] [.int (I w), .int (I ((i : Int) + 1)), .ref (P + 2)] hp2 := by
      intro w hi hw
      have hwi := gtb_in (bsI T N) (i + 1) ((i + 1 : Nat) : Int)
      refine wp_iast (pc := 47) dX4_mostGroups_47 p2 (by omega) (by omega) (by decide) ?_
      refine wp_iinc (pc := 48) dX4_mostGroups_48 rfl (by decide) ?_
      refine wp_goto (pc := 51) 19 dX4_mostGroups_51 (by decide) ?_
      refine wp_ls ?_ (ih (i + 1) (by omega) (by omega) _ (updI Gc ((i : Int) + 1) w) (hset_at (by omega) p0) (hset_at (by omega) p1) hset_eq (updI_all (P := fun x => 0 ≤ x ∧ x ≤ 100) rG (by omega)) (fun j hj => ?_) (hS.set (by omega) (by omega)))
      · repeat' (first | exact LE_0 | refine LE_s rfl ?_ | refine LE_s (I_c (by first | omega | (simp only [sm]; omega))) ?_ | refine LE_s (J_c (by first | omega | exact Int.pow_succ _ _ | exact (Int.pow_succ _ _).symm | exact (Int.pow_zero _).symm | (simp only [sm]; omega))) ?_ | refine LE_n ?_)
      · by_cases z : j = i + 1
        · rw [z, show ((i + 1 : Nat) : Int) = (i : Int) + 1 from rfl, updI_eq]; exact hw
        · rw [updI_ne (by omega), hG j (by omega)]
          exact (gtb_mono _ (by omega) (i + 1) (by omega)).symm
    refine wp_iload_n (pc := 19) dX4_mostGroups_19 rfl ?_
    refine wp_iload_n (pc := 20) dX4_mostGroups_20 rfl ?_
    refine wp_icmp_gt (pc := 21) 54 dX4_mostGroups_21 (by decide) (by omega) (by omega) (fun c21 => ?_) (fun c21 => ?_)
    ·
      have e : i = 2 ^ N - 1 := by omega
      subst e -- go
      refine wp_aload_n (pc := 54) dX4_mostGroups_54 rfl ?_
      refine wp_getf (pc := 55) dX4_mostGroups_55 gf_X4_15 (by repeat (first | assumption | exact hset_eq | refine hset_at (by omega) ?_)) (by rfl) ?_
      refine wp_iload_n (pc := 58) dX4_mostGroups_58 rfl ?_
      refine wp_iald (pc := 59) dX4_mostGroups_59 p2 (by omega) (by omega) (by decide) ?_
      exact wp_ir (pc := 60) dX4_mostGroups_60 rfl (by decide) (by decide) (hG _ (Nat.le_refl _)) ⟨⟨Gc, p1, p2, rG, fun j hj => hG j (by omega)⟩, hS⟩
    ·
      have hb1 := hbn (i + 1) (by omega)
      rw [show ((i + 1 : Nat) : Int) = (i : Int) + 1 from rfl] at hb1
      have eF : F ((i : Int) + 1) = bsI T N ((i + 1 : Nat) : Int) := rF (i + 1) (by omega) -- go
      refine wp_aload_n (pc := 24) dX4_mostGroups_24 rfl ?_
      refine wp_getf (pc := 25) dX4_mostGroups_25 gf_X4_15 (by repeat (first | assumption | exact hset_eq | refine hset_at (by omega) ?_)) (by rfl) ?_
      refine wp_iload_n (pc := 28) dX4_mostGroups_28 rfl ?_
      refine wp_aload_n (pc := 29) dX4_mostGroups_29 rfl ?_
      refine wp_getf (pc := 30) dX4_mostGroups_30 gf_X4_9 (by repeat (first | assumption | exact hset_eq | refine hset_at (by omega) ?_)) (by rfl) ?_
      refine wp_iload_n (pc := 33) dX4_mostGroups_33 rfl ?_
      refine wp_iald (pc := 34) dX4_mostGroups_34 p1 (by omega) (by omega) (by decide) ?_
      first | refine wp_ifb_ne (pc := 35) 46 dX4_mostGroups_35 (by decide) (fun c35 => ?_) (fun c35 => ?_) | refine wp_if_ne (pc := 35) 46 dX4_mostGroups_35 (by decide) (by omega) (fun c35 => ?_) (fun c35 => ?_)
      ·
        refine wp_iconst (pc := 46) dX4_mostGroups_46 ?_
        first
        | refine ihx _ (by omega) ?_
          show _ = if _ then _ else _
          rw [if_neg (by omega), if_pos (by rw [← eF]; exact Classical.byContradiction fun z => z (by omega))]
          exact gac_congr (by omega) (fun j hj => rF j (by omega)) (fun j hj => hG j (by omega)) _ (Nat.le_refl _)
        | refine ihx 0 (by omega) ?_
          show _ = if _ then _ else _
          rw [if_neg (by omega), if_neg (by rw [← eF]; exact c35)]
      ·
        refine wp_aload_n (pc := 38) dX4_mostGroups_38 rfl ?_
        refine wp_iload_n (pc := 39) dX4_mostGroups_39 rfl ?_
        refine wp_Vp (pc := 40) dX4_mostGroups_40 cl_X4_32 (sp_Partings_groupsOf (s := i + 1) (by omega) (by omega) p0 p1 (fun j hj => by have := hbn j (by omega); omega) p2 rG) rfl rfl (by repeat (first | assumption | exact hset_eq | refine hset_at (by omega) ?_)) (by rfl) (by decide) (Nat.le_of_ble_eq_true rfl) ?_
        refine wp_goto (pc := 43) 47 dX4_mostGroups_43 (by decide) ?_
        first
        | refine ihx _ (by omega) ?_
          show _ = if _ then _ else _
          rw [if_neg (by omega), if_pos (by rw [← eF]; exact Classical.byContradiction fun z => z (by omega))]
          exact gac_congr (by omega) (fun j hj => rF j (by omega)) (fun j hj => hG j (by omega)) _ (Nat.le_refl _)
        | refine ihx 0 (by omega) ?_
          show _ = if _ then _ else _
          rw [if_neg (by omega), if_neg (by rw [← eF]; exact c35)]
theorem sp_Partings_mostGroups (hI : TI T N) (hd : h + 8 ≤ P ∨ P + 5 ≤ h) (hP : PartAt hp P) (hT : TownAt hp h T) : Sp g MX4_mostGroups (rm 4 0 0) [.ref P, .ref h] hp (Eff (.int (I (gtb (bsI T N) (2 ^ N - 1) ((2 ^ N - 1 : Nat) : Int)))) (fun hp2 => (∃ F Gc, hp2.2 (P + 1) = some (.inl (.int, 64, F)) ∧ (∀ j : Nat, j < 2 ^ N → F j = bsI T N j) ∧ hp2.2 (P + 2) = some (.inl (.int, 64, Gc)) ∧ ∀ j : Nat, j < 2 ^ N → Gc j = gtb (bsI T N) (2 ^ N - 1) j) ∧ PartAt hp2 P ∧ SO hp hp2 P (P + 5))) := by
  obtain ⟨⟨n, p0⟩, ⟨F, p1⟩, ⟨G, p2, r2⟩, ⟨D, p3, r3⟩, ⟨M, p4, r4⟩⟩ := hP
  have hp6 := pow6 hI.2.1
  refine Sp_mk rfl (Nat.le_of_ble_eq_true rfl) ?_
  show wp g _ _ _ 0 0 0 [some (.ref P), some (.ref h), none, none] [] hp
  refine wp_aload_n (pc := 0) dX4_mostGroups_0 rfl ?_
  refine wp_Sp (pc := 1) dX4_mostGroups_1 cl_X4_24 (sp_Partings_allOf (by first | assumption | omega) (by first | assumption | omega)) rfl rfl (by decide) (Nat.le_of_ble_eq_true rfl) ?_
  refine wp_istore_n (pc := 4) dX4_mostGroups_4 (by decide) ?_
  refine wp_aload_n (pc := 5) dX4_mostGroups_5 rfl ?_
  refine wp_aload_n (pc := 6) dX4_mostGroups_6 rfl ?_
  refine wp_Vn (pc := 7) dX4_mostGroups_7 cl_X4_28 (sp_Partings_addUpBalances hI hd p0 p1 hT) rfl rfl (by repeat (first | assumption | exact hset_eq | refine hset_at (by omega) ?_)) (by rfl) (by decide) (Nat.le_of_ble_eq_true rfl) (fun hp7 e7 => ?_)
  obtain ⟨⟨F2, f1, f2⟩, f3⟩ := e7
  have q0 := (f3.2 P (by omega)).trans p0
  have q2 := (f3.2 (P + 2) (by omega)).trans p2
  have f2' : ∀ j : Nat, j < 2 ^ N → F2 j = bsI T N j := fun j hj => by rw [f2 j hj]; unfold bsI; rw [Int.toNat_natCast]
  refine wp_aload_n (pc := 10) dX4_mostGroups_10 rfl ?_
  refine wp_getf (pc := 11) dX4_mostGroups_11 gf_X4_15 (by repeat (first | assumption | exact hset_eq | refine hset_at (by omega) ?_)) (by rfl) ?_
  refine wp_iconst (pc := 14) dX4_mostGroups_14 ?_
  refine wp_iconst (pc := 15) dX4_mostGroups_15 ?_
  refine wp_iast (pc := 16) dX4_mostGroups_16 (by repeat (first | assumption | exact hset_eq | refine hset_at (by omega) ?_)) (by omega) (by omega) (by decide) ?_
  refine wp_iconst (pc := 17) dX4_mostGroups_17 ?_
  refine wp_istore_n (pc := 18) dX4_mostGroups_18 (by decide) ?_
  refine wp_ls ?_ (wp_post (fun u hq z => ?_) (lp_mostGroups (hp := hp7) (a := n) (h := h) hI f2' (2 ^ N) 0 (by omega) (by omega) _ (updI G 0 0) (hset_at (by omega) q0) (hset_at (by omega) f1) hset_eq (updI_all (P := fun x => 0 ≤ x ∧ x ≤ 100) r2 (by omega)) (fun j hj => ?_) (SO.rf.set (by omega) (by omega))))
  · repeat' (first | exact LE_0 | refine LE_s rfl ?_ | refine LE_s (I_c (by first | omega | (simp only [sm]; omega))) ?_ | refine LE_s (J_c (by first | omega | exact Int.pow_succ _ _ | exact (Int.pow_succ _ _).symm | exact (Int.pow_zero _).symm | (simp only [sm]; omega))) ?_ | refine LE_n ?_)
  · obtain ⟨z1, ⟨Gc, z2, z3, z4, z5⟩, z6⟩ := z
    have zz : SO hp hq (P + 1) (P + 3) := (f3.wide (by omega) (by omega)).tr z6
    exact ⟨z1, ⟨F2, Gc, z2, f2', z3, z5⟩, ⟨⟨n, (zz.2 _ (by omega)).trans p0⟩, ⟨F2, z2⟩, ⟨Gc, z3, z4⟩, ⟨D, (zz.2 _ (by omega)).trans p3, r3⟩, ⟨M, (zz.2 _ (by omega)).trans p4, r4⟩⟩, zz.wide (by omega) (by omega)⟩
  · rw [show j = 0 by omega]; rfl
/-- the least group of the first one, of N people (1 or more) -/
def gfP (T : Nat → Int → Int) (N : Nat) : Nat → Bool := fun j => decide (bsI T N ((2 * j + 1 : Nat) : Int) = 0 ∧ 1 + gtb (bsI T N) (2 ^ N - 1) ((andn (2 ^ N - 1) (2 * j + 1) : Nat) : Int) = gtb (bsI T N) (2 ^ N - 1) ((2 ^ N - 1 : Nat) : Int))
theorem lp_groupOfFirst (hI : TI T N) (h1N : 1 ≤ N) (p0 : hp.2 P = some (pobj P a)) (p1 : hp.2 (P + 1) = some (.inl (.int, 64, F))) (rF : ∀ j : Nat, j < 2 ^ N → F j = bsI T N j) (p2 : hp.2 (P + 2) = some (.inl (.int, 64, Gc))) (hG : ∀ j : Nat, j < 2 ^ N → Gc j = gtb (bsI T N) (2 ^ N - 1) j) : ∀ (m i : Nat), (2 ^ (N - 1) - 1) < i + m → i ≤ (2 ^ (N - 1) - 1) → ∀ (hno : ∀ j, j < i → gfP T N j = false), wp g MX4_groupOfFirst (rm 2 0 0) (Pur (.int (I (2 * ((fst (gfP T N) (2 ^ (N - 1) - 1) : Nat) : Int) + 1))) hp) 0 0 7 [some (.ref P), some (.ref h), some (.int (I ((2 ^ N - 1 : Nat) : Int))), some (.int (I (2 * (i : Int) + 1)))] [] hp := by
  intro m
  induction m with
  | zero => intro i h1 h2; exact absurd h1 (by omega)
  | succ m ih =>
    intro i h1 h2 hno
    have hp6 := pow6 hI.2.1
    have e2 : 2 ^ N = 2 * 2 ^ (N - 1) := by rw [show N = (N - 1) + 1 by omega, Nat.pow_succ, show N - 1 + 1 - 1 = N - 1 by omega]; omega
    refine wp_iload_n (pc := 7) dX4_groupOfFirst_7 rfl ?_
    refine wp_iload_n (pc := 8) dX4_groupOfFirst_8 rfl ?_
    refine wp_icmp_ge (pc := 9) 50 dX4_groupOfFirst_9 (by decide) (by omega) (by omega) (fun c9 => ?_) (fun c9 => ?_)
    ·
      have e : i = 2 ^ (N - 1) - 1 := by omega
      subst e
      have e3 := fst_no _ _ hno -- go
      refine wp_iload_n (pc := 50) dX4_groupOfFirst_50 rfl ?_
      exact wp_ir (pc := 51) dX4_groupOfFirst_51 rfl (by decide) (by decide) (by rw [e3]; omega) rfl
    ·
      have rb : -4000 ≤ F (2 * (i : Int) + 1) ∧ F (2 * (i : Int) + 1) ≤ 4000 := by
        have h9 := rF (2 * i + 1) (by omega)
        rw [show ((2 * i + 1 : Nat) : Int) = 2 * (i : Int) + 1 by omega] at h9
        rw [h9]
        exact bsm_in (fun _ => bal_in hI) hI.2.1
      have eF : F (2 * (i : Int) + 1) = bsI T N ((2 * i + 1 : Nat) : Int) := by
        have h9 := rF (2 * i + 1) (by omega)
        rw [← h9, show ((2 * i + 1 : Nat) : Int) = 2 * (i : Int) + 1 by omega]
      have ha := andn_le (a := 2 ^ N - 1) (b := 2 * i + 1) (by omega)
      have eG1 := hG (andn (2 ^ N - 1) (2 * i + 1)) (by omega)
      have eG2 := hG (2 ^ N - 1) (by omega)
      have rg1 := gtb_in (bsI T N) (2 ^ N - 1) ((andn (2 ^ N - 1) (2 * i + 1) : Nat) : Int)
      have rg2 := gtb_in (bsI T N) (2 ^ N - 1) ((2 ^ N - 1 : Nat) : Int)
      have hP : gfP T N i = decide (F (2 * (i : Int) + 1) = 0 ∧ 1 + Gc ((andn (2 ^ N - 1) (2 * i + 1) : Nat) : Int) = Gc ((2 ^ N - 1 : Nat) : Int)) := by rw [eF, eG1, eG2]; rfl -- go
      refine wp_aload_n (pc := 12) dX4_groupOfFirst_12 rfl ?_
      refine wp_getf (pc := 13) dX4_groupOfFirst_13 gf_X4_9 (by repeat (first | assumption | exact hset_eq | refine hset_at (by omega) ?_)) (by rfl) ?_
      refine wp_iload_n (pc := 16) dX4_groupOfFirst_16 rfl ?_
      refine wp_iald (pc := 17) dX4_groupOfFirst_17 p1 (by omega) (by omega) (by decide) ?_
      first | refine wp_ifb_ne (pc := 18) 44 dX4_groupOfFirst_18 (by decide) (fun c18 => ?_) (fun c18 => ?_) | refine wp_if_ne (pc := 18) 44 dX4_groupOfFirst_18 (by decide) (by omega) (fun c18 => ?_) (fun c18 => ?_)
      ·
        have hf : gfP T N i = false := by rw [hP]; exact decide_eq_false (fun z => by omega)
        skip -- go
        refine wp_iinc (pc := 44) dX4_groupOfFirst_44 rfl (by decide) ?_
        refine wp_goto (pc := 47) 7 dX4_groupOfFirst_47 (by decide) ?_
        refine wp_ls ?_ (ih (i + 1) (by omega) (by omega) (fun j hj => ?_))
        · repeat' (first | exact LE_0 | refine LE_s rfl ?_ | refine LE_s (I_c (by first | omega | (simp only [sm]; omega))) ?_ | refine LE_s (J_c (by first | omega | exact Int.pow_succ _ _ | exact (Int.pow_succ _ _).symm | exact (Int.pow_zero _).symm | (simp only [sm]; omega))) ?_ | refine LE_n ?_)
        · by_cases e : j = i
          · subst e; exact hf
          · exact hno j (by omega)
      ·
        refine wp_iconst (pc := 21) dX4_groupOfFirst_21 ?_
        refine wp_aload_n (pc := 22) dX4_groupOfFirst_22 rfl ?_
        refine wp_getf (pc := 23) dX4_groupOfFirst_23 gf_X4_15 (by repeat (first | assumption | exact hset_eq | refine hset_at (by omega) ?_)) (by rfl) ?_
        refine wp_iload_n (pc := 26) dX4_groupOfFirst_26 rfl ?_
        refine wp_iload_n (pc := 27) dX4_groupOfFirst_27 rfl ?_
        refine wp_iconst (pc := 28) dX4_groupOfFirst_28 ?_
        refine wp_ixor (pc := 29) dX4_groupOfFirst_29 rfl ?_
        refine wp_iand (pc := 30) (v := I ((andn (2 ^ N - 1) (2 * i + 1) : Nat) : Int)) dX4_groupOfFirst_30 (by rw [show 2 * (i : Int) + 1 = ((2 * i + 1 : Nat) : Int) by omega]; exact I_andn (by omega) (by omega)) ?_
        refine wp_iald (pc := 31) dX4_groupOfFirst_31 p2 (by omega) (by omega) (by decide) ?_
        refine wp_iadd (pc := 32) dX4_groupOfFirst_32 ?_
        refine wp_aload_n (pc := 33) dX4_groupOfFirst_33 rfl ?_
        refine wp_getf (pc := 34) dX4_groupOfFirst_34 gf_X4_15 (by repeat (first | assumption | exact hset_eq | refine hset_at (by omega) ?_)) (by rfl) ?_
        refine wp_iload_n (pc := 37) dX4_groupOfFirst_37 rfl ?_
        refine wp_iald (pc := 38) dX4_groupOfFirst_38 p2 (by omega) (by omega) (by decide) ?_
        refine wp_icmp_ne (pc := 39) 44 dX4_groupOfFirst_39 (by decide) (by omega) (by omega) (fun c39 => ?_) (fun c39 => ?_)
        ·
          have hf : gfP T N i = false := by rw [hP]; exact decide_eq_false (fun z => by omega)
          skip -- go
          refine wp_iinc (pc := 44) dX4_groupOfFirst_44 rfl (by decide) ?_
          refine wp_goto (pc := 47) 7 dX4_groupOfFirst_47 (by decide) ?_
          refine wp_ls ?_ (ih (i + 1) (by omega) (by omega) (fun j hj => ?_))
          · repeat' (first | exact LE_0 | refine LE_s rfl ?_ | refine LE_s (I_c (by first | omega | (simp only [sm]; omega))) ?_ | refine LE_s (J_c (by first | omega | exact Int.pow_succ _ _ | exact (Int.pow_succ _ _).symm | exact (Int.pow_zero _).symm | (simp only [sm]; omega))) ?_ | refine LE_n ?_)
          · by_cases e : j = i
            · subst e; exact hf
            · exact hno j (by omega)
        ·
          refine wp_iload_n (pc := 42) dX4_groupOfFirst_42 rfl ?_
          exact wp_ir (pc := 43) dX4_groupOfFirst_43 rfl (by decide) (by decide) (by rw [fst_at (gfP T N) (k := i) (by rw [hP]; exact decide_eq_true ⟨by omega, by omega⟩) hno _ (by omega)]) rfl
theorem sp_Partings_groupOfFirst (hI : TI T N) (h1N : 1 ≤ N) (hT : TownAt hp h T) (p0 : hp.2 P = some (pobj P a)) (p1 : hp.2 (P + 1) = some (.inl (.int, 64, F))) (rF : ∀ j : Nat, j < 2 ^ N → F j = bsI T N j) (p2 : hp.2 (P + 2) = some (.inl (.int, 64, Gc))) (hG : ∀ j : Nat, j < 2 ^ N → Gc j = gtb (bsI T N) (2 ^ N - 1) j) : Sp g MX4_groupOfFirst (rm 2 0 0) [.ref P, .ref h] hp (Pur (.int (I (2 * ((fst (gfP T N) (2 ^ (N - 1) - 1) : Nat) : Int) + 1))) hp) := by
  have hp6 := pow6 (k := N - 1) (by have := hI.2.1; omega)
  refine Sp_mk rfl (Nat.le_of_ble_eq_true rfl) ?_
  show wp g _ _ _ 0 0 0 [some (.ref P), some (.ref h), none, none] [] hp
  refine wp_aload_n (pc := 0) dX4_groupOfFirst_0 rfl ?_
  refine wp_Sp (pc := 1) dX4_groupOfFirst_1 cl_X4_24 (sp_Partings_allOf (by first | assumption | omega) (by first | assumption | omega)) rfl rfl (by decide) (Nat.le_of_ble_eq_true rfl) ?_
  refine wp_istore_n (pc := 4) dX4_groupOfFirst_4 (by decide) ?_
  refine wp_iconst (pc := 5) dX4_groupOfFirst_5 ?_
  refine wp_istore_n (pc := 6) dX4_groupOfFirst_6 (by decide) ?_
  refine wp_ls ?_ (lp_groupOfFirst (h := h) hI h1N p0 p1 rF p2 hG (2 ^ (N - 1)) 0 (by omega) (by omega) (fun j hj => by omega))
  repeat' (first | exact LE_0 | refine LE_s rfl ?_ | refine LE_s (I_c (by first | omega | (simp only [sm]; omega))) ?_ | refine LE_s (J_c (by first | omega | exact Int.pow_succ _ _ | exact (Int.pow_succ _ _).symm | exact (Int.pow_zero _).symm | (simp only [sm]; omega))) ?_ | refine LE_n ?_)
end PG

