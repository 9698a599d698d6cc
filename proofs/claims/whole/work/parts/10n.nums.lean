section NU
/-! sums, sets as bits, counts -/
def sm (f : Int → Int) : Nat → Int
  | 0 => 0
  | n + 1 => sm f n + f n
def bits (P : Nat → Bool) : Nat → Nat
  | 0 => 0
  | n + 1 => bits P n ||| (if P n then 2 ^ n else 0)
def cnt (P : Nat → Bool) : Nat → Nat
  | 0 => 0
  | n + 1 => cnt P n + (if P n then 1 else 0)
def popc (v : Nat) : Nat := cnt (fun i => v.testBit i) 32
theorem bits_lt (P : Nat → Bool) : ∀ n, bits P n < 2 ^ n
  | 0 => Nat.one_pos
  | n + 1 => by
    have h := bits_lt P n
    unfold bits
    refine Nat.or_lt_two_pow (Nat.lt_trans h (Nat.pow_lt_pow_right (by decide) (Nat.lt_succ_self n))) ?_
    split
    · exact Nat.pow_lt_pow_right (by decide) (Nat.lt_succ_self n)
    · exact Nat.two_pow_pos _
theorem bits_test (P : Nat → Bool) (i : Nat) : ∀ n, (bits P n).testBit i = (decide (i < n) && P i)
  | 0 => by simp [bits]
  | n + 1 => by
    unfold bits
    rw [Nat.testBit_or, bits_test P i n]
    by_cases h : P n = true
    · rw [if_pos h, Nat.testBit_two_pow]
      by_cases e : i = n
      · subst e; simp [h]
      · by_cases l : i < n
        · simp [l, show i < n + 1 by omega, show ¬ n = i by omega]
        · simp [show ¬ i < n by omega, show ¬ i < n + 1 by omega, show ¬ n = i by omega]
    · rw [if_neg h]
      by_cases e : i = n
      · subst e; simp at h; simp [h]
      · by_cases l : i < n
        · simp [l, show i < n + 1 by omega]
        · simp [show ¬ i < n by omega, show ¬ i < n + 1 by omega]
theorem bits_congr {P P' : Nat → Bool} : ∀ {n : Nat}, (∀ i, i < n → P i = P' i) → bits P n = bits P' n
  | 0, _ => rfl
  | n + 1, h => by
    unfold bits
    rw [bits_congr (fun i hi => h i (by omega)), h n (by omega)]
theorem sm_congr {f f' : Int → Int} : ∀ {n : Nat}, (∀ i : Nat, i < n → f i = f' i) → sm f n = sm f' n
  | 0, _ => rfl
  | n + 1, h => by
    unfold sm
    rw [sm_congr (fun i hi => h i (by omega)), h n (by omega)]
theorem sm_range {f : Int → Int} {lo hi : Int} : ∀ {n : Nat}, (∀ i : Nat, i < n → lo ≤ f i ∧ f i ≤ hi) → lo * n ≤ sm f n ∧ sm f n ≤ hi * n
  | 0, _ => by simp [sm]
  | n + 1, h => by
    have h1 := sm_range (n := n) (fun i hi => h i (by omega))
    have h2 := h n (by omega)
    unfold sm
    rw [show ((n + 1 : Nat) : Int) = (n : Int) + 1 from rfl, Int.mul_add, Int.mul_add]
    omega
theorem cnt_le (P : Nat → Bool) : ∀ n, cnt P n ≤ n
  | 0 => Nat.le_refl _
  | n + 1 => by
    have := cnt_le P n
    unfold cnt
    split <;> omega
theorem cnt_congr {P P' : Nat → Bool} : ∀ {n : Nat}, (∀ i, i < n → P i = P' i) → cnt P n = cnt P' n
  | 0, _ => rfl
  | n + 1, h => by
    unfold cnt
    rw [cnt_congr (fun i hi => h i (by omega)), h n (by omega)]
theorem cnt_ext (P : Nat → Bool) {n : Nat} : ∀ m, n ≤ m → (∀ i, n ≤ i → P i = false) → cnt P m = cnt P n
  | 0, h, _ => by rw [show n = 0 by omega]
  | m + 1, h, hP => by
    by_cases e : n = m + 1
    · rw [e]
    · show cnt P m + (if P m then 1 else 0) = cnt P n
      rw [cnt_ext P m (by omega) hP, hP m (by omega)]
      simp
theorem popc_bits (P : Nat → Bool) {n : Nat} (hn : n ≤ 32) : popc (bits P n) = cnt P n := by
  unfold popc
  rw [cnt_ext _ 32 hn (fun i hi => by rw [bits_test]; simp [show ¬ i < n by omega])]
  exact cnt_congr fun i hi => by rw [bits_test]; simp [hi]
theorem cnt_not (P : Nat → Bool) : ∀ n, cnt P n + cnt (fun i => !P i) n = n
  | 0 => rfl
  | n + 1 => by
    have := cnt_not P n
    unfold cnt
    cases P n <;> simp <;> omega
/-! Int32 words by naturals -/
theorem I_nat (n : Nat) : I (n : Int) = Int32.ofNat n := Int32.ofInt_eq_ofNat
theorem I_or {a b : Nat} : I (a : Int) ||| I (b : Int) = I ((a ||| b : Nat) : Int) := by
  rw [I_nat, I_nat, I_nat]
  apply Int32.toBitVec_inj.mp
  simp
theorem I_and {a b : Nat} : I (a : Int) &&& I (b : Int) = I ((a &&& b : Nat) : Int) := by
  rw [I_nat, I_nat, I_nat]
  apply Int32.toBitVec_inj.mp
  simp
theorem I_shl {k : Nat} (h : k < 31) : I 1 <<< (I (k : Int) &&& 31) = I ((2 ^ k : Nat) : Int) := by
  have : ∀ k : Fin 31, I 1 <<< (I ((k : Nat) : Int) &&& 31) = I ((2 ^ (k : Nat) : Nat) : Int) := by decide +kernel
  exact this ⟨k, h⟩
theorem I_shr {a k : Nat} (ha : a < 2 ^ 31) (h : k < 31) : I (a : Int) >>> (I (k : Int) &&& 31) = I ((a >>> k : Nat) : Int) := by
  have h1 : ∀ k : Fin 31, ((I ((k : Nat) : Int) &&& 31).toBitVec.smod 32).toNat = k := by decide +kernel
  have h2 := pk_shrN ha (I (k : Int) &&& 31) k (h1 ⟨k, h⟩)
  rw [I_nat, I_nat, Nat.shiftRight_eq_div_pow]
  exact h2
theorem I_bit {a k : Nat} (ha : a < 2 ^ 31) (h : k < 31) : I (a : Int) >>> (I (k : Int) &&& 31) &&& I 1 = I ((if a.testBit k then 1 else 0 : Nat) : Int) := by
  rw [I_shr ha h, show I 1 = I ((1 : Nat) : Int) from rfl, I_and]
  congr 2
  rw [Nat.and_one_is_mod, Nat.testBit_eq_decide_div_mod_eq, Nat.shiftRight_eq_div_pow]
  by_cases e : a / 2 ^ k % 2 = 1
  · simp [e]
  · simp [show a / 2 ^ k % 2 = 0 by omega]
theorem I_tdiv {a b : Int} (ha : InR a) (hb : InR b) : I a / I b = I (a.tdiv b) := by
  unfold I
  exact (Int32.ofInt_tdiv (by show -2147483648 ≤ a; omega) (by show a ≤ 2147483647; omega) (by show -2147483648 ≤ b; omega) (by show b ≤ 2147483647; omega)).symm
theorem I_div {a b : Int} (ha : 0 ≤ a) (ha2 : a < 2147483648) (hb : 0 < b) (hb2 : b < 2147483648) : I a / I b = I (a / b) := by
  rw [I_tdiv (by omega) (by omega), Int.tdiv_eq_ediv_of_nonneg ha]
theorem I_rem {a b : Int} (ha : 0 ≤ a) (ha2 : a < 2147483648) (hb : 0 < b) (hb2 : b < 2147483648) : I a - I a / I b * I b = I (a % b) := by
  rw [I_div ha ha2 hb hb2, I_mul, I_sub]
  congr 1
  have := Int.mul_ediv_add_emod a b
  rw [Int.mul_comm] at this
  omega
theorem J_toInt {a : Int} (h : -9223372036854775808 ≤ a ∧ a < 9223372036854775808) : (J a).toInt = a := by
  unfold J
  rw [Int64.toInt_ofInt_of_le (by omega) (by omega)]
theorem J_div {a b : Int} (ha : 0 ≤ a) (ha2 : a < 9223372036854775808) (hb : 0 < b) (hb2 : b < 9223372036854775808) : J a / J b = J (a / b) := by
  unfold J
  rw [← Int64.ofInt_tdiv (by show -9223372036854775808 ≤ a; omega) (by show a ≤ 9223372036854775807; omega) (by show -9223372036854775808 ≤ b; omega) (by show b ≤ 9223372036854775807; omega), Int.tdiv_eq_ediv_of_nonneg ha]
theorem J_rem {a b : Int} (ha : 0 ≤ a) (ha2 : a < 9223372036854775808) (hb : 0 < b) (hb2 : b < 9223372036854775808) : J a - J a / J b * J b = J (a % b) := by
  rw [J_div ha ha2 hb hb2, J_mul, J_sub]
  congr 1
  have := Int.mul_ediv_add_emod a b
  rw [Int.mul_comm] at this
  omega
theorem J_eq {a b : Int} (ha : -9223372036854775808 ≤ a ∧ a < 9223372036854775808) (hb : -9223372036854775808 ≤ b ∧ b < 9223372036854775808) : J a = J b ↔ a = b := by
  constructor
  · intro h
    rw [← J_toInt ha, ← J_toInt hb, h]
  · intro h
    rw [h]
theorem I_ne0 {a : Int} (ha : InR a) (h : a ≠ 0) : ¬ I a = 0 := by
  rw [← I_0, I_eq ha (by omega)]
  exact h
theorem J_ne0 {a : Int} (ha : -9223372036854775808 ≤ a ∧ a < 9223372036854775808) (h : a ≠ 0) : ¬ J a = 0 := by
  rw [show (0 : Int64) = J 0 from rfl, J_eq ha (by omega)]
  exact h
/-! less locals -/
theorem LE_0 {u : List (Option Value)} : LE [] u := by cases u <;> exact trivial
theorem LE_s {v : Value} {x : Option Value} {t u : List (Option Value)} (h : x = some v) (k : LE t u) : LE (some v :: t) (x :: u) := ⟨h, k⟩
theorem LE_n {x : Option Value} {t u : List (Option Value)} (k : LE t u) : LE (none :: t) (x :: u) := k
/-- the same heap but for the cells lo .. hi - 1 -/
def SO (hp hp2 : Hp) (lo hi : Nat) : Prop := hp2.1 = hp.1 ∧ ∀ x, x < lo ∨ hi ≤ x → hp2.2 x = hp.2 x
theorem SO.rf {hp : Hp} {lo hi : Nat} : SO hp hp lo hi := ⟨rfl, fun _ _ => rfl⟩
theorem SO.tr {hp hp2 hp3 : Hp} {lo hi : Nat} (h : SO hp hp2 lo hi) (h' : SO hp2 hp3 lo hi) : SO hp hp3 lo hi := ⟨h'.1.trans h.1, fun x hx => (h'.2 x hx).trans (h.2 x hx)⟩
theorem SO.set {hp hp2 : Hp} {lo hi a : Nat} {c : AC} (h : SO hp hp2 lo hi) (ha : lo ≤ a) (hb : a < hi) : SO hp (hset hp2 a c) lo hi := ⟨h.1, fun x hx => (hset_ne (by omega)).trans (h.2 x hx)⟩
theorem SO.wide {hp hp2 : Hp} {lo hi lo' hi' : Nat} (h : SO hp hp2 lo hi) (a : lo' ≤ lo) (b : hi ≤ hi') : SO hp hp2 lo' hi' := ⟨h.1, fun x hx => h.2 x (by omega)⟩
end NU
