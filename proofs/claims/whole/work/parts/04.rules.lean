section RU
variable {g : GT} {M : MI} {R : Room} {Q : Option Value → Hp → Prop} {k n pc : Nat} {ls : List (Option Value)} {st : List Value} {hp : Hp}
theorem I_add (a b : Int) : I a + I b = I (a + b) := by simp only [I, Int32.ofInt_add]
theorem I_sub (a b : Int) : I a - I b = I (a - b) := by simp only [I, Int32.ofInt_sub]
theorem I_mul (a b : Int) : I a * I b = I (a * b) := by simp only [I, Int32.ofInt_mul]
theorem I_neg (a : Int) : - I a = I (- a) := by simp only [I, Int32.ofInt_neg]
theorem J_add (a b : Int) : J a + J b = J (a + b) := by simp only [J, Int64.ofInt_add]
theorem J_sub (a b : Int) : J a - J b = J (a - b) := by simp only [J, Int64.ofInt_sub]
theorem J_mul (a b : Int) : J a * J b = J (a * b) := by simp only [J, Int64.ofInt_mul]
theorem I_toInt {a : Int} (h : InR a) : (I a).toInt = a := by
  unfold I
  rw [Int32.toInt_ofInt_of_le (by omega) (by omega)]
theorem I_of (x : Int32) : x = I x.toInt := by simp [I]
theorem I_lt {a b : Int} (ha : InR a) (hb : InR b) : I a < I b ↔ a < b := by rw [Int32.lt_iff_toInt_lt, I_toInt ha, I_toInt hb]
theorem I_le {a b : Int} (ha : InR a) (hb : InR b) : I a ≤ I b ↔ a ≤ b := by rw [Int32.le_iff_toInt_le, I_toInt ha, I_toInt hb]
theorem I_eq {a b : Int} (ha : InR a) (hb : InR b) : I a = I b ↔ a = b := by
  constructor
  · intro h
    rw [← I_toInt ha, ← I_toInt hb, h]
  · intro h
    rw [h]
theorem I_0 : I 0 = 0 := rfl
theorem B_t {c : Prop} [Decidable c] (h : c) : B c = 1 := if_pos h
theorem B_f {c : Prop} [Decidable c] (h : ¬ c) : B c = 0 := if_neg h
theorem B_I (c : Prop) [Decidable c] : B c = I (if c then 1 else 0) := by
  by_cases h : c
  · rw [B_t h, if_pos h]; rfl
  · rw [B_f h, if_neg h]; rfl
theorem B_eq0 (c : Prop) [Decidable c] : B c = 0 ↔ ¬ c := by
  by_cases h : c
  · rw [B_t h]; exact ⟨fun z => absurd z (by decide), fun z => absurd h z⟩
  · rw [B_f h]; exact ⟨fun _ => h, fun _ => rfl⟩
theorem B_eq (c d : Prop) [Decidable c] [Decidable d] : B c = B d ↔ (c ↔ d) := by
  by_cases h : c <;> by_cases h' : d <;> simp [B, h, h']

theorem wp_iconst {z : Int} (d : decode M.2.1 pc = .ok (.iconst z, 1)) (h : wp g M R Q k n (pc + 1) ls (.int (I z) :: st) hp) : wp g M R Q k n pc ls st hp := by
  intro p e s m args below meth c H locs lsA C P L A
  exact lv_iconst C.1 C.2.1 d rfl (h p e s m args below meth c H locs lsA C P L A)
theorem wp_bipush {z y : Int} (d : decode M.2.1 pc = .ok (.bipush z, 2)) (hz : (Int8.ofInt z).toInt32 = I y) (h : wp g M R Q k n (pc + 2) ls (.int (I y) :: st) hp) : wp g M R Q k n pc ls st hp := by
  intro p e s m args below meth c H locs lsA C P L A
  exact lv_bipush C.1 C.2.1 d hz (h p e s m args below meth c H locs lsA C P L A)
theorem wp_sipush {z y : Int} (d : decode M.2.1 pc = .ok (.sipush z, 3)) (hz : (Int16.ofInt z).toInt32 = I y) (h : wp g M R Q k n (pc + 3) ls (.int (I y) :: st) hp) : wp g M R Q k n pc ls st hp := by
  intro p e s m args below meth c H locs lsA C P L A
  exact lv_sipush C.1 C.2.1 d hz (h p e s m args below meth c H locs lsA C P L A)
theorem wp_lconst {z : Fin 2} (d : decode M.2.1 pc = .ok (.lconst z, 1)) (h : wp g M R Q k n (pc + 1) ls (.long (J (z : Nat)) :: st) hp) : wp g M R Q k n pc ls st hp := by
  intro p e s m args below meth c H locs lsA C P L A
  exact lv_lconst C.1 C.2.1 d (by unfold J; rfl) (h p e s m args below meth c H locs lsA C P L A)
theorem wp_ldc {idx : Nat} {y : Int} (d : decode M.2.1 pc = .ok (.ldc idx, 2)) (hc : Cond.constant M.1.cls idx (I y) ∈ gt) (h : wp g M R Q k n (pc + 2) ls (.int (I y) :: st) hp) : wp g M R Q k n pc ls st hp := by
  intro p e s m args below meth c H locs lsA C P L A
  exact lv_ldc C.1 C.2.1 C.2.2.2.2.1 (C.2.2.2.2.2.1 _ hc) d (h p e s m args below meth c H locs lsA C P L A)
theorem wp_ldcw {idx : Nat} {y : Int} (d : decode M.2.1 pc = .ok (.ldc_w idx, 3)) (hc : Cond.constant M.1.cls idx (I y) ∈ gt) (h : wp g M R Q k n (pc + 3) ls (.int (I y) :: st) hp) : wp g M R Q k n pc ls st hp := by
  intro p e s m args below meth c H locs lsA C P L A
  exact lv_ldcw C.1 C.2.1 C.2.2.2.2.1 (C.2.2.2.2.2.1 _ hc) d (h p e s m args below meth c H locs lsA C P L A)
theorem wp_ldc2 {idx : Nat} {y : Int} (d : decode M.2.1 pc = .ok (.ldc2_w idx, 3)) (hc : Cond.constantLong M.1.cls idx (J y) ∈ gt) (h : wp g M R Q k n (pc + 3) ls (.long (J y) :: st) hp) : wp g M R Q k n pc ls st hp := by
  intro p e s m args below meth c H locs lsA C P L A
  exact lv_ldc2 C.1 C.2.1 C.2.2.2.2.1 (C.2.2.2.2.2.1 _ hc) d (h p e s m args below meth c H locs lsA C P L A)
theorem wp_iload_n {z : Fin 4} {x : Int32} (d : decode M.2.1 pc = .ok (.iload_n z, 1)) (hl : ls[(z : Nat)]? = some (some (.int x))) (h : wp g M R Q k n (pc + 1) ls (.int x :: st) hp) : wp g M R Q k n pc ls st hp := by
  intro p e s m args below meth c H locs lsA C P L A
  exact lv_iload_n C.1 C.2.1 d rfl (A.2.2 _ _ hl) (h p e s m args below meth c H locs lsA C P L A)
theorem wp_iload {i : Nat} {x : Int32} (d : decode M.2.1 pc = .ok (.iload i, 2)) (hl : ls[i]? = some (some (.int x))) (h : wp g M R Q k n (pc + 2) ls (.int x :: st) hp) : wp g M R Q k n pc ls st hp := by
  intro p e s m args below meth c H locs lsA C P L A
  exact lv_iload C.1 C.2.1 d (A.2.2 _ _ hl) (h p e s m args below meth c H locs lsA C P L A)
theorem wp_istore_n {z : Fin 4} {x : Int32} (d : decode M.2.1 pc = .ok (.istore_n z, 1)) (hn : (z : Nat) < M.2.2.1) (h : wp g M R Q k n (pc + 1) (st1 ls z (.int x)) st hp) : wp g M R Q k n pc ls (.int x :: st) hp := by
  intro p e s m args below meth c H locs lsA C P L A
  exact lv_istore_n C.1 C.2.1 d rfl A.has hn rfl (fun lsB hB => h p e s m args below meth c H locs lsB C P L (LR_st1 (v := .int x) hB))
theorem wp_istore {i : Nat} {x : Int32} (d : decode M.2.1 pc = .ok (.istore i, 2)) (hn : i < M.2.2.1) (h : wp g M R Q k n (pc + 2) (st1 ls i (.int x)) st hp) : wp g M R Q k n pc ls (.int x :: st) hp := by
  intro p e s m args below meth c H locs lsA C P L A
  exact lv_istore C.1 C.2.1 d A.has hn rfl (fun lsB hB => h p e s m args below meth c H locs lsB C P L (LR_st1 (v := .int x) hB))
theorem wp_lload_n {z : Fin 4} {x : Int64} (d : decode M.2.1 pc = .ok (.lload_n z, 1)) (hl : ls[(z : Nat)]? = some (some (.long x))) (h : wp g M R Q k n (pc + 1) ls (.long x :: st) hp) : wp g M R Q k n pc ls st hp := by
  intro p e s m args below meth c H locs lsA C P L A
  exact lv_lload_n C.1 C.2.1 d rfl (A.2.2 _ _ hl) (h p e s m args below meth c H locs lsA C P L A)
theorem wp_lload {i : Nat} {x : Int64} (d : decode M.2.1 pc = .ok (.lload i, 2)) (hl : ls[i]? = some (some (.long x))) (h : wp g M R Q k n (pc + 2) ls (.long x :: st) hp) : wp g M R Q k n pc ls st hp := by
  intro p e s m args below meth c H locs lsA C P L A
  exact lv_lload C.1 C.2.1 d (A.2.2 _ _ hl) (h p e s m args below meth c H locs lsA C P L A)
theorem wp_lstore_n {z : Fin 4} {x : Int64} (d : decode M.2.1 pc = .ok (.lstore_n z, 1)) (hn : (z : Nat) + 1 < M.2.2.1) (h : wp g M R Q k n (pc + 1) (st2 ls z (.long x)) st hp) : wp g M R Q k n pc ls (.long x :: st) hp := by
  intro p e s m args below meth c H locs lsA C P L A
  exact lv_lstore_n C.1 C.2.1 d rfl A.has hn rfl (fun lsB hB => h p e s m args below meth c H locs lsB C P L (LR_st2 (v := .long x) hB))
theorem wp_lstore {i : Nat} {x : Int64} (d : decode M.2.1 pc = .ok (.lstore i, 2)) (hn : i + 1 < M.2.2.1) (h : wp g M R Q k n (pc + 2) (st2 ls i (.long x)) st hp) : wp g M R Q k n pc ls (.long x :: st) hp := by
  intro p e s m args below meth c H locs lsA C P L A
  exact lv_lstore C.1 C.2.1 d A.has hn rfl (fun lsB hB => h p e s m args below meth c H locs lsB C P L (LR_st2 (v := .long x) hB))
theorem wp_aload_n {z : Fin 4} {x : Nat} (d : decode M.2.1 pc = .ok (.aload_n z, 1)) (hl : ls[(z : Nat)]? = some (some (.ref x))) (h : wp g M R Q k n (pc + 1) ls (.ref x :: st) hp) : wp g M R Q k n pc ls st hp := by
  intro p e s m args below meth c H locs lsA C P L A
  exact lv_aload_n C.1 C.2.1 d rfl (A.2.2 _ _ hl) (h p e s m args below meth c H locs lsA C P L A)
theorem wp_aload {i : Nat} {x : Nat} (d : decode M.2.1 pc = .ok (.aload i, 2)) (hl : ls[i]? = some (some (.ref x))) (h : wp g M R Q k n (pc + 2) ls (.ref x :: st) hp) : wp g M R Q k n pc ls st hp := by
  intro p e s m args below meth c H locs lsA C P L A
  exact lv_aload C.1 C.2.1 d (A.2.2 _ _ hl) (h p e s m args below meth c H locs lsA C P L A)
theorem wp_astore_n {z : Fin 4} {x : Nat} (d : decode M.2.1 pc = .ok (.astore_n z, 1)) (hn : (z : Nat) < M.2.2.1) (h : wp g M R Q k n (pc + 1) (st1 ls z (.ref x)) st hp) : wp g M R Q k n pc ls (.ref x :: st) hp := by
  intro p e s m args below meth c H locs lsA C P L A
  exact lv_astore_n C.1 C.2.1 d rfl A.has hn rfl (fun lsB hB => h p e s m args below meth c H locs lsB C P L (LR_st1 (v := .ref x) hB))
theorem wp_astore {i : Nat} {x : Nat} (d : decode M.2.1 pc = .ok (.astore i, 2)) (hn : i < M.2.2.1) (h : wp g M R Q k n (pc + 2) (st1 ls i (.ref x)) st hp) : wp g M R Q k n pc ls (.ref x :: st) hp := by
  intro p e s m args below meth c H locs lsA C P L A
  exact lv_astore C.1 C.2.1 d A.has hn rfl (fun lsB hB => h p e s m args below meth c H locs lsB C P L (LR_st1 (v := .ref x) hB))
theorem wp_iinc {i : Nat} {z a : Int} (d : decode M.2.1 pc = .ok (.iinc i z, 3)) (hl : ls[i]? = some (some (.int (I a)))) (hn : i < M.2.2.1) (h : wp g M R Q k n (pc + 3) (st1 ls i (.int (I (a + z)))) st hp) : wp g M R Q k n pc ls st hp := by
  intro p e s m args below meth c H locs lsA C P L A
  obtain ⟨j, hj⟩ := List.getElem?_of_mem (al_mem (g := g) hl)
  exact lv_iinc (v := I (a + z)) C.1 C.2.1 d A.has (k := j) hj (by rw [← I_add]; rfl) hn rfl (fun lsB hB => h p e s m args below meth c H locs lsB C P L (LR_st1 (v := .int (I (a + z))) hB))
theorem wp_iadd {a b : Int} (d : decode M.2.1 pc = .ok (.iadd, 1)) (h : wp g M R Q k n (pc + 1) ls (.int (I (a + b)) :: st) hp) : wp g M R Q k n pc ls (.int (I b) :: .int (I a) :: st) hp := by
  intro p e s m args below meth c H locs lsA C P L A
  refine lv_iadd C.1 C.2.1 d ?_
  rw [I_add]
  exact h p e s m args below meth c H locs lsA C P L A
theorem wp_isub {a b : Int} (d : decode M.2.1 pc = .ok (.isub, 1)) (h : wp g M R Q k n (pc + 1) ls (.int (I (a - b)) :: st) hp) : wp g M R Q k n pc ls (.int (I b) :: .int (I a) :: st) hp := by
  intro p e s m args below meth c H locs lsA C P L A
  refine lv_isub C.1 C.2.1 d ?_
  rw [I_sub]
  exact h p e s m args below meth c H locs lsA C P L A
theorem wp_imul {a b : Int} (d : decode M.2.1 pc = .ok (.imul, 1)) (h : wp g M R Q k n (pc + 1) ls (.int (I (a * b)) :: st) hp) : wp g M R Q k n pc ls (.int (I b) :: .int (I a) :: st) hp := by
  intro p e s m args below meth c H locs lsA C P L A
  refine lv_imul C.1 C.2.1 d ?_
  rw [I_mul]
  exact h p e s m args below meth c H locs lsA C P L A
theorem wp_ladd {a b : Int} (d : decode M.2.1 pc = .ok (.ladd, 1)) (h : wp g M R Q k n (pc + 1) ls (.long (J (a + b)) :: st) hp) : wp g M R Q k n pc ls (.long (J b) :: .long (J a) :: st) hp := by
  intro p e s m args below meth c H locs lsA C P L A
  refine lv_ladd C.1 C.2.1 d ?_
  rw [J_add]
  exact h p e s m args below meth c H locs lsA C P L A
theorem wp_lsub {a b : Int} (d : decode M.2.1 pc = .ok (.lsub, 1)) (h : wp g M R Q k n (pc + 1) ls (.long (J (a - b)) :: st) hp) : wp g M R Q k n pc ls (.long (J b) :: .long (J a) :: st) hp := by
  intro p e s m args below meth c H locs lsA C P L A
  refine lv_lsub C.1 C.2.1 d ?_
  rw [J_sub]
  exact h p e s m args below meth c H locs lsA C P L A
theorem wp_lmul {a b : Int} (d : decode M.2.1 pc = .ok (.lmul, 1)) (h : wp g M R Q k n (pc + 1) ls (.long (J (a * b)) :: st) hp) : wp g M R Q k n pc ls (.long (J b) :: .long (J a) :: st) hp := by
  intro p e s m args below meth c H locs lsA C P L A
  refine lv_lmul C.1 C.2.1 d ?_
  rw [J_mul]
  exact h p e s m args below meth c H locs lsA C P L A
theorem wp_iand {x y v : Int32} (d : decode M.2.1 pc = .ok (.iand, 1)) (hv : x &&& y = v) (h : wp g M R Q k n (pc + 1) ls (.int v :: st) hp) : wp g M R Q k n pc ls (.int y :: .int x :: st) hp := by
  intro p e s m args below meth c H locs lsA C P L A
  refine lv_iand C.1 C.2.1 d ?_
  rw [hv]
  exact h p e s m args below meth c H locs lsA C P L A
theorem wp_ior {x y v : Int32} (d : decode M.2.1 pc = .ok (.ior, 1)) (hv : x ||| y = v) (h : wp g M R Q k n (pc + 1) ls (.int v :: st) hp) : wp g M R Q k n pc ls (.int y :: .int x :: st) hp := by
  intro p e s m args below meth c H locs lsA C P L A
  refine lv_ior C.1 C.2.1 d ?_
  rw [hv]
  exact h p e s m args below meth c H locs lsA C P L A
theorem wp_ixor {x y v : Int32} (d : decode M.2.1 pc = .ok (.ixor, 1)) (hv : x ^^^ y = v) (h : wp g M R Q k n (pc + 1) ls (.int v :: st) hp) : wp g M R Q k n pc ls (.int y :: .int x :: st) hp := by
  intro p e s m args below meth c H locs lsA C P L A
  refine lv_ixor C.1 C.2.1 d ?_
  rw [hv]
  exact h p e s m args below meth c H locs lsA C P L A
theorem wp_ishl {x y v : Int32} (d : decode M.2.1 pc = .ok (.ishl, 1)) (hv : x <<< (y &&& 31) = v) (h : wp g M R Q k n (pc + 1) ls (.int v :: st) hp) : wp g M R Q k n pc ls (.int y :: .int x :: st) hp := by
  intro p e s m args below meth c H locs lsA C P L A
  refine lv_ishl C.1 C.2.1 d ?_
  rw [hv]
  exact h p e s m args below meth c H locs lsA C P L A
theorem wp_ishr {x y v : Int32} (d : decode M.2.1 pc = .ok (.ishr, 1)) (hv : x >>> (y &&& 31) = v) (h : wp g M R Q k n (pc + 1) ls (.int v :: st) hp) : wp g M R Q k n pc ls (.int y :: .int x :: st) hp := by
  intro p e s m args below meth c H locs lsA C P L A
  refine lv_ishr C.1 C.2.1 d ?_
  rw [hv]
  exact h p e s m args below meth c H locs lsA C P L A
theorem wp_iushr {x y v : Int32} (d : decode M.2.1 pc = .ok (.iushr, 1)) (hv : (x.toUInt32 >>> (y.toUInt32 &&& Int32.toUInt32 31)).toInt32 = v) (h : wp g M R Q k n (pc + 1) ls (.int v :: st) hp) : wp g M R Q k n pc ls (.int y :: .int x :: st) hp := by
  intro p e s m args below meth c H locs lsA C P L A
  exact lv_iushr C.1 C.2.1 d hv (h p e s m args below meth c H locs lsA C P L A)
theorem wp_idiv {x y v : Int32} (d : decode M.2.1 pc = .ok (.idiv, 1)) (hy : ¬ y = 0) (hv : x / y = v) (h : wp g M R Q k n (pc + 1) ls (.int v :: st) hp) : wp g M R Q k n pc ls (.int y :: .int x :: st) hp := by
  intro p e s m args below meth c H locs lsA C P L A
  refine lv_idiv C.1 C.2.1 d hy ?_
  rw [hv]
  exact h p e s m args below meth c H locs lsA C P L A
theorem wp_irem {x y v : Int32} (d : decode M.2.1 pc = .ok (.irem, 1)) (hy : ¬ y = 0) (hv : x - x / y * y = v) (h : wp g M R Q k n (pc + 1) ls (.int v :: st) hp) : wp g M R Q k n pc ls (.int y :: .int x :: st) hp := by
  intro p e s m args below meth c H locs lsA C P L A
  refine lv_irem C.1 C.2.1 d hy ?_
  rw [hv]
  exact h p e s m args below meth c H locs lsA C P L A
theorem wp_ldiv {x y v : Int64} (d : decode M.2.1 pc = .ok (.ldiv, 1)) (hy : ¬ y = 0) (hv : x / y = v) (h : wp g M R Q k n (pc + 1) ls (.long v :: st) hp) : wp g M R Q k n pc ls (.long y :: .long x :: st) hp := by
  intro p e s m args below meth c H locs lsA C P L A
  refine lv_ldiv C.1 C.2.1 d hy ?_
  rw [hv]
  exact h p e s m args below meth c H locs lsA C P L A
theorem wp_lrem {x y v : Int64} (d : decode M.2.1 pc = .ok (.lrem, 1)) (hy : ¬ y = 0) (hv : x - x / y * y = v) (h : wp g M R Q k n (pc + 1) ls (.long v :: st) hp) : wp g M R Q k n pc ls (.long y :: .long x :: st) hp := by
  intro p e s m args below meth c H locs lsA C P L A
  refine lv_lrem C.1 C.2.1 d hy ?_
  rw [hv]
  exact h p e s m args below meth c H locs lsA C P L A
theorem wp_ineg {a : Int} (d : decode M.2.1 pc = .ok (.ineg, 1)) (h : wp g M R Q k n (pc + 1) ls (.int (I (-a)) :: st) hp) : wp g M R Q k n pc ls (.int (I a) :: st) hp := by
  intro p e s m args below meth c H locs lsA C P L A
  refine lv_ineg C.1 C.2.1 d ?_
  rw [I_neg]
  exact h p e s m args below meth c H locs lsA C P L A
theorem wp_i2l {a : Int} (d : decode M.2.1 pc = .ok (.i2l, 1)) (hv : InR a) (h : wp g M R Q k n (pc + 1) ls (.long (J a) :: st) hp) : wp g M R Q k n pc ls (.int (I a) :: st) hp := by
  intro p e s m args below meth c H locs lsA C P L A
  refine lv_i2l C.1 C.2.1 d (v := J a) ?_ (h p e s m args below meth c H locs lsA C P L A)
  rw [← Int64.toInt_inj, Int32.toInt_toInt64, I_toInt hv]
  unfold J
  rw [Int64.toInt_ofInt_of_le (by omega) (by omega)]
theorem wp_i2b {x v : Int32} (d : decode M.2.1 pc = .ok (.i2b, 1)) (hv : x.toInt8.toInt32 = v) (h : wp g M R Q k n (pc + 1) ls (.int v :: st) hp) : wp g M R Q k n pc ls (.int x :: st) hp := by
  intro p e s m args below meth c H locs lsA C P L A
  exact lv_i2b C.1 C.2.1 d hv (h p e s m args below meth c H locs lsA C P L A)
theorem wp_i2s {x v : Int32} (d : decode M.2.1 pc = .ok (.i2s, 1)) (hv : x.toInt16.toInt32 = v) (h : wp g M R Q k n (pc + 1) ls (.int v :: st) hp) : wp g M R Q k n pc ls (.int x :: st) hp := by
  intro p e s m args below meth c H locs lsA C P L A
  exact lv_i2s C.1 C.2.1 d hv (h p e s m args below meth c H locs lsA C P L A)
theorem wp_lcmp {x y : Int64} {v : Int32} (d : decode M.2.1 pc = .ok (.lcmp, 1)) (hv : lg_cmp x y = v) (h : wp g M R Q k n (pc + 1) ls (.int v :: st) hp) : wp g M R Q k n pc ls (.long y :: .long x :: st) hp := by
  intro p e s m args below meth c H locs lsA C P L A
  refine W.lcmp C.1 C.2.1 d ?_
  rw [hv]
  exact h p e s m args below meth c H locs lsA C P L A
theorem wp_dup {v : Value} (d : decode M.2.1 pc = .ok (.dup, 1)) (hv : v.category = 1) (h : wp g M R Q k n (pc + 1) ls (v :: v :: st) hp) : wp g M R Q k n pc ls (v :: st) hp := by
  intro p e s m args below meth c H locs lsA C P L A
  exact lv_dup C.1 C.2.1 d (by rw [cv_cat]; exact hv) (h p e s m args below meth c H locs lsA C P L A)
theorem wp_pop {v : Value} (d : decode M.2.1 pc = .ok (.pop, 1)) (hv : v.category = 1) (h : wp g M R Q k n (pc + 1) ls st hp) : wp g M R Q k n pc ls (v :: st) hp := by
  intro p e s m args below meth c H locs lsA C P L A
  exact lv_pop C.1 C.2.1 d (va := cv g v) (by rw [cv_cat]; exact hv) (h p e s m args below meth c H locs lsA C P L A)
theorem wp_dup_x1 {v w : Value} (d : decode M.2.1 pc = .ok (.dup_x1, 1)) (hv : v.category = 1) (hw : w.category = 1) (h : wp g M R Q k n (pc + 1) ls (v :: w :: v :: st) hp) : wp g M R Q k n pc ls (v :: w :: st) hp := by
  intro p e s m args below meth c H locs lsA C P L A
  exact lv_dup_x1 C.1 C.2.1 d (by rw [cv_cat]; exact hv) (by rw [cv_cat]; exact hw) (h p e s m args below meth c H locs lsA C P L A)
theorem wp_dup2 {v w : Value} (d : decode M.2.1 pc = .ok (.dup2, 1)) (hv : v.category = 1) (hw : w.category = 1) (h : wp g M R Q k n (pc + 1) ls (v :: w :: v :: w :: st) hp) : wp g M R Q k n pc ls (v :: w :: st) hp := by
  intro p e s m args below meth c H locs lsA C P L A
  exact lv_dup2_11 C.1 C.2.1 d (by rw [cv_cat]; exact hv) (by rw [cv_cat]; exact hw) (h p e s m args below meth c H locs lsA C P L A)
theorem wp_dup2l {v : Value} (d : decode M.2.1 pc = .ok (.dup2, 1)) (hv : v.category = 2) (h : wp g M R Q k n (pc + 1) ls (v :: v :: st) hp) : wp g M R Q k n pc ls (v :: st) hp := by
  intro p e s m args below meth c H locs lsA C P L A
  exact lv_dup2_2 C.1 C.2.1 d (by rw [cv_cat]; exact hv) (h p e s m args below meth c H locs lsA C P L A)
theorem wp_goto {off : Int} (tgt : Nat) (d : decode M.2.1 pc = .ok (.goto off, 3)) (ht : (pc : Int) + off = (tgt : Int)) (h : wp g M R Q k n tgt ls st hp) : wp g M R Q k n pc ls st hp := by
  intro p e s m args below meth c H locs lsA C P L A
  exact lv_goto C.1 C.2.1 d ht (h p e s m args below meth c H locs lsA C P L A)
theorem wp_icmp_eq {a b off : Int} (tgt : Nat) (d : decode M.2.1 pc = .ok (.if_icmp .eq off, 3)) (ht : (pc : Int) + off = (tgt : Int)) (ra : InR a) (rb : InR b) (hT : a = b → wp g M R Q k n tgt ls st hp) (hF : ¬ (a = b) → wp g M R Q k n (pc + 3) ls st hp) : wp g M R Q k n pc ls (.int (I b) :: .int (I a) :: st) hp := by
  intro p e s m args below meth c H locs lsA C P L A
  exact lv_icmp_eq C.1 C.2.1 d ht (fun z => hT ((I_eq ra rb).mp z) p e s m args below meth c H locs lsA C P L A) (fun z => hF (fun y => z ((I_eq ra rb).mpr y)) p e s m args below meth c H locs lsA C P L A)
theorem wp_if_eq {a off : Int} (tgt : Nat) (d : decode M.2.1 pc = .ok (.ifCond .eq off, 3)) (ht : (pc : Int) + off = (tgt : Int)) (ra : InR a) (hT : a = 0 → wp g M R Q k n tgt ls st hp) (hF : ¬ (a = 0) → wp g M R Q k n (pc + 3) ls st hp) : wp g M R Q k n pc ls (.int (I a) :: st) hp := by
  intro p e s m args below meth c H locs lsA C P L A
  have rb : InR 0 := by omega
  exact lv_if_eq C.1 C.2.1 d ht (fun z => hT ((I_eq ra rb).mp z) p e s m args below meth c H locs lsA C P L A) (fun z => hF (fun y => z ((I_eq ra rb).mpr y)) p e s m args below meth c H locs lsA C P L A)
theorem wp_icmp_ne {a b off : Int} (tgt : Nat) (d : decode M.2.1 pc = .ok (.if_icmp .ne off, 3)) (ht : (pc : Int) + off = (tgt : Int)) (ra : InR a) (rb : InR b) (hT : ¬ (a = b) → wp g M R Q k n tgt ls st hp) (hF : a = b → wp g M R Q k n (pc + 3) ls st hp) : wp g M R Q k n pc ls (.int (I b) :: .int (I a) :: st) hp := by
  intro p e s m args below meth c H locs lsA C P L A
  exact lv_icmp_ne C.1 C.2.1 d ht (fun z => hT (fun y => z ((I_eq ra rb).mpr y)) p e s m args below meth c H locs lsA C P L A) (fun z => hF ((I_eq ra rb).mp z) p e s m args below meth c H locs lsA C P L A)
theorem wp_if_ne {a off : Int} (tgt : Nat) (d : decode M.2.1 pc = .ok (.ifCond .ne off, 3)) (ht : (pc : Int) + off = (tgt : Int)) (ra : InR a) (hT : ¬ (a = 0) → wp g M R Q k n tgt ls st hp) (hF : a = 0 → wp g M R Q k n (pc + 3) ls st hp) : wp g M R Q k n pc ls (.int (I a) :: st) hp := by
  intro p e s m args below meth c H locs lsA C P L A
  have rb : InR 0 := by omega
  exact lv_if_ne C.1 C.2.1 d ht (fun z => hT (fun y => z ((I_eq ra rb).mpr y)) p e s m args below meth c H locs lsA C P L A) (fun z => hF ((I_eq ra rb).mp z) p e s m args below meth c H locs lsA C P L A)
theorem wp_icmp_lt {a b off : Int} (tgt : Nat) (d : decode M.2.1 pc = .ok (.if_icmp .lt off, 3)) (ht : (pc : Int) + off = (tgt : Int)) (ra : InR a) (rb : InR b) (hT : a < b → wp g M R Q k n tgt ls st hp) (hF : ¬ (a < b) → wp g M R Q k n (pc + 3) ls st hp) : wp g M R Q k n pc ls (.int (I b) :: .int (I a) :: st) hp := by
  intro p e s m args below meth c H locs lsA C P L A
  exact lv_icmp_lt C.1 C.2.1 d ht (fun z => hT ((I_lt ra rb).mp z) p e s m args below meth c H locs lsA C P L A) (fun z => hF (fun y => z ((I_lt ra rb).mpr y)) p e s m args below meth c H locs lsA C P L A)
theorem wp_if_lt {a off : Int} (tgt : Nat) (d : decode M.2.1 pc = .ok (.ifCond .lt off, 3)) (ht : (pc : Int) + off = (tgt : Int)) (ra : InR a) (hT : a < 0 → wp g M R Q k n tgt ls st hp) (hF : ¬ (a < 0) → wp g M R Q k n (pc + 3) ls st hp) : wp g M R Q k n pc ls (.int (I a) :: st) hp := by
  intro p e s m args below meth c H locs lsA C P L A
  have rb : InR 0 := by omega
  exact lv_if_lt C.1 C.2.1 d ht (fun z => hT ((I_lt ra rb).mp z) p e s m args below meth c H locs lsA C P L A) (fun z => hF (fun y => z ((I_lt ra rb).mpr y)) p e s m args below meth c H locs lsA C P L A)
theorem wp_icmp_ge {a b off : Int} (tgt : Nat) (d : decode M.2.1 pc = .ok (.if_icmp .ge off, 3)) (ht : (pc : Int) + off = (tgt : Int)) (ra : InR a) (rb : InR b) (hT : b ≤ a → wp g M R Q k n tgt ls st hp) (hF : ¬ (b ≤ a) → wp g M R Q k n (pc + 3) ls st hp) : wp g M R Q k n pc ls (.int (I b) :: .int (I a) :: st) hp := by
  intro p e s m args below meth c H locs lsA C P L A
  exact lv_icmp_ge C.1 C.2.1 d ht (fun z => hT ((I_le rb ra).mp z) p e s m args below meth c H locs lsA C P L A) (fun z => hF (fun y => z ((I_le rb ra).mpr y)) p e s m args below meth c H locs lsA C P L A)
theorem wp_if_ge {a off : Int} (tgt : Nat) (d : decode M.2.1 pc = .ok (.ifCond .ge off, 3)) (ht : (pc : Int) + off = (tgt : Int)) (ra : InR a) (hT : 0 ≤ a → wp g M R Q k n tgt ls st hp) (hF : ¬ (0 ≤ a) → wp g M R Q k n (pc + 3) ls st hp) : wp g M R Q k n pc ls (.int (I a) :: st) hp := by
  intro p e s m args below meth c H locs lsA C P L A
  have rb : InR 0 := by omega
  exact lv_if_ge C.1 C.2.1 d ht (fun z => hT ((I_le rb ra).mp z) p e s m args below meth c H locs lsA C P L A) (fun z => hF (fun y => z ((I_le rb ra).mpr y)) p e s m args below meth c H locs lsA C P L A)
theorem wp_icmp_gt {a b off : Int} (tgt : Nat) (d : decode M.2.1 pc = .ok (.if_icmp .gt off, 3)) (ht : (pc : Int) + off = (tgt : Int)) (ra : InR a) (rb : InR b) (hT : b < a → wp g M R Q k n tgt ls st hp) (hF : ¬ (b < a) → wp g M R Q k n (pc + 3) ls st hp) : wp g M R Q k n pc ls (.int (I b) :: .int (I a) :: st) hp := by
  intro p e s m args below meth c H locs lsA C P L A
  exact lv_icmp_gt C.1 C.2.1 d ht (fun z => hT ((I_lt rb ra).mp z) p e s m args below meth c H locs lsA C P L A) (fun z => hF (fun y => z ((I_lt rb ra).mpr y)) p e s m args below meth c H locs lsA C P L A)
theorem wp_if_gt {a off : Int} (tgt : Nat) (d : decode M.2.1 pc = .ok (.ifCond .gt off, 3)) (ht : (pc : Int) + off = (tgt : Int)) (ra : InR a) (hT : 0 < a → wp g M R Q k n tgt ls st hp) (hF : ¬ (0 < a) → wp g M R Q k n (pc + 3) ls st hp) : wp g M R Q k n pc ls (.int (I a) :: st) hp := by
  intro p e s m args below meth c H locs lsA C P L A
  have rb : InR 0 := by omega
  exact lv_if_gt C.1 C.2.1 d ht (fun z => hT ((I_lt rb ra).mp z) p e s m args below meth c H locs lsA C P L A) (fun z => hF (fun y => z ((I_lt rb ra).mpr y)) p e s m args below meth c H locs lsA C P L A)
theorem wp_icmp_le {a b off : Int} (tgt : Nat) (d : decode M.2.1 pc = .ok (.if_icmp .le off, 3)) (ht : (pc : Int) + off = (tgt : Int)) (ra : InR a) (rb : InR b) (hT : a ≤ b → wp g M R Q k n tgt ls st hp) (hF : ¬ (a ≤ b) → wp g M R Q k n (pc + 3) ls st hp) : wp g M R Q k n pc ls (.int (I b) :: .int (I a) :: st) hp := by
  intro p e s m args below meth c H locs lsA C P L A
  exact lv_icmp_le C.1 C.2.1 d ht (fun z => hT ((I_le ra rb).mp z) p e s m args below meth c H locs lsA C P L A) (fun z => hF (fun y => z ((I_le ra rb).mpr y)) p e s m args below meth c H locs lsA C P L A)
theorem wp_if_le {a off : Int} (tgt : Nat) (d : decode M.2.1 pc = .ok (.ifCond .le off, 3)) (ht : (pc : Int) + off = (tgt : Int)) (ra : InR a) (hT : a ≤ 0 → wp g M R Q k n tgt ls st hp) (hF : ¬ (a ≤ 0) → wp g M R Q k n (pc + 3) ls st hp) : wp g M R Q k n pc ls (.int (I a) :: st) hp := by
  intro p e s m args below meth c H locs lsA C P L A
  have rb : InR 0 := by omega
  exact lv_if_le C.1 C.2.1 d ht (fun z => hT ((I_le ra rb).mp z) p e s m args below meth c H locs lsA C P L A) (fun z => hF (fun y => z ((I_le ra rb).mpr y)) p e s m args below meth c H locs lsA C P L A)
theorem wp_ifb_eq {q : Prop} [Decidable q] {off : Int} (tgt : Nat) (d : decode M.2.1 pc = .ok (.ifCond .eq off, 3)) (ht : (pc : Int) + off = (tgt : Int)) (hT : ¬ q → wp g M R Q k n tgt ls st hp) (hF : q → wp g M R Q k n (pc + 3) ls st hp) : wp g M R Q k n pc ls (.int (B q) :: st) hp := by
  intro p e s m args below meth c H locs lsA C P L A
  exact lv_if_eq C.1 C.2.1 d ht (fun z => hT ((B_eq0 q).mp z) p e s m args below meth c H locs lsA C P L A) (fun z => hF (Classical.byContradiction fun y => z ((B_eq0 q).mpr y)) p e s m args below meth c H locs lsA C P L A)
theorem wp_ifb_ne {q : Prop} [Decidable q] {off : Int} (tgt : Nat) (d : decode M.2.1 pc = .ok (.ifCond .ne off, 3)) (ht : (pc : Int) + off = (tgt : Int)) (hT : q → wp g M R Q k n tgt ls st hp) (hF : ¬ q → wp g M R Q k n (pc + 3) ls st hp) : wp g M R Q k n pc ls (.int (B q) :: st) hp := by
  intro p e s m args below meth c H locs lsA C P L A
  exact lv_if_ne C.1 C.2.1 d ht (fun z => hT (Classical.byContradiction fun y => z ((B_eq0 q).mpr y)) p e s m args below meth c H locs lsA C P L A) (fun z => hF ((B_eq0 q).mp z) p e s m args below meth c H locs lsA C P L A)
theorem wp_icmpx_eq {x y : Int32} {off : Int} (tgt : Nat) (d : decode M.2.1 pc = .ok (.if_icmp .eq off, 3)) (ht : (pc : Int) + off = (tgt : Int)) (hT : x = y → wp g M R Q k n tgt ls st hp) (hF : ¬ x = y → wp g M R Q k n (pc + 3) ls st hp) : wp g M R Q k n pc ls (.int y :: .int x :: st) hp := by
  intro p e s m args below meth c H locs lsA C P L A
  exact lv_icmp_eq C.1 C.2.1 d ht (fun z => hT z p e s m args below meth c H locs lsA C P L A) (fun z => hF z p e s m args below meth c H locs lsA C P L A)
theorem wp_icmpx_ne {x y : Int32} {off : Int} (tgt : Nat) (d : decode M.2.1 pc = .ok (.if_icmp .ne off, 3)) (ht : (pc : Int) + off = (tgt : Int)) (hT : ¬ x = y → wp g M R Q k n tgt ls st hp) (hF : x = y → wp g M R Q k n (pc + 3) ls st hp) : wp g M R Q k n pc ls (.int y :: .int x :: st) hp := by
  intro p e s m args below meth c H locs lsA C P L A
  exact lv_icmp_ne C.1 C.2.1 d ht (fun z => hT z p e s m args below meth c H locs lsA C P L A) (fun z => hF z p e s m args below meth c H locs lsA C P L A)
theorem wp_ifnull {a : Nat} {off : Int} (d : decode M.2.1 pc = .ok (.ifnull off, 3)) (h : wp g M R Q k n (pc + 3) ls st hp) : wp g M R Q k n pc ls (.ref a :: st) hp := by
  intro p e s m args below meth c H locs lsA C P L A
  exact lv_ifnull C.1 C.2.1 d (h p e s m args below meth c H locs lsA C P L A)
theorem wp_tswOut {dflt lo hi : Int} {offs : Array Int} {len : Nat} {a : Int} (tgt : Nat) (d : decode M.2.1 pc = .ok (.tableswitch dflt lo hi offs, len)) (ra : InR a) (ho : a < lo ∨ hi < a) (ht : (pc : Int) + dflt = (tgt : Int)) (h : wp g M R Q k n tgt ls st hp) : wp g M R Q k n pc ls (.int (I a) :: st) hp := by
  intro p e s m args below meth c H locs lsA C P L A
  exact lv_tableOut C.1 C.2.1 d (by rw [I_toInt ra]; exact ho) ht (h p e s m args below meth c H locs lsA C P L A)
theorem wp_tswIn {dflt lo hi : Int} {offs : Array Int} {len : Nat} {a off : Int} (tgt : Nat) (d : decode M.2.1 pc = .ok (.tableswitch dflt lo hi offs, len)) (ra : InR a) (h1 : ¬ a < lo) (h2 : ¬ hi < a) (ho : offs[(a - lo).toNat]? = some off) (ht : (pc : Int) + off = (tgt : Int)) (h : wp g M R Q k n tgt ls st hp) : wp g M R Q k n pc ls (.int (I a) :: st) hp := by
  intro p e s m args below meth c H locs lsA C P L A
  exact lv_tableIn C.1 C.2.1 d (by rw [I_toInt ra]; exact h1) (by rw [I_toInt ra]; exact h2) (by rw [I_toInt ra]; exact ho) ht (h p e s m args below meth c H locs lsA C P L A)
theorem wp_lsw {dflt : Int} {ps : Array (Int × Int)} {len : Nat} {a off : Int} (tgt : Nat) (d : decode M.2.1 pc = .ok (.lookupswitch dflt ps, len)) (hp1 : (ps.toList.zip (ps.toList.drop 1)).all (fun (a, next) => a.1 < next.1) = true) (ra : InR a) (ho : Op.lookupswitch.offset ps.toList dflt a = off) (ht : (pc : Int) + off = (tgt : Int)) (h : wp g M R Q k n tgt ls st hp) : wp g M R Q k n pc ls (.int (I a) :: st) hp := by
  intro p e s m args below meth c H locs lsA C P L A
  exact lv_lookup C.1 C.2.1 d hp1 (by rw [I_toInt ra]; exact ho) ht (h p e s m args below meth c H locs lsA C P L A)
theorem QcOf.mk {st t : State} {a : Array Value} {v : Option Value} {H : Heap} (hq : Q v hp) (P : Rep g st hp H) (ht : t.heap = H) (hW : st.WarmedH t.vm) : QcOf g Q a st (.returned (v.map (cv g))) t := ⟨v, hp, rfl, hq, by rw [ht]; exact P.moved hW.alike⟩
theorem wp_ireturn {x : Int32} (d : decode M.2.1 pc = .ok (.ireturn, 1)) (hr : M.2.2.2 = some .int) (hk : k ≤ R.cells) (hn : n ≤ R.slots) (h : Q (some (.int x)) hp) : wp g M R Q k n pc ls [.int x] hp := by
  intro p e s m args below meth c H locs lsA C P L A
  refine W.widen hk hn ?_
  exact W.iret C.1 C.2.1 (by rw [C.2.2.2.1]; exact hr) (fun t ht hW => QcOf.mk h P ht hW) L d C.2.2.2.2.2.2.1
theorem wp_zreturn {q : Prop} [Decidable q] (d : decode M.2.1 pc = .ok (.ireturn, 1)) (hr : M.2.2.2 = some .boolean) (hk : k ≤ R.cells) (hn : n ≤ R.slots) (h : Q (some (.int (B q))) hp) : wp g M R Q k n pc ls [.int (B q)] hp := by
  intro p e s m args below meth c H locs lsA C P L A
  refine W.widen hk hn ?_
  refine W.zret C.1 C.2.1 (by rw [C.2.2.2.1]; exact hr) ?_ (fun t ht hW => QcOf.mk h P ht hW) L d C.2.2.2.2.2.2.1
  by_cases z : q
  · rw [B_t z]; rfl
  · rw [B_f z]; rfl
theorem wp_lreturn {x : Int64} (d : decode M.2.1 pc = .ok (.lreturn, 1)) (hr : M.2.2.2 = some .long) (hk : k ≤ R.cells) (hn : n ≤ R.slots) (h : Q (some (.long x)) hp) : wp g M R Q k n pc ls [.long x] hp := by
  intro p e s m args below meth c H locs lsA C P L A
  refine W.widen hk hn ?_
  exact W.lret C.1 C.2.1 (by rw [C.2.2.2.1]; exact hr) (fun t ht hW => QcOf.mk h P ht hW) L d C.2.2.2.2.2.2.1
theorem wp_return (d : decode M.2.1 pc = .ok (.return_, 1)) (hr : M.2.2.2 = none) (hk : k ≤ R.cells) (hn : n ≤ R.slots) (h : Q none hp) : wp g M R Q k n pc ls [] hp := by
  intro p e s m args below meth c H locs lsA C P L A
  refine W.widen hk hn ?_
  exact W.vret C.1 C.2.1 (by rw [C.2.2.2.1]; exact hr) (fun t ht hW => QcOf.mk h P ht hW) L d C.2.2.2.2.2.2.1
def LE : List (Option Value) → List (Option Value) → Prop
  | [], _ => True
  | none :: t, _ :: u => LE t u
  | none :: t, [] => LE t []
  | some v :: t, x :: u => x = some v ∧ LE t u
  | some _ :: _, [] => False
theorem LE.get : ∀ {a b : List (Option Value)}, LE a b → ∀ (i : Nat) (v : Value), a[i]? = some (some v) → b[i]? = some (some v)
  | [], _, _, i, v, h => by simp at h
  | none :: t, x :: u, hl, i, v, h => by
    cases i with
    | zero => simp at h
    | succ i => simpa using LE.get (a := t) (b := u) hl i v (by simpa using h)
  | none :: t, [], hl, i, v, h => by
    cases i with
    | zero => simp at h
    | succ i =>
      have h1 := LE.get (a := t) (b := []) hl i v (by simpa using h)
      simp at h1
  | some w :: t, x :: u, hl, i, v, h => by
    cases i with
    | zero =>
      have h1 : w = v := by simpa using h
      subst h1
      rw [hl.1]; rfl
    | succ i => simpa using LE.get (a := t) (b := u) hl.2 i v (by simpa using h)
  | some _ :: _, [], hl, _, _, _ => hl.elim
theorem wp_ls {ls' : List (Option Value)} (hl : LE ls' ls) (h : wp g M R Q k n pc ls' st hp) : wp g M R Q k n pc ls st hp := by
  intro p e s m args below meth c H locs lsA C P L A
  exact h p e s m args below meth c H locs lsA C P L ⟨A.1, A.2.1, fun i v hv => A.2.2 i v (hl.get i v hv)⟩
theorem wp_widen {k' n' : Nat} (hk : k ≤ k') (hn : n ≤ n') (h : wp g M R Q k' n' pc ls st hp) : wp g M R Q k n pc ls st hp := by
  intro p e s m args below meth c H locs lsA C P L A
  exact W.widen hk hn (h p e s m args below meth c H locs lsA C P L A)
theorem wp_hp {hp' : Hp} (hh : ∀ s H, Rep g s hp H → Rep g s hp' H) (h : wp g M R Q k n pc ls st hp') : wp g M R Q k n pc ls st hp := by
  intro p e s m args below meth c H locs lsA C P L A
  exact h p e s m args below meth c H locs lsA C (hh _ _ P) L A
theorem wp_post {Q' : Option Value → Hp → Prop} (hQ : ∀ v hp', Q' v hp' → Q v hp') (h : wp g M R Q' k n pc ls st hp) : wp g M R Q k n pc ls st hp := by
  intro p e s m args below meth c H locs lsA C P L A
  intro T hT X
  obtain ⟨t, h1, o, h2, h3, ⟨v, hp', h4, h5, h6⟩, h7⟩ := h p e s m args below meth c H locs lsA C P L A T hT X
  exact ⟨t, h1, o, h2, h3, ⟨v, hp', h4, hQ _ _ h5, h6⟩, h7⟩
end RU
