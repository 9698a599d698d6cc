section NA
variable {g : GT} {M : MI} {R : Room} {Q : Option Value → Hp → Prop} {k n pc : Nat} {ls : List (Option Value)} {st : List Value} {hp : Hp}
theorem cat_cv (hst : (st.map fun v => v.category).sum ≤ 8) : ((st.map (cv g)).map fun v => v.category).sum ≤ 8 := by
  rw [List.map_map]
  exact Nat.le_trans (Nat.le_of_eq (congrArg List.sum (List.map_congr_left fun v _ => cv_cat g v))) hst
theorem wp_obj {a idx : Nat} (d : decode M.2.1 pc = .ok (.invokespecial idx, 3)) (h1 : Cond.methodLink M.1.cls idx Lib.objectInit ∈ gt) (h2 : Cond.instanceMethod Lib.objectInit ∈ gt) (h3 : Cond.code Lib.objectInit ⟨#[0xb1]⟩ 1 none ∈ gt) (hf : 1 ≤ R.frames) (hlo : 20 ≤ R.locals) (hst : (st.map fun v => v.category).sum ≤ 8) (h : wp g M R Q k n (pc + 3) ls st hp) : wp g M R Q k n pc ls (.ref a :: st) hp := by
  intro p e s m args below meth c H locs lsA C P L A
  have hts := C.2.2.2.2.2.1
  refine W.objInit C.1 C.2.1 C.2.2.2.2.1 (hts _ h1) (hts _ h2) (hts _ h3) rfl (by rw [C.2.2.1]; exact A.1) rfl d hf ?_ (h p e s m args below meth c H locs lsA C P L A)
  have := lv_room (m := m) (pc := pc) (ls := lsA) (rest := (Value.ref a :: st).map (cv g)) (cat_cv (g := g) hst)
  omega
def mx (a b : Int) : Int := if a < b then b else a
def mi (a b : Int) : Int := if b < a then b else a
theorem I_ite (c : Prop) [Decidable c] (a b : Int) : (if c then I a else I b) = I (if c then a else b) := by
  by_cases h : c
  · rw [if_pos h, if_pos h]
  · rw [if_neg h, if_neg h]
theorem wp_max {a b : Int} {idx : Nat} (d : decode M.2.1 pc = .ok (.invokestatic idx, 3)) (h1 : Cond.methodLink M.1.cls idx Lib.Math.max.name ∈ gt) (h2 : Cond.static Lib.Math.max.name ∈ gt) (h3 : Cond.initialized "java/lang/Math" ∈ gt) (h4 : Cond.code Lib.Math.max.name Lib.Math.max.code 2 (some .int) ∈ gt) (hf : 1 ≤ R.frames) (hlo : 21 ≤ R.locals) (hk : k ≤ R.cells) (hn : n ≤ R.slots) (hst : (st.map fun v => v.category).sum ≤ 8) (ra : InR a) (rb : InR b) (h : wp g M R Q k n (pc + 3) ls (.int (I (mx a b)) :: st) hp) : wp g M R Q k n pc ls (.int (I b) :: .int (I a) :: st) hp := by
  intro p e s m args below meth c H locs lsA C P L A
  have hts := C.2.2.2.2.2.1
  have hc := cat_cv (g := g) hst
  refine va_mmax C.1 C.2.1 (by rw [C.2.2.1]; exact A.1.symm) C.2.2.2.2.1 (hts _ h1) (hts _ h2) (hts _ h3) (hts _ h4) hf (by omega) hk hn d ?_
  have e1 : (if I a < I b then I b else I a) = I (mx a b) := by
    unfold mx
    by_cases z : a < b
    · rw [if_pos ((I_lt ra rb).mpr z), if_pos z]
    · rw [if_neg (fun y => z ((I_lt ra rb).mp y)), if_neg z]
  rw [e1]
  exact h p e s m args below meth c H locs lsA C P L A
theorem wp_abs {a : Int} {idx : Nat} (d : decode M.2.1 pc = .ok (.invokestatic idx, 3)) (h1 : Cond.methodLink M.1.cls idx Lib.Math.abs.name ∈ gt) (h2 : Cond.static Lib.Math.abs.name ∈ gt) (h3 : Cond.initialized "java/lang/Math" ∈ gt) (h4 : Cond.code Lib.Math.abs.name Lib.Math.abs.code 1 (some .int) ∈ gt) (hf : 1 ≤ R.frames) (hlo : 21 ≤ R.locals) (hk : k ≤ R.cells) (hn : n ≤ R.slots) (hst : (st.map fun v => v.category).sum ≤ 8) (ra : InR a) (h : wp g M R Q k n (pc + 3) ls (.int (I (if a < 0 then -a else a)) :: st) hp) : wp g M R Q k n pc ls (.int (I a) :: st) hp := by
  intro p e s m args below meth c H locs lsA C P L A
  have hts := C.2.2.2.2.2.1
  have hc := cat_cv (g := g) hst
  refine va_mabs C.1 C.2.1 (by rw [C.2.2.1]; exact A.1.symm) C.2.2.2.2.1 (hts _ h1) (hts _ h2) (hts _ h3) (hts _ h4) hf (by omega) hk hn d ?_
  have ee : (if 0 ≤ I a then I a else 0 - I a) = I (if a < 0 then -a else a) := by
    rw [← I_0]
    by_cases z : a < 0
    · rw [if_neg (fun y => by have := (I_le (by omega) ra).mp y; omega), if_pos z, I_sub, Int.zero_sub]
    · rw [if_pos ((I_le (by omega) ra).mpr (by omega)), if_neg z]
  rw [ee]
  exact h p e s m args below meth c H locs lsA C P L A
theorem wp_min {a b : Int} {idx : Nat} (d : decode M.2.1 pc = .ok (.invokestatic idx, 3)) (h1 : Cond.methodLink M.1.cls idx Lib.Math.min.name ∈ gt) (h2 : Cond.static Lib.Math.min.name ∈ gt) (h3 : Cond.initialized "java/lang/Math" ∈ gt) (h4 : Cond.code Lib.Math.min.name Lib.Math.min.code 2 (some .int) ∈ gt) (hf : 1 ≤ R.frames) (hlo : 21 ≤ R.locals) (hk : k ≤ R.cells) (hn : n ≤ R.slots) (hst : (st.map fun v => v.category).sum ≤ 8) (ra : InR a) (rb : InR b) (h : wp g M R Q k n (pc + 3) ls (.int (I (mi a b)) :: st) hp) : wp g M R Q k n pc ls (.int (I b) :: .int (I a) :: st) hp := by
  intro p e s m args below meth c H locs lsA C P L A
  have hts := C.2.2.2.2.2.1
  have hc := cat_cv (g := g) hst
  refine va_mmin C.1 C.2.1 (by rw [C.2.2.1]; exact A.1.symm) C.2.2.2.2.1 (hts _ h1) (hts _ h2) (hts _ h3) (hts _ h4) hf (by omega) hk hn d ?_
  have e1 : (if I b < I a then I b else I a) = I (mi a b) := by
    unfold mi
    by_cases z : b < a
    · rw [if_pos ((I_lt rb ra).mpr z), if_pos z]
    · rw [if_neg (fun y => z ((I_lt rb ra).mp y)), if_neg z]
  have e2 : (if I a < I b then I a else I b) = I (mi a b) := by
    unfold mi
    by_cases z : b < a
    · rw [if_neg (fun y => by have := (I_lt ra rb).mp y; omega), if_pos z]
    · rw [if_neg z]
      by_cases y : a < b
      · rw [if_pos ((I_lt ra rb).mpr y)]
      · rw [if_neg (fun w => y ((I_lt ra rb).mp w)), show b = a by omega]
  first | rw [e1] | rw [e2]
  exact h p e s m args below meth c H locs lsA C P L A
theorem wp_copy {a a0 N idx : Nat} {f f2 : Int → Int} {z : Int} (d : decode M.2.1 pc = .ok (.invokestatic idx, 3)) (h1 : Cond.methodLink M.1.cls idx arraycopyName ∈ gt) (h2 : Cond.native arraycopyName ∈ gt) (h3 : Cond.static arraycopyName ∈ gt) (h4 : Cond.initialized "java/lang/System" ∈ gt) (hf : 1 ≤ R.frames) (hlo : 45 ≤ R.locals) (hst : (st.map fun v => v.category).sum ≤ 8) (hz : z = (N : Int)) (hN : N < 2147483648) (ho0 : hp.2 a0 = some (.inl (.int, N, f))) (ho : hp.2 a = some (.inl (.int, N, f2))) (h : wp g M R Q k n (pc + 3) ls st (hset hp a (.inl (.int, N, f)))) : wp g M R Q k n pc ls (.int (I z) :: .int (I 0) :: .ref a :: .int (I 0) :: .ref a0 :: st) hp := by
  intro p e s m args below meth c H locs lsA C P L A
  have hts := C.2.2.2.2.2.1
  have hc := cat_cv (g := g) hst
  subst hz
  have r : InR (N : Int) := by omega
  have e0 : (I (N : Int)).toNatClampNeg = N := by
    show (I (N : Int)).toInt.toNat = N
    rw [I_toInt r]; omega
  have z0 : (I 0).toNatClampNeg = 0 := rfl
  have t0 : (I 0).toInt = 0 := rfl
  have tN : (I (N : Int)).toInt = N := I_toInt r
  have nz : ¬ I 0 < 0 := by decide
  have nN : ¬ I (N : Int) < 0 := by rw [← I_0, I_lt r (by omega)]; omega
  obtain ⟨-, c0, hc0, ar0⟩ := P.2.2 a0 _ ho0
  obtain ⟨ha2, c1, hc1, ar1⟩ := P.2.2 a _ ho
  have nw : nativeFrameWords "java/lang/System" "arraycopy" 5 + 11 ≤ 37 := by decide +kernel
  intro T hT X
  obtain ⟨-, k0, hk0, cm0, hkk0⟩ := ar0 N (fun j => .int (I (f (j : Int))))
  obtain ⟨-, k1, hk1, cm1, hkk1⟩ := ar1 N (fun j => .int (I (f2 (j : Int))))
  obtain ⟨vm', X', step⟩ := X.arraycopy C.1 C.2.2.2.2.1 (hts _ h1) (hts _ h2) (hts _ h3) (hts _ h4) (src := ad g a0) (dst := ad g a) (cs := arrV c0 N (fun j => .int (I (f (j : Int))))) (cd := arrV c1 N (fun j => .int (I (f2 (j : Int))))) (srcPos := I 0) (destPos := I 0) (n := I (N : Int)) (by rw [hT]; exact hc0) (by rw [hT]; exact hc1)
    (fun _ h => by cases h) (fun _ h => by cases h) (fun h => by cases h) (fun h => by cases h) hk0 hk1 hkk0 hkk1 (by simp [refKind]) nz nz nN
    (by rw [t0, tN, arrV_size]; omega)
    (by rw [t0, tN, arrV_size]; omega)
    (fun vm₁ _ i hi => by
      have e : (arrV c0 N (fun j => .int (I (f (j : Int))))).slots.getD ((I 0).toNatClampNeg + i) .null = .int (I (f (i : Int))) := by
        rw [z0, Nat.zero_add, Array.getD_eq_getD_getElem?, arrV_read _ _ (by omega)]
        rfl
      refine ⟨?_, ?_⟩
      · rw [e]
        rfl
      · rw [e]
        exact trivial)
    (g := F0 m pc lsA (.int (I (N : Int)) :: .int (I 0) :: .ref (ad g a) :: .int (I 0) :: .ref (ad g a0) :: st.map (cv g))) rfl (by rw [C.2.2.1]; exact A.1) (rest := st.map (cv g)) rfl (by rw [C.2.1]; exact d) hf (by show 2 * 0 + _ + _ ≤ _; omega)
  have e1 : copied (arrV c0 N (fun j => .int (I (f (j : Int))))) (arrV c1 N (fun j => .int (I (f2 (j : Int))))) (I 0) (I 0) (I (N : Int)) = arrV c1 N (fun j => .int (I (va_cpy (fun j : Nat => f (j : Int)) (fun j : Nat => f2 (j : Int)) 0 0 N j))) := by
    have := va_copied (fun z => .int (I z)) c0 c1 (n0 := N) (n1 := N) (sp := (I 0).toNatClampNeg) (dp := (I 0).toNatClampNeg) (n := (I (N : Int)).toNatClampNeg) (fun j : Nat => f (j : Int)) (fun j : Nat => f2 (j : Int)) (by rw [z0, e0]; omega)
    rw [z0, e0] at this
    rw [← this]
    unfold copied
    rw [z0, e0]
  have e2 : arrV c1 N (fun j => .int (I (va_cpy (fun j : Nat => f (j : Int)) (fun j : Nat => f2 (j : Int)) 0 0 N j))) = arrV c1 N (fun j => vof .int (f (j : Int))) := by
    unfold arrV
    congr 1
    apply congrArg
    funext j
    show Value.int (I (va_cpy _ _ 0 0 N j.val)) = Value.int (I (f (j.val : Int)))
    unfold va_cpy
    rw [if_pos ⟨Nat.zero_le _, by have := j.isLt; omega⟩]
    simp
  rw [e1, e2] at X' step
  have hl : ad g a < H.size := (Array.getElem?_eq_some_iff.mp hc1).1
  have hheap : ((T.setVm vm').setCell (ad g a) (arrV c1 N (fun j => vof .int (f (j : Int))))).heap = H.setIfInBounds (ad g a) (arrV c1 N (fun j => vof .int (f (j : Int)))) := by rw [← hT]; rfl
  have oq : ∀ q : Nat, q ≠ ad g a → (H.setIfInBounds (ad g a) (arrV c1 N (fun j => vof .int (f (j : Int)))))[q]? = H[q]? := fun q hq => by simp [Array.getElem?_setIfInBounds, Ne.symm hq]
  obtain ⟨t, a1, b1⟩ := h p e s m args below meth c _ _ lsA C (P.set ho (by simp) oq ⟨c1, by simp [Array.getElem?_setIfInBounds, hl], ar1⟩) (fun q hq => by
      rcases List.mem_append.mp hq with h | h
      · exact L q h
      · obtain ⟨z, -, hz⟩ := List.mem_map.mp h
        rw [← hz]
        show bs g ≤ ad g a
        rw [ad_eq ha2]; omega) A _ hheap X'
  exact ⟨t, step t a1, b1⟩
end NA
