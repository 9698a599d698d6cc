/-! the String constant -/
section SA
variable {g : GT} {M : MI} {R : Room} {Q : Option Value → Hp → Prop} {k n pc : Nat} {ls : List (Option Value)} {st : List Value} {hp hp2 : Hp} {i ln p : Nat} {s cs l : List Int} {nx : Nat → Int} {a : Int} {t : Nat}
theorem dJ0_length_8abf5_0 : decode MJ0_length_8abf5.2.1 0 = .ok (.aload_n 0, 1) := by decide +kernel
theorem dJ0_length_8abf5_1 : decode MJ0_length_8abf5.2.1 1 = .ok (.getfield 9, 3) := by decide +kernel
theorem dJ0_length_8abf5_4 : decode MJ0_length_8abf5.2.1 4 = .ok (.arraylength, 1) := by decide +kernel
theorem dJ0_length_8abf5_5 : decode MJ0_length_8abf5.2.1 5 = .ok (.aload_n 0, 1) := by decide +kernel
theorem dJ0_length_8abf5_6 : decode MJ0_length_8abf5.2.1 6 = .ok (.invokevirtual 335, 3) := by decide +kernel
theorem dJ0_length_8abf5_9 : decode MJ0_length_8abf5.2.1 9 = .ok (.ishr, 1) := by decide +kernel
theorem dJ0_length_8abf5_10 : decode MJ0_length_8abf5.2.1 10 = .ok (.ireturn, 1) := by decide +kernel
theorem dJ0_coder_7d493_0 : decode MJ0_coder_7d493.2.1 0 = .ok (.getstatic 38, 3) := by decide +kernel
theorem dJ0_coder_7d493_3 : decode MJ0_coder_7d493.2.1 3 = .ok (.ifCond .eq 10, 3) := by decide +kernel
theorem dJ0_coder_7d493_6 : decode MJ0_coder_7d493.2.1 6 = .ok (.aload_n 0, 1) := by decide +kernel
theorem dJ0_coder_7d493_7 : decode MJ0_coder_7d493.2.1 7 = .ok (.getfield 15, 3) := by decide +kernel
theorem dJ0_coder_7d493_10 : decode MJ0_coder_7d493.2.1 10 = .ok (.goto 4, 3) := by decide +kernel
theorem dJ0_coder_7d493_13 : decode MJ0_coder_7d493.2.1 13 = .ok (.iconst 1, 1) := by decide +kernel
theorem dJ0_coder_7d493_14 : decode MJ0_coder_7d493.2.1 14 = .ok (.ireturn, 1) := by decide +kernel
theorem dJ0_isLatin1_aae02_0 : decode MJ0_isLatin1_aae02.2.1 0 = .ok (.getstatic 38, 3) := by decide +kernel
theorem dJ0_isLatin1_aae02_3 : decode MJ0_isLatin1_aae02.2.1 3 = .ok (.ifCond .eq 14, 3) := by decide +kernel
theorem dJ0_isLatin1_aae02_6 : decode MJ0_isLatin1_aae02.2.1 6 = .ok (.aload_n 0, 1) := by decide +kernel
theorem dJ0_isLatin1_aae02_7 : decode MJ0_isLatin1_aae02.2.1 7 = .ok (.getfield 15, 3) := by decide +kernel
theorem dJ0_isLatin1_aae02_10 : decode MJ0_isLatin1_aae02.2.1 10 = .ok (.ifCond .ne 7, 3) := by decide +kernel
theorem dJ0_isLatin1_aae02_13 : decode MJ0_isLatin1_aae02.2.1 13 = .ok (.iconst 1, 1) := by decide +kernel
theorem dJ0_isLatin1_aae02_14 : decode MJ0_isLatin1_aae02.2.1 14 = .ok (.goto 4, 3) := by decide +kernel
theorem dJ0_isLatin1_aae02_17 : decode MJ0_isLatin1_aae02.2.1 17 = .ok (.iconst 0, 1) := by decide +kernel
theorem dJ0_isLatin1_aae02_18 : decode MJ0_isLatin1_aae02.2.1 18 = .ok (.ireturn, 1) := by decide +kernel
theorem dJ0_charAt_5068e_0 : decode MJ0_charAt_5068e.2.1 0 = .ok (.aload_n 0, 1) := by decide +kernel
theorem dJ0_charAt_5068e_1 : decode MJ0_charAt_5068e.2.1 1 = .ok (.invokevirtual 492, 3) := by decide +kernel
theorem dJ0_charAt_5068e_4 : decode MJ0_charAt_5068e.2.1 4 = .ok (.ifCond .eq 12, 3) := by decide +kernel
theorem dJ0_charAt_5068e_7 : decode MJ0_charAt_5068e.2.1 7 = .ok (.aload_n 0, 1) := by decide +kernel
theorem dJ0_charAt_5068e_8 : decode MJ0_charAt_5068e.2.1 8 = .ok (.getfield 9, 3) := by decide +kernel
theorem dJ0_charAt_5068e_11 : decode MJ0_charAt_5068e.2.1 11 = .ok (.iload_n 1, 1) := by decide +kernel
theorem dJ0_charAt_5068e_12 : decode MJ0_charAt_5068e.2.1 12 = .ok (.invokestatic 495, 3) := by decide +kernel
theorem dJ0_charAt_5068e_15 : decode MJ0_charAt_5068e.2.1 15 = .ok (.ireturn, 1) := by decide +kernel
theorem dJ0_charAt_5068e_16 : decode MJ0_charAt_5068e.2.1 16 = .ok (.aload_n 0, 1) := by decide +kernel
theorem dJ0_charAt_5068e_17 : decode MJ0_charAt_5068e.2.1 17 = .ok (.getfield 9, 3) := by decide +kernel
theorem dJ0_charAt_5068e_20 : decode MJ0_charAt_5068e.2.1 20 = .ok (.iload_n 1, 1) := by decide +kernel
theorem dJ0_charAt_5068e_21 : decode MJ0_charAt_5068e.2.1 21 = .ok (.invokestatic 498, 3) := by decide +kernel
theorem dJ0_charAt_5068e_24 : decode MJ0_charAt_5068e.2.1 24 = .ok (.ireturn, 1) := by decide +kernel
theorem dJ0_checkIndex_df160_0 : decode MJ0_checkIndex_df160.2.1 0 = .ok (.iload_n 0, 1) := by decide +kernel
theorem dJ0_checkIndex_df160_1 : decode MJ0_checkIndex_df160.2.1 1 = .ok (.iload_n 1, 1) := by decide +kernel
theorem dJ0_checkIndex_df160_2 : decode MJ0_checkIndex_df160.2.1 2 = .ok (.getstatic 1053, 3) := by decide +kernel
theorem dJ0_checkIndex_df160_5 : decode MJ0_checkIndex_df160.2.1 5 = .ok (.invokestatic 1059, 3) := by decide +kernel
theorem dJ0_checkIndex_df160_8 : decode MJ0_checkIndex_df160.2.1 8 = .ok (.pop, 1) := by decide +kernel
theorem dJ0_checkIndex_df160_9 : decode MJ0_checkIndex_df160.2.1 9 = .ok (.return_, 1) := by decide +kernel
theorem dJ1_charAt_3b067_0 : decode MJ1_charAt_3b067.2.1 0 = .ok (.iload_n 1, 1) := by decide +kernel
theorem dJ1_charAt_3b067_1 : decode MJ1_charAt_3b067.2.1 1 = .ok (.aload_n 0, 1) := by decide +kernel
theorem dJ1_charAt_3b067_2 : decode MJ1_charAt_3b067.2.1 2 = .ok (.arraylength, 1) := by decide +kernel
theorem dJ1_charAt_3b067_3 : decode MJ1_charAt_3b067.2.1 3 = .ok (.invokestatic 9, 3) := by decide +kernel
theorem dJ1_charAt_3b067_6 : decode MJ1_charAt_3b067.2.1 6 = .ok (.aload_n 0, 1) := by decide +kernel
theorem dJ1_charAt_3b067_7 : decode MJ1_charAt_3b067.2.1 7 = .ok (.iload_n 1, 1) := by decide +kernel
theorem dJ1_charAt_3b067_8 : decode MJ1_charAt_3b067.2.1 8 = .ok (.baload, 1) := by decide +kernel
theorem dJ1_charAt_3b067_9 : decode MJ1_charAt_3b067.2.1 9 = .ok (.sipush 255, 3) := by decide +kernel
theorem dJ1_charAt_3b067_12 : decode MJ1_charAt_3b067.2.1 12 = .ok (.iand, 1) := by decide +kernel
theorem dJ1_charAt_3b067_13 : decode MJ1_charAt_3b067.2.1 13 = .ok (.i2c, 1) := by decide +kernel
theorem dJ1_charAt_3b067_14 : decode MJ1_charAt_3b067.2.1 14 = .ok (.ireturn, 1) := by decide +kernel
theorem dJ3_checkIndex_8e157_0 : decode MJ3_checkIndex_8e157.2.1 0 = .ok (.iload_n 0, 1) := by decide +kernel
theorem dJ3_checkIndex_8e157_1 : decode MJ3_checkIndex_8e157.2.1 1 = .ok (.ifCond .lt 8, 3) := by decide +kernel
theorem dJ3_checkIndex_8e157_4 : decode MJ3_checkIndex_8e157.2.1 4 = .ok (.iload_n 0, 1) := by decide +kernel
theorem dJ3_checkIndex_8e157_5 : decode MJ3_checkIndex_8e157.2.1 5 = .ok (.iload_n 1, 1) := by decide +kernel
theorem dJ3_checkIndex_8e157_6 : decode MJ3_checkIndex_8e157.2.1 6 = .ok (.if_icmp .lt 10, 3) := by decide +kernel
theorem dJ3_checkIndex_8e157_9 : decode MJ3_checkIndex_8e157.2.1 9 = .ok (.aload_n 2, 1) := by decide +kernel
theorem dJ3_checkIndex_8e157_10 : decode MJ3_checkIndex_8e157.2.1 10 = .ok (.iload_n 0, 1) := by decide +kernel
theorem dJ3_checkIndex_8e157_11 : decode MJ3_checkIndex_8e157.2.1 11 = .ok (.iload_n 1, 1) := by decide +kernel
theorem dJ3_checkIndex_8e157_12 : decode MJ3_checkIndex_8e157.2.1 12 = .ok (.invokestatic 95, 3) := by decide +kernel
theorem dJ3_checkIndex_8e157_15 : decode MJ3_checkIndex_8e157.2.1 15 = .ok (.athrow, 1) := by decide +kernel
theorem dJ3_checkIndex_8e157_16 : decode MJ3_checkIndex_8e157.2.1 16 = .ok (.iload_n 0, 1) := by decide +kernel
theorem dJ3_checkIndex_8e157_17 : decode MJ3_checkIndex_8e157.2.1 17 = .ok (.ireturn, 1) := by decide +kernel
theorem sl_38 : Cond.fieldLink RJ0 38 "java/lang/String" "COMPACT_STRINGS" "Z" ∈ gt := gt_mem (sg_2 _ (List.mem_of_getElem? (i := 17) rfl)) rfl
theorem sl_15 : Cond.fieldLink RJ0 15 "java/lang/String" "coder" "B" ∈ gt := gt_mem (sg_8 _ (List.mem_of_getElem? (i := 55) rfl)) rfl
theorem sl_9 : Cond.fieldLink RJ0 9 "java/lang/String" "value" "[B" ∈ gt := gt_mem (sg_8 _ (List.mem_of_getElem? (i := 54) rfl)) rfl
theorem sl_1053 : Cond.fieldLink RJ0 1053 "jdk/internal/util/Preconditions" "SIOOBE_FORMATTER" "Ljava/util/function/BiFunction;" ∈ gt := gt_mem (sg_2 _ (List.mem_of_getElem? (i := 33) rfl)) rfl
theorem Old.str {s0 : State} (h : Old g s0) : vk_S 1 [17] [fsB] (fun _ => stA g) (fun _ => svA g) (fun q => bs g ≤ q) s0 (hp0 g) := h.2.2.2.2.2.2.2.2.2.1
theorem Old.cmp {s0 : State} (h : Old g s0) : va_Z "java/lang/String" "COMPACT_STRINGS" "Z" (cv g (.int (I 1))) (fun q => bs g ≤ q) s0 (hp0 g) := h.2.2.2.2.2.2.2.2.2.2.1
theorem Old.fmt {s0 : State} (h : Old g s0) : va_Z "jdk/internal/util/Preconditions" "SIOOBE_FORMATTER" "Ljava/util/function/BiFunction;" (cv g (fmx g)) (fun q => bs g ≤ q) s0 (hp0 g) := h.2.2.2.2.2.2.2.2.2.2.2
theorem Old.fm0 {s0 : State} (h : Old g s0) (c : sfA g = 0) : va_Z "jdk/internal/util/Preconditions" "SIOOBE_FORMATTER" "Ljava/util/function/BiFunction;" (cv g .null) (fun q => bs g ≤ q) s0 (hp0 g) := by
  have e : fmx g = .null := if_pos c
  rw [← e]
  exact h.fmt
theorem Old.fm1 {s0 : State} (h : Old g s0) (c : ¬ sfA g = 0) : va_Z "jdk/internal/util/Preconditions" "SIOOBE_FORMATTER" "Ljava/util/function/BiFunction;" (cv g (.ref 3)) (fun q => bs g ≤ q) s0 (hp0 g) := by
  have e : fmx g = .ref 3 := if_neg c
  rw [← e]
  exact h.fmt
theorem Old.cod {s0 : State} (h : Old g s0) : va_OF "java/lang/String" "coder" "B" (cv g (.int (I 0))) (ad g 1) (fun q => bs g ≤ q) s0 (hp0 g) := (h.str.1 0 (by omega)).2.1
theorem Old.val {s0 : State} (h : Old g s0) : va_OF "java/lang/String" "value" "[B" (cv g (.ref 2)) (ad g 1) (fun q => bs g ≤ q) s0 (hp0 g) := (h.str.1 0 (by omega)).2.2.1
theorem wp_nr {ty : FieldType} {x y : Int32} {P : Hp → Prop} (d : decode M.2.1 pc = .ok (.ireturn, 1)) (hr : M.2.2.2 = some ty) (hk : k ≤ R.cells) (hn : n ≤ R.slots) (hv : narrow ty (.int x) = .int x) (e : x = y) (h : P hp) : wp g M R (Eff (.int y) P) k n pc ls [.int x] hp := by
  subst e
  intro p e s m args below meth c H locs lsA C P L A
  refine W.widen hk hn ?_
  exact W.zret C.1 C.2.1 (by rw [C.2.2.2.1]; exact hr) hv (fun t ht hW => QcOf.mk (v := some (.int x)) ⟨rfl, h⟩ P ht hW) L d C.2.2.2.2.2.2.1
theorem wp_blen (d : decode M.2.1 pc = .ok (.arraylength, 1)) (h : wp g M R Q k n (pc + 1) ls (.int (I 17) :: st) hp) : wp g M R Q k n pc ls (.ref 2 :: st) hp := by
  intro p e s m args below meth c H locs lsA C P L A
  obtain ⟨s0, O, hal, -⟩ := C.2.2.2.2.2.2.2.2.2.2
  obtain ⟨cell, t1, t2, t3, t4, t5, t6, t7⟩ := (((vk_S.moved hal O.str).kept (P.old O.2.1)).1 0 (by omega)).2.2.2
  exact W.alen (n := I 17) C.1 C.2.1 (show H[ad g 2]? = some cell from t1) t2 t5 rfl rfl d (h p e s m args below meth c H locs lsA C P L A)
theorem wp_bld {i : Int} (d : decode M.2.1 pc = .ok (.baload, 1)) (h0 : 0 ≤ i) (h1 : i < (17 : Nat)) (h : wp g M R Q k n (pc + 1) ls (.int (fsB.getD i.toNat 0) :: st) hp) : wp g M R Q k n pc ls (.int (I i) :: .ref 2 :: st) hp := by
  intro p e s m args below meth c H locs lsA C P L A
  obtain ⟨s0, O, hal, -⟩ := C.2.2.2.2.2.2.2.2.2.2
  obtain ⟨cell, t1, t2, t3, t4, t5, t6, t7⟩ := (((vk_S.moved hal O.str).kept (P.old O.2.1)).1 0 (by omega)).2.2.2
  obtain ⟨j1, j2⟩ := I_in h0 h1 (by omega)
  have e1 : (I i).toNatClampNeg = i.toNat := by omega
  have t4' : 17 ≤ cell.slots.size := t4
  refine W.bald C.1 C.2.1 (v := .int (fsB.getD i.toNat 0)) (show H[ad g 2]? = some cell from t1) t2 t3 (fun z => by rcases z with z | z; exact j1 (Or.inl z); omega) ?_ rfl rfl d (h p e s m args below meth c H locs lsA C P L A)
  rw [e1]
  exact t6 _ (show i.toNat < 17 by omega)
theorem wp_VO {M' : MI} {R' : Room} {as : List Value} {idx : Nat} {x : Value} (d : decode M.2.1 pc = .ok (.invokevirtual idx, 3)) {j : Nat} (G : CV M.1.cls idx M' j) (S : Sp g M' R' (.ref 1 :: as) hp (Pur x hp)) {st0 : List Value} (hs0 : st0 = as.reverse ++ .ref 1 :: st) (hj : as.length = j) (hci : M'.1.cls = "java/lang/String") (hR : Rm0 R R' M'.2.2.1 k n) (hst : (st.map fun v => v.category).sum ≤ 8)
    (h : wp g M R Q k n (pc + 3) ls (x :: st) hp) : wp g M R Q k n pc ls st0 hp := by
  subst hj
  intro p e s m args below meth c H locs lsA C P L A
  subst hs0
  have hts := C.2.2.2.2.2.1
  have hK := C.2.2.2.2.2.2.2.2
  have hR' := Rm0.ok hR
  obtain ⟨⟨hl, hini, hcode, hd⟩, hin, hsel⟩ := G
  obtain ⟨s0, O, hal, -⟩ := C.2.2.2.2.2.2.2.2.2.2
  obtain ⟨cell, t1, t2, t3, t4⟩ := (((vk_S.moved hal O.str).kept (P.old O.2.1)).1 0 (by omega)).1
  have hrecv : ∃ cell : Cell, H[ad g 1]? = some cell ∧ cell.vm.isStatics = false ∧ s.vm.findClass M'.1.cls = some cell.cls := ⟨cell, t1, t2, by rw [hci]; exact t3⟩
  have hcat : ((st.map (cv g)).map fun v => v.category).sum ≤ 8 := by
    rw [List.map_map]
    exact Nat.le_trans (Nat.le_of_eq (congrArg List.sum (List.map_congr_left fun v _ => cv_cat g v))) hst
  have hstk : (as.reverse ++ Value.ref 1 :: st).map (cv g) = (as.map (cv g)).reverse ++ Value.ref (ad g 1) :: st.map (cv g) := by simp [cv]
  have hPre : PreV s H M'.1.cls (ad g 1) (va_Pc ((Value.ref 1 :: as).map (cv g)) (fun U => KK g U ∧ Rep g U hp U.heap)) (as.map (cv g)) := ⟨pre_blind, hrecv, pre_at (as := Value.ref 1 :: as) hK P⟩
  rw [hstk]
  refine run_then (st := st) (a := (Value.ref (ad g 1) :: as.map (cv g)).toArray) (Q' := Pur x hp) (mc := R'.cells) (ms := R'.slots) C L A ?_ ?_
  · rcases hl with hl | ⟨host, hl⟩
    · exact va_runV (Ts := gt) (own := M.1.cls) (C := M'.1.cls) (As := as.map (cv g)) ⟨C.1, C.2.1, C.2.2.1, C.2.2.2.2.1, hts⟩ S ⟨callB_of as.length hts (code_good hcode) rfl rfl rfl (hts _ hini) (hts _ hl) hd ⟨hR'.1, hR'.2.1⟩, hts _ hin, hts _ hsel⟩ hPre rfl (by simp) A.1 rfl (lv_room hcat) d ⟨hR'.2.2.1, hR'.2.2.2⟩
    · exact va_runVN (Ts := gt) (own := M.1.cls) (C := M'.1.cls) (As := as.map (cv g)) ⟨C.1, C.2.1, C.2.2.1, C.2.2.2.2.1, hts⟩ S ⟨va_cnB as.length hts (code_good hcode) rfl rfl rfl (hK.2.1 _ hl) (hts _ hini) hd ⟨hR'.1, hR'.2.1⟩, hts _ hin, hts _ hsel⟩ hPre rfl (by simp) A.1 rfl (lv_room hcat) d ⟨hR'.2.2.1, hR'.2.2.2⟩
  · intro v hp' hv
    obtain ⟨rfl, rfl⟩ := hv
    rw [Rm0_k hR, Rm0_n hR]
    exact h
theorem sp_Str_coder  : Sp g MJ0_coder_7d493 (rm 0 0 0) [.ref 1] hp (Pur (.int (I 0)) hp) := by
  refine Sp_mk rfl (Nat.le_of_ble_eq_true rfl) ?_
  show wp g _ _ _ 0 0 0 [some (.ref 1)] [] hp
  refine wp_getSt (pc := 0) (own := "") (ref := "") dJ0_coder_7d493_0 sl_38 (fun s0 O => Old.cmp O) ?_
  first | refine wp_ifb_eq (pc := 3) 13 dJ0_coder_7d493_3 (by decide) (fun c3 => ?_) (fun c3 => ?_) | refine wp_if_eq (pc := 3) 13 dJ0_coder_7d493_3 (by decide) (by omega) (fun c3 => ?_) (fun c3 => ?_)
  ·
    omega
  ·
    refine wp_aload_n (pc := 6) dJ0_coder_7d493_6 rfl ?_
    refine wp_getOf (pc := 7) dJ0_coder_7d493_7 sl_15 (fun s0 O => Old.cod O) ?_
    refine wp_goto (pc := 10) 14 dJ0_coder_7d493_10 (by decide) ?_
    exact wp_nr (pc := 14) dJ0_coder_7d493_14 rfl (by decide) (by decide) rfl rfl rfl
theorem sp_Str_isLatin1  : Sp g MJ0_isLatin1_aae02 (rm 0 0 0) [.ref 1] hp (Pur (.int (B True)) hp) := by
  refine Sp_mk rfl (Nat.le_of_ble_eq_true rfl) ?_
  show wp g _ _ _ 0 0 0 [some (.ref 1)] [] hp
  refine wp_getSt (pc := 0) (own := "") (ref := "") dJ0_isLatin1_aae02_0 sl_38 (fun s0 O => Old.cmp O) ?_
  first | refine wp_ifb_eq (pc := 3) 17 dJ0_isLatin1_aae02_3 (by decide) (fun c3 => ?_) (fun c3 => ?_) | refine wp_if_eq (pc := 3) 17 dJ0_isLatin1_aae02_3 (by decide) (by omega) (fun c3 => ?_) (fun c3 => ?_)
  ·
    omega
  ·
    refine wp_aload_n (pc := 6) dJ0_isLatin1_aae02_6 rfl ?_
    refine wp_getOf (pc := 7) dJ0_isLatin1_aae02_7 sl_15 (fun s0 O => Old.cod O) ?_
    first | refine wp_ifb_ne (pc := 10) 17 dJ0_isLatin1_aae02_10 (by decide) (fun c10 => ?_) (fun c10 => ?_) | refine wp_if_ne (pc := 10) 17 dJ0_isLatin1_aae02_10 (by decide) (by omega) (fun c10 => ?_) (fun c10 => ?_)
    ·
      omega
    ·
      refine wp_iconst (pc := 13) dJ0_isLatin1_aae02_13 ?_
      refine wp_goto (pc := 14) 18 dJ0_isLatin1_aae02_14 (by decide) ?_
      first | exact wp_z1 (pc := 18) dJ0_isLatin1_aae02_18 rfl (by decide) (by decide) trivial rfl | exact wp_z0 (pc := 18) dJ0_isLatin1_aae02_18 rfl (by decide) (by decide) trivial rfl | exact wp_zb (pc := 18) dJ0_isLatin1_aae02_18 rfl (by decide) (by decide) Iff.rfl rfl
theorem sp_Str_length  : Sp g MJ0_length_8abf5 (rm 1 0 0) [.ref 1] hp (Pur (.int (I 17)) hp) := by
  refine Sp_mk rfl (Nat.le_of_ble_eq_true rfl) ?_
  show wp g _ _ _ 0 0 0 [some (.ref 1)] [] hp
  refine wp_aload_n (pc := 0) dJ0_length_8abf5_0 rfl ?_
  refine wp_getOf (pc := 1) dJ0_length_8abf5_1 sl_9 (fun s0 O => Old.val O) ?_
  refine wp_blen (pc := 4) dJ0_length_8abf5_4 ?_
  refine wp_aload_n (pc := 5) dJ0_length_8abf5_5 rfl ?_
  refine wp_VO (pc := 6) dJ0_length_8abf5_6 cl_J0_335 (sp_Str_coder) rfl rfl rfl (by decide) (Nat.le_of_ble_eq_true rfl) ?_
  refine wp_ishr (pc := 9) dJ0_length_8abf5_9 (v := I 17) (by decide) ?_
  exact wp_ir (pc := 10) dJ0_length_8abf5_10 rfl (by decide) (by decide) (by first | rfl | omega) rfl
theorem sp_Pre_checkIndex (hi : i < 17) : Sp g MJ3_checkIndex_8e157 (rm 0 0 0) [.int (I (i : Int)), .int (I 17), .ref 3] hp (Pur (.int (I (i : Int))) hp) := by
  refine Sp_mk rfl (Nat.le_of_ble_eq_true rfl) ?_
  show wp g _ _ _ 0 0 0 [some (.int (I (i : Int))), some (.int (I 17)), some (.ref 3)] [] hp
  refine wp_iload_n (pc := 0) dJ3_checkIndex_8e157_0 rfl ?_
  refine wp_if_lt (pc := 1) 9 dJ3_checkIndex_8e157_1 (by decide) (by omega) (fun c1 => ?_) (fun c1 => ?_)
  ·
    omega
  ·
    refine wp_iload_n (pc := 4) dJ3_checkIndex_8e157_4 rfl ?_
    refine wp_iload_n (pc := 5) dJ3_checkIndex_8e157_5 rfl ?_
    refine wp_icmp_lt (pc := 6) 16 dJ3_checkIndex_8e157_6 (by decide) (by omega) (by omega) (fun c6 => ?_) (fun c6 => ?_)
    ·
      refine wp_iload_n (pc := 16) dJ3_checkIndex_8e157_16 rfl ?_
      exact wp_ir (pc := 17) dJ3_checkIndex_8e157_17 rfl (by decide) (by decide) (by first | rfl | omega) rfl
    ·
      omega
theorem sp_Pre_checkIndexN (hi : i < 17) : Sp g MJ3_checkIndex_8e157 (rm 0 0 0) [.int (I (i : Int)), .int (I 17), .null] hp (Pur (.int (I (i : Int))) hp) := by
  refine Sp_mk rfl (Nat.le_of_ble_eq_true rfl) ?_
  show wp g _ _ _ 0 0 0 [some (.int (I (i : Int))), some (.int (I 17)), some (.null)] [] hp
  refine wp_iload_n (pc := 0) dJ3_checkIndex_8e157_0 rfl ?_
  refine wp_if_lt (pc := 1) 9 dJ3_checkIndex_8e157_1 (by decide) (by omega) (fun c1 => ?_) (fun c1 => ?_)
  ·
    omega
  ·
    refine wp_iload_n (pc := 4) dJ3_checkIndex_8e157_4 rfl ?_
    refine wp_iload_n (pc := 5) dJ3_checkIndex_8e157_5 rfl ?_
    refine wp_icmp_lt (pc := 6) 16 dJ3_checkIndex_8e157_6 (by decide) (by omega) (by omega) (fun c6 => ?_) (fun c6 => ?_)
    ·
      refine wp_iload_n (pc := 16) dJ3_checkIndex_8e157_16 rfl ?_
      exact wp_ir (pc := 17) dJ3_checkIndex_8e157_17 rfl (by decide) (by decide) (by first | rfl | omega) rfl
    ·
      omega
theorem sp_Str_checkIndex (hi : i < 17) : Sp g MJ0_checkIndex_df160 (rm 1 0 0) [.int (I (i : Int)), .int (I 17)] hp (Vod (fun hp2 => hp2 = hp)) := by
  by_cases c : sfA g = 0
  · refine Sp_mk rfl (Nat.le_of_ble_eq_true rfl) ?_
    show wp g _ _ _ 0 0 0 [some (.int (I (i : Int))), some (.int (I 17))] [] hp
    refine wp_iload_n (pc := 0) dJ0_checkIndex_df160_0 rfl ?_
    refine wp_iload_n (pc := 1) dJ0_checkIndex_df160_1 rfl ?_
    refine wp_getSt (pc := 2) (own := "") (ref := "") dJ0_checkIndex_df160_2 sl_1053 (fun s0 O => Old.fm0 O c) ?_
    refine wp_Sp (pc := 5) dJ0_checkIndex_df160_5 cl_J0_1059 (sp_Pre_checkIndexN hi) rfl rfl (by decide) (Nat.le_of_ble_eq_true rfl) ?_
    refine wp_pop (pc := 8) dJ0_checkIndex_df160_8 rfl ?_
    exact wp_vr (pc := 9) dJ0_checkIndex_df160_9 rfl (by decide) (by decide) rfl
  · refine Sp_mk rfl (Nat.le_of_ble_eq_true rfl) ?_
    show wp g _ _ _ 0 0 0 [some (.int (I (i : Int))), some (.int (I 17))] [] hp
    refine wp_iload_n (pc := 0) dJ0_checkIndex_df160_0 rfl ?_
    refine wp_iload_n (pc := 1) dJ0_checkIndex_df160_1 rfl ?_
    refine wp_getSt (pc := 2) (own := "") (ref := "") dJ0_checkIndex_df160_2 sl_1053 (fun s0 O => Old.fm1 O c) ?_
    refine wp_Sp (pc := 5) dJ0_checkIndex_df160_5 cl_J0_1059 (sp_Pre_checkIndex hi) rfl rfl (by decide) (Nat.le_of_ble_eq_true rfl) ?_
    refine wp_pop (pc := 8) dJ0_checkIndex_df160_8 rfl ?_
    exact wp_vr (pc := 9) dJ0_checkIndex_df160_9 rfl (by decide) (by decide) rfl
def fsI : List Int := [100, 42, 111, 43, 40, 49, 45, 100, 41, 42, 40, 111, 43, 57, 41, 47, 50]
theorem fs_and : ∀ i, i < 17 → (fsB.getD i 0 &&& I 255) = I (fsI.getD i 0) ∧ ((I (fsI.getD i 0)).toUInt32 % 65536).toInt32 = I (fsI.getD i 0) ∧ (I (fsI.getD i 0)).toUInt32 % 65536 = (I (fsI.getD i 0)).toUInt32 := by decide +kernel
theorem fs_nar : ∀ i, i < 17 → narrow .char (.int (I (fsI.getD i 0))) = .int (I (fsI.getD i 0)) := by decide +kernel
theorem sp_Lat_charAt (hi : i < 17) : Sp g MJ1_charAt_3b067 (rm 2 0 0) [.ref 2, .int (I (i : Int))] hp (Pur (.int (I (fsI.getD i 0))) hp) := by
  refine Sp_mk rfl (Nat.le_of_ble_eq_true rfl) ?_
  show wp g _ _ _ 0 0 0 [some (.ref 2), some (.int (I (i : Int)))] [] hp
  refine wp_iload_n (pc := 0) dJ1_charAt_3b067_0 rfl ?_
  refine wp_aload_n (pc := 1) dJ1_charAt_3b067_1 rfl ?_
  refine wp_blen (pc := 2) dJ1_charAt_3b067_2 ?_
  refine wp_Sn (pc := 3) dJ1_charAt_3b067_3 cl_J1_9 (sp_Str_checkIndex (by first | assumption | omega)) rfl rfl (by decide) (Nat.le_of_ble_eq_true rfl) (fun hp3 e3 => ?_)
  subst e3
  refine wp_aload_n (pc := 6) dJ1_charAt_3b067_6 rfl ?_
  refine wp_iload_n (pc := 7) dJ1_charAt_3b067_7 rfl ?_
  refine wp_bld (pc := 8) dJ1_charAt_3b067_8 (by omega) (by omega) ?_
  refine wp_sipush (pc := 9) (y := 255) dJ1_charAt_3b067_9 (by decide) ?_
  refine wp_iand (pc := 12) dJ1_charAt_3b067_12 (fs_and i hi).1 ?_
  refine wp_i2c (pc := 13) dJ1_charAt_3b067_13 (fs_and i hi).2.1 ?_
  exact wp_nr (pc := 14) dJ1_charAt_3b067_14 rfl (by decide) (by decide) (fs_nar i hi) rfl rfl
theorem sp_Str_charAt (hi : i < 17) : Sp g MJ0_charAt_5068e (rm 3 0 0) [.ref 1, .int (I (i : Int))] hp (Pur (.int (I (fsI.getD i 0))) hp) := by
  refine Sp_mk rfl (Nat.le_of_ble_eq_true rfl) ?_
  show wp g _ _ _ 0 0 0 [some (.ref 1), some (.int (I (i : Int)))] [] hp
  refine wp_aload_n (pc := 0) dJ0_charAt_5068e_0 rfl ?_
  refine wp_VO (pc := 1) dJ0_charAt_5068e_1 cl_J0_492 (sp_Str_isLatin1) rfl rfl rfl (by decide) (Nat.le_of_ble_eq_true rfl) ?_
  first | refine wp_ifb_eq (pc := 4) 16 dJ0_charAt_5068e_4 (by decide) (fun c4 => ?_) (fun c4 => ?_) | refine wp_if_eq (pc := 4) 16 dJ0_charAt_5068e_4 (by decide) (by omega) (fun c4 => ?_) (fun c4 => ?_)
  ·
    exact absurd trivial c4
  ·
    refine wp_aload_n (pc := 7) dJ0_charAt_5068e_7 rfl ?_
    refine wp_getOf (pc := 8) dJ0_charAt_5068e_8 sl_9 (fun s0 O => Old.val O) ?_
    refine wp_iload_n (pc := 11) dJ0_charAt_5068e_11 rfl ?_
    refine wp_Sp (pc := 12) dJ0_charAt_5068e_12 cl_J0_495 (sp_Lat_charAt hi) rfl rfl (by decide) (Nat.le_of_ble_eq_true rfl) ?_
    exact wp_nr (pc := 15) dJ0_charAt_5068e_15 rfl (by decide) (by decide) (fs_nar i hi) rfl rfl
/-! the first rule -/
def nxL (l : List Int) (j : Nat) : Int := if j < l.length ∧ j < 40 then l.getD j 0 else -1
theorem NX_L (h : ∀ v ∈ l, 0 ≤ v ∧ v ≤ 255) : NX (nxL l) (min l.length 40) := by
  refine ⟨by omega, fun j => ⟨fun hj => if_neg (by omega), ?_⟩⟩
  unfold nxL
  split
  · rename_i e
    have := h (l.getD j 0) (by simp [List.getD, e.1])
    omega
  · omega
/-- the steps of the first rule -/
def csF : List Int := [-100, -111, -42, 1, -100, -45, -111, 9, -43, -42, 2, -47, -43]
theorem pF_eq : pE (nxL fsI) 4 0 = (true, 17, csF) := by decide +kernel
theorem lp_first {y z : Int} {St Sk : Int → Int} (hs : s.length ≤ 40) (hSk : SkR Sk s) : ∀ (m i : Nat), 17 < i + m → i ≤ 17 → ∀ (hp2 : Hp) (Sg : Int → Int) (r0 : hp2.2 t = some (robj t 17 y z s.length)) (r1 : hp2.2 (t + 1) = some (.inl (.int, 40, Sg))) (r2 : hp2.2 (t + 2) = some (.inl (.int, 40, St))) (r3 : hp2.2 (t + 3) = some (.inl (.int, 40, Sk))) (hS : SO hp hp2 t (t + 4)) (hSg : ∀ j : Nat, j < i → Sg j = fsI.getD j 0), wp g MX7_readFirst (rm 32 0 0) (Vod (fun hp2 => RuleAt hp2 t csF ∧ SO hp hp2 t (t + 4))) 0 0 11 [some (.ref t), some (.int (I (i : Int)))] [] hp2 := by
  intro m
  induction m with
  | zero => intro i h1 h2; exact absurd h1 (by omega)
  | succ m ih =>
    intro i h1 h2 hp2 Sg r0 r1 r2 r3 hS hSg
    refine wp_iload_n (pc := 11) dX7_readFirst_11 rfl ?_
    refine wp_aload_n (pc := 12) dX7_readFirst_12 rfl ?_
    refine wp_getf (pc := 13) dX7_readFirst_13 gf_X7_36 (by repeat (first | assumption | exact hset_eq | refine hset_at (by omega) ?_)) (by rfl) ?_
    refine wp_icmp_ge (pc := 16) 43 dX7_readFirst_16 (by decide) (by omega) (by omega) (fun c16 => ?_) (fun c16 => ?_)
    ·
      have hn : NX (nxL fsI) 17 := NX_L (by decide) -- go
      refine wp_aload_n (pc := 43) dX7_readFirst_43 rfl ?_
      refine wp_Vs (pc := 44) dX7_readFirst_44 cl_X7_43 (sp_Rule_readAll (nx := nxL fsI) hn r0 r1 r2 r3 hs hSk (fun j hj => by rw [hSg j (by omega)]; exact (if_pos ⟨hj, by omega⟩).symm)) rfl rfl r0 (by rfl) (by decide) (Nat.le_of_ble_eq_true rfl) (fun hp44 e44 => ?_)
      obtain ⟨k4, s4⟩ := e44
      rw [pF_eq] at k4
      refine wp_pop (pc := 47) dX7_readFirst_47 rfl ?_
      exact wp_vr (pc := 48) dX7_readFirst_48 rfl (by decide) (by decide) ⟨RdAt.rule k4 (by have z := (GP_E hn 4 0 (Nat.zero_le _)).2.2; rw [pF_eq] at z; exact z), hS.tr s4⟩
    ·
      refine wp_iload_n (pc := 19) dX7_readFirst_19 rfl ?_
      refine wp_bipush (pc := 20) (y := 40) dX7_readFirst_20 (by decide) ?_
      refine wp_icmp_ge (pc := 22) 43 dX7_readFirst_22 (by decide) (by omega) (by omega) (fun c22 => ?_) (fun c22 => ?_)
      ·
        omega
      ·
        refine wp_aload_n (pc := 25) dX7_readFirst_25 rfl ?_
        refine wp_getf (pc := 26) dX7_readFirst_26 gf_X7_11 (by repeat (first | assumption | exact hset_eq | refine hset_at (by omega) ?_)) (by rfl) ?_
        refine wp_iload_n (pc := 29) dX7_readFirst_29 rfl ?_
        refine wp_ldcS (pc := 30) dX7_readFirst_30 rfl ?_
        refine wp_iload_n (pc := 32) dX7_readFirst_32 rfl ?_
        refine wp_VO (pc := 33) dX7_readFirst_33 cl_X7_54 (sp_Str_charAt (i := i) (by omega)) rfl rfl rfl (by decide) (Nat.le_of_ble_eq_true rfl) ?_
        refine wp_iast (pc := 36) dX7_readFirst_36 (by repeat (first | assumption | exact hset_eq | refine hset_at (by omega) ?_)) (by omega) (by omega) (by decide) ?_
        refine wp_iinc (pc := 37) dX7_readFirst_37 rfl (by decide) ?_
        refine wp_goto (pc := 40) 11 dX7_readFirst_40 (by decide) ?_
        refine wp_ls ?_ (ih (i + 1) (by omega) (by omega) _ _ (by repeat (first | assumption | exact hset_eq | refine hset_at (by omega) ?_)) (by repeat (first | assumption | exact hset_eq | refine hset_at (by omega) ?_)) (by repeat (first | assumption | exact hset_eq | refine hset_at (by omega) ?_)) (by repeat (first | assumption | exact hset_eq | refine hset_at (by omega) ?_)) (hS.tr (by repeat (first | exact SO.rf | assumption | refine SO.set ?_ (by omega) (by omega)))) (fun j hj => by by_cases e : j = i <;> first | (rw [e, updI_eq]; done) | (rw [updI_ne (by omega)]; exact hSg j (by omega))))
        repeat' (first | exact LE_0 | refine LE_s rfl ?_ | refine LE_s (I_c (by first | omega | (simp only [sm]; omega))) ?_ | refine LE_s (J_c (by first | omega | exact Int.pow_succ _ _ | exact (Int.pow_succ _ _).symm | exact (Int.pow_zero _).symm | (simp only [sm]; omega))) ?_ | refine LE_n ?_)
theorem sp_Rule_readFirst (k : RawAt hp t) : Sp g MX7_readFirst (rm 32 0 0) [.ref t] hp (Vod (fun hp2 => RuleAt hp2 t csF ∧ SO hp hp2 t (t + 4))) := by
  obtain ⟨x, y, z, Sg, St, Sk, s, r0, r1, r2, r3, hs, hSk⟩ := k
  refine Sp_mk rfl (Nat.le_of_ble_eq_true rfl) ?_
  show wp g _ _ _ 0 0 0 [some (.ref t), none] [] hp
  refine wp_aload_n (pc := 0) dX7_readFirst_0 rfl ?_
  refine wp_ldcS (pc := 1) dX7_readFirst_1 rfl ?_
  refine wp_VO (pc := 3) dX7_readFirst_3 cl_X7_51 (sp_Str_length) rfl rfl rfl (by decide) (Nat.le_of_ble_eq_true rfl) ?_
  refine wp_putf (pc := 6) dX7_readFirst_6 pf_X7_36 (by repeat (first | assumption | exact hset_eq | refine hset_at (by omega) ?_)) (by first | decide | exact Nat.lt_of_sub_pos (by decide) | simp) rfl rfl (by first | decide | intro h; cases h) ?_
  refine wp_iconst (pc := 9) dX7_readFirst_9 ?_
  refine wp_istore_n (pc := 10) dX7_readFirst_10 (by decide) ?_
  refine wp_ls ?_ (lp_first hs hSk 18 0 (by omega) (by omega) _ Sg (by repeat (first | assumption | exact hset_eq | refine hset_at (by omega) ?_)) (by repeat (first | assumption | exact hset_eq | refine hset_at (by omega) ?_)) (by repeat (first | assumption | exact hset_eq | refine hset_at (by omega) ?_)) (by repeat (first | assumption | exact hset_eq | refine hset_at (by omega) ?_)) (by repeat (first | exact SO.rf | assumption | refine SO.set ?_ (by omega) (by omega))) (fun j hj => by omega))
  repeat' (first | exact LE_0 | refine LE_s rfl ?_ | refine LE_s (I_c (by first | omega | (simp only [sm]; omega))) ?_ | refine LE_s (J_c (by first | omega | exact Int.pow_succ _ _ | exact (Int.pow_succ _ _).symm | exact (Int.pow_zero _).symm | (simp only [sm]; omega))) ?_ | refine LE_n ?_)
end SA

