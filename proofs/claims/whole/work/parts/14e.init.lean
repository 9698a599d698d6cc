/-! making the objects -/
section IN
variable {g : GT} {M : MI} {R : Room} {Q : Option Value → Hp → Prop} {k n pc : Nat} {ls : List (Option Value)} {st : List Value} {hp hp2 hp3 : Hp} {A P D b i : Nat}
def hnw (hp : Hp) (b : Nat) (c : AC) : Hp := (hp.1 + 1, fun x => if x = b then some c else hp.2 x)
theorem hnw_of {c : AC} (hb : hp.1 + 4 = b) : hnew hp c = hnw hp b c := by subst hb; rfl
theorem hnw_eq {c : AC} : (hnw hp b c).2 b = some c := if_pos rfl
theorem hnw_ne {x : Nat} {c : AC} (h : x ≠ b) : (hnw hp b c).2 x = hp.2 x := if_neg h
theorem hnw_at {x : Nat} {c : AC} {y : Option AC} (h : x ≠ b) (e : hp.2 x = y) : (hnw hp b c).2 x = y := (hnw_ne h).trans e
/-- n more cells; below A all is as it was -/
def NO (hp hp2 : Hp) (A n : Nat) : Prop := hp2.1 = hp.1 + n ∧ ∀ x, x < A → hp2.2 x = hp.2 x
theorem NO_at {x : Nat} (h : NO hp hp2 A n) (hx : x < A) : hp2.2 x = hp.2 x := h.2 x hx
theorem wp_nwa {atype : ArrayType} {ty : FieldType} {N : Nat} {z : Int} (d : decode M.2.1 pc = .ok (.newarray atype, 2)) (hb : hp.1 + 4 = b) (hty : newarray.typeOf atype = ty) (hz : z = (N : Int)) (hN : N < 60000000) (hdv : defaultValue ty = vof ty 0) (hcb : componentBytes ty ≤ 8) (hA : Cond.arrayClass ty ∈ gt) (hk : k + 1 ≤ R.cells) (hn : n + N ≤ R.slots) (h : wp g M R Q (k + 1) (n + N) (pc + 2) ls (.ref b :: st) (hnw hp b (.inl (ty, N, fun _ => 0)))) : wp g M R Q k n pc ls (.int (I z) :: st) hp :=
  wp_newa d hty hz hN hdv hcb hA hk hn (by rw [hb, hnw_of hb]; exact h)
theorem wp_nwo {idx ci N : Nat} {fs : List Value} (d : decode M.2.1 pc = .ok (.new idx, 3)) (hb : hp.1 + 4 = b) (G : NW M.1.cls idx ci N fs) (hfs : fs.map (cv g) = fs) (hk : k + 1 ≤ R.cells) (hn : n + N ≤ R.slots) (h : wp g M R Q (k + 1) (n + N) (pc + 3) ls (.ref b :: st) (hnw hp b (.inr (.inr (ci, fs))))) : wp g M R Q k n pc ls st hp :=
  wp_new d G hfs hk hn (by rw [hb, hnw_of hb]; exact h)
theorem wp_nwr {idx : Nat} {CN : String} {N : Nat} {z : Int} (d : decode M.2.1 pc = .ok (.anewarray idx, 3)) (hb : hp.1 + 4 = b) (h1 : Cond.classLink M.1.cls idx CN ∈ gt) (h2 : Cond.arrayOver (.object CN) ∈ lw_tbl) (hz : z = (N : Int)) (hN : N < 60000000) (hk : k + 1 ≤ R.cells) (hn : n + N ≤ R.slots) (h : wp g M R Q (k + 1) (n + N) (pc + 3) ls (.ref b :: st) (hnw hp b (.inr (.inl (CN, N, fun _ => none))))) : wp g M R Q k n pc ls (.int (I z) :: st) hp :=
  wp_anew d h1 h2 hz hN hk hn (by rw [hb, hnw_of hb]; exact h)
theorem sp_Town_init (e0 : hp.1 + 4 = A + 1) (h0 : hp.2 A = some (.inr (.inr (10, [.null, .null, .null, .null, .null, .null, .null, .int (I 0), .int (I 0)])))) : Sp g MX10_init (rm 1 7 102) [.ref A] hp (Vod (fun hp2 => TownAt hp2 A (fun _ _ => 0) ∧ NO hp hp2 A 7)) := by
  refine Sp_mk rfl (Nat.le_of_ble_eq_true rfl) ?_
  show wp g _ _ _ 0 0 0 [some (.ref A)] [] hp
  refine wp_aload_n (pc := 0) dX10_init_0 rfl ?_
  refine wp_obj (pc := 1) dX10_init_1 ol_X10_3 oi_inst oi_code (by decide) (by decide) (Nat.le_of_ble_eq_true rfl) ?_
  refine wp_aload_n (pc := 4) dX10_init_4 rfl ?_
  refine wp_bipush (pc := 5) (y := 36) dX10_init_5 (by decide) ?_
  refine wp_nwa (pc := 7) (b := A + 1) dX10_init_7 (by show hp.1 + 4 = _; omega) rfl rfl (by decide) rfl (by decide) ar_int (by decide) (by decide) ?_
  refine wp_putf (pc := 9) dX10_init_9 pf_X10_9 (by repeat (first | assumption | exact hset_eq | exact hnw_eq | refine hset_at (by omega) ?_ | refine hnw_at (by omega) ?_)) (by first | decide | exact Nat.lt_of_sub_pos (by decide) | simp) rfl rfl (by first | decide | intro h; cases h) ?_
  refine wp_aload_n (pc := 12) dX10_init_12 rfl ?_
  refine wp_bipush (pc := 13) (y := 36) dX10_init_13 (by decide) ?_
  refine wp_nwa (pc := 15) (b := A + 2) dX10_init_15 (by show hp.1 + 1 + 4 = _; omega) rfl rfl (by decide) rfl (by decide) ar_int (by decide) (by decide) ?_
  refine wp_putf (pc := 17) dX10_init_17 pf_X10_15 (by repeat (first | assumption | exact hset_eq | exact hnw_eq | refine hset_at (by omega) ?_ | refine hnw_at (by omega) ?_)) (by first | decide | exact Nat.lt_of_sub_pos (by decide) | simp) rfl rfl (by first | decide | intro h; cases h) ?_
  refine wp_aload_n (pc := 20) dX10_init_20 rfl ?_
  refine wp_bipush (pc := 21) (y := 6) dX10_init_21 (by decide) ?_
  refine wp_nwa (pc := 23) (b := A + 3) dX10_init_23 (by show hp.1 + 1 + 1 + 4 = _; omega) rfl rfl (by decide) rfl (by decide) ar_int (by decide) (by decide) ?_
  refine wp_putf (pc := 25) dX10_init_25 pf_X10_18 (by repeat (first | assumption | exact hset_eq | exact hnw_eq | refine hset_at (by omega) ?_ | refine hnw_at (by omega) ?_)) (by first | decide | exact Nat.lt_of_sub_pos (by decide) | simp) rfl rfl (by first | decide | intro h; cases h) ?_
  refine wp_aload_n (pc := 28) dX10_init_28 rfl ?_
  refine wp_bipush (pc := 29) (y := 6) dX10_init_29 (by decide) ?_
  refine wp_nwa (pc := 31) (b := A + 4) dX10_init_31 (by show hp.1 + 1 + 1 + 1 + 4 = _; omega) rfl rfl (by decide) rfl (by decide) ar_int (by decide) (by decide) ?_
  refine wp_putf (pc := 33) dX10_init_33 pf_X10_21 (by repeat (first | assumption | exact hset_eq | exact hnw_eq | refine hset_at (by omega) ?_ | refine hnw_at (by omega) ?_)) (by first | decide | exact Nat.lt_of_sub_pos (by decide) | simp) rfl rfl (by first | decide | intro h; cases h) ?_
  refine wp_aload_n (pc := 36) dX10_init_36 rfl ?_
  refine wp_bipush (pc := 37) (y := 6) dX10_init_37 (by decide) ?_
  refine wp_nwa (pc := 39) (b := A + 5) dX10_init_39 (by show hp.1 + 1 + 1 + 1 + 1 + 4 = _; omega) rfl rfl (by decide) rfl (by decide) ar_int (by decide) (by decide) ?_
  refine wp_putf (pc := 41) dX10_init_41 pf_X10_24 (by repeat (first | assumption | exact hset_eq | exact hnw_eq | refine hset_at (by omega) ?_ | refine hnw_at (by omega) ?_)) (by first | decide | exact Nat.lt_of_sub_pos (by decide) | simp) rfl rfl (by first | decide | intro h; cases h) ?_
  refine wp_aload_n (pc := 44) dX10_init_44 rfl ?_
  refine wp_bipush (pc := 45) (y := 6) dX10_init_45 (by decide) ?_
  refine wp_nwa (pc := 47) (b := A + 6) dX10_init_47 (by show hp.1 + 1 + 1 + 1 + 1 + 1 + 4 = _; omega) rfl rfl (by decide) rfl (by decide) ar_int (by decide) (by decide) ?_
  refine wp_putf (pc := 49) dX10_init_49 pf_X10_27 (by repeat (first | assumption | exact hset_eq | exact hnw_eq | refine hset_at (by omega) ?_ | refine hnw_at (by omega) ?_)) (by first | decide | exact Nat.lt_of_sub_pos (by decide) | simp) rfl rfl (by first | decide | intro h; cases h) ?_
  refine wp_aload_n (pc := 52) dX10_init_52 rfl ?_
  refine wp_bipush (pc := 53) (y := 6) dX10_init_53 (by decide) ?_
  refine wp_nwa (pc := 55) (b := A + 7) dX10_init_55 (by show hp.1 + 1 + 1 + 1 + 1 + 1 + 1 + 4 = _; omega) rfl rfl (by decide) rfl (by decide) ar_int (by decide) (by decide) ?_
  refine wp_putf (pc := 57) dX10_init_57 pf_X10_30 (by repeat (first | assumption | exact hset_eq | exact hnw_eq | refine hset_at (by omega) ?_ | refine hnw_at (by omega) ?_)) (by first | decide | exact Nat.lt_of_sub_pos (by decide) | simp) rfl rfl (by first | decide | intro h; cases h) ?_
  exact wp_vr (pc := 60) dX10_init_60 rfl (by decide) (by decide) ⟨⟨(by repeat (first | assumption | exact hset_eq | exact hnw_eq | refine hset_at (by omega) ?_ | refine hnw_at (by omega) ?_)), (by repeat (first | assumption | exact hset_eq | exact hnw_eq | refine hset_at (by omega) ?_ | refine hnw_at (by omega) ?_)), (by repeat (first | assumption | exact hset_eq | exact hnw_eq | refine hset_at (by omega) ?_ | refine hnw_at (by omega) ?_)), (by repeat (first | assumption | exact hset_eq | exact hnw_eq | refine hset_at (by omega) ?_ | refine hnw_at (by omega) ?_)), (by repeat (first | assumption | exact hset_eq | exact hnw_eq | refine hset_at (by omega) ?_ | refine hnw_at (by omega) ?_)), (by repeat (first | assumption | exact hset_eq | exact hnw_eq | refine hset_at (by omega) ?_ | refine hnw_at (by omega) ?_)), (by repeat (first | assumption | exact hset_eq | exact hnw_eq | refine hset_at (by omega) ?_ | refine hnw_at (by omega) ?_)), (by repeat (first | assumption | exact hset_eq | exact hnw_eq | refine hset_at (by omega) ?_ | refine hnw_at (by omega) ?_))⟩, ⟨rfl, fun x hx => by repeat (first | refine (hset_ne (by omega)).trans ?_ | refine (hnw_ne (by omega)).trans ?_ | refine (NO_at (by assumption) (by omega)).trans ?_ | rfl)⟩⟩
theorem sp_Row_init (e0 : hp.1 + 4 = A + 1) (h0 : hp.2 A = some (.inr (.inr (6, [.null, .int (I 0)])))) : Sp g MX6_init (rm 1 1 6) [.ref A] hp (Vod (fun hp2 => RowAt hp2 A [] ∧ NO hp hp2 A 1)) := by
  refine Sp_mk rfl (Nat.le_of_ble_eq_true rfl) ?_
  show wp g _ _ _ 0 0 0 [some (.ref A)] [] hp
  refine wp_aload_n (pc := 0) dX6_init_0 rfl ?_
  refine wp_obj (pc := 1) dX6_init_1 ol_X6_3 oi_inst oi_code (by decide) (by decide) (Nat.le_of_ble_eq_true rfl) ?_
  refine wp_aload_n (pc := 4) dX6_init_4 rfl ?_
  refine wp_bipush (pc := 5) (y := 6) dX6_init_5 (by decide) ?_
  refine wp_nwa (pc := 7) (b := A + 1) dX6_init_7 (by show hp.1 + 4 = _; omega) rfl rfl (by decide) rfl (by decide) ar_long (by decide) (by decide) ?_
  refine wp_putf (pc := 9) dX6_init_9 pf_X6_9 (by repeat (first | assumption | exact hset_eq | exact hnw_eq | refine hset_at (by omega) ?_ | refine hnw_at (by omega) ?_)) (by first | decide | exact Nat.lt_of_sub_pos (by decide) | simp) rfl rfl (by first | decide | intro h; cases h) ?_
  exact wp_vr (pc := 12) dX6_init_12 rfl (by decide) (by decide) ⟨⟨fun _ => 0, (by repeat (first | assumption | exact hset_eq | exact hnw_eq | refine hset_at (by omega) ?_ | refine hnw_at (by omega) ?_)), (by repeat (first | assumption | exact hset_eq | exact hnw_eq | refine hset_at (by omega) ?_ | refine hnw_at (by omega) ?_)), by decide, fun i hi => by cases hi⟩, ⟨rfl, fun x hx => by repeat (first | refine (hset_ne (by omega)).trans ?_ | refine (hnw_ne (by omega)).trans ?_ | refine (NO_at (by assumption) (by omega)).trans ?_ | rfl)⟩⟩
theorem sp_Text_init (e0 : hp.1 + 4 = A + 1) (h0 : hp.2 A = some (.inr (.inr (9, [.null, .int (I 0)])))) : Sp g MX9_init (rm 1 1 80) [.ref A] hp (Vod (fun hp2 => TextAt hp2 A [] ∧ NO hp hp2 A 1)) := by
  refine Sp_mk rfl (Nat.le_of_ble_eq_true rfl) ?_
  show wp g _ _ _ 0 0 0 [some (.ref A)] [] hp
  refine wp_aload_n (pc := 0) dX9_init_0 rfl ?_
  refine wp_obj (pc := 1) dX9_init_1 ol_X9_3 oi_inst oi_code (by decide) (by decide) (Nat.le_of_ble_eq_true rfl) ?_
  refine wp_aload_n (pc := 4) dX9_init_4 rfl ?_
  refine wp_bipush (pc := 5) (y := 80) dX9_init_5 (by decide) ?_
  refine wp_nwa (pc := 7) (b := A + 1) dX9_init_7 (by show hp.1 + 4 = _; omega) rfl rfl (by decide) rfl (by decide) ar_int (by decide) (by decide) ?_
  refine wp_putf (pc := 9) dX9_init_9 pf_X9_11 (by repeat (first | assumption | exact hset_eq | exact hnw_eq | refine hset_at (by omega) ?_ | refine hnw_at (by omega) ?_)) (by first | decide | exact Nat.lt_of_sub_pos (by decide) | simp) rfl rfl (by first | decide | intro h; cases h) ?_
  exact wp_vr (pc := 12) dX9_init_12 rfl (by decide) (by decide) ⟨⟨fun _ => 0, (by repeat (first | assumption | exact hset_eq | exact hnw_eq | refine hset_at (by omega) ?_ | refine hnw_at (by omega) ?_)), (by repeat (first | assumption | exact hset_eq | exact hnw_eq | refine hset_at (by omega) ?_ | refine hnw_at (by omega) ?_)), by decide, fun i hi => by cases hi⟩, ⟨rfl, fun x hx => by repeat (first | refine (hset_ne (by omega)).trans ?_ | refine (hnw_ne (by omega)).trans ?_ | refine (NO_at (by assumption) (by omega)).trans ?_ | rfl)⟩⟩
theorem sp_Draws_init (e0 : hp.1 + 4 = A + 1) (h0 : hp.2 A = some (.inr (.inr (1, [.int (I 0)])))) : Sp g MX1_init (rm 1 0 0) [.ref A] hp (Vod (fun hp2 => DrawAt hp2 A 0 ∧ NO hp hp2 A 0)) := by
  refine Sp_mk rfl (Nat.le_of_ble_eq_true rfl) ?_
  show wp g _ _ _ 0 0 0 [some (.ref A)] [] hp
  refine wp_aload_n (pc := 0) dX1_init_0 rfl ?_
  refine wp_obj (pc := 1) dX1_init_1 ol_X1_1 oi_inst oi_code (by decide) (by decide) (Nat.le_of_ble_eq_true rfl) ?_
  exact wp_vr (pc := 4) dX1_init_4 rfl (by decide) (by decide) ⟨h0, ⟨rfl, fun x hx => by repeat (first | refine (hset_ne (by omega)).trans ?_ | refine (hnw_ne (by omega)).trans ?_ | refine (NO_at (by assumption) (by omega)).trans ?_ | rfl)⟩⟩
theorem sp_Shifts_init (e0 : hp.1 + 4 = A + 1) (h0 : hp.2 A = some (.inr (.inr (8, [.null, .null, .null, .int (I 0), .null])))) : Sp g MX8_init (rm 1 4 46) [.ref A] hp (Vod (fun hp2 => ShiftsAt hp2 A (fun _ => 0) (fun _ => 0) (fun _ => 0) 0 ∧ NO hp hp2 A 4)) := by
  refine Sp_mk rfl (Nat.le_of_ble_eq_true rfl) ?_
  show wp g _ _ _ 0 0 0 [some (.ref A)] [] hp
  refine wp_aload_n (pc := 0) dX8_init_0 rfl ?_
  refine wp_obj (pc := 1) dX8_init_1 ol_X8_3 oi_inst oi_code (by decide) (by decide) (Nat.le_of_ble_eq_true rfl) ?_
  refine wp_aload_n (pc := 4) dX8_init_4 rfl ?_
  refine wp_bipush (pc := 5) (y := 12) dX8_init_5 (by decide) ?_
  refine wp_nwa (pc := 7) (b := A + 1) dX8_init_7 (by show hp.1 + 4 = _; omega) rfl rfl (by decide) rfl (by decide) ar_int (by decide) (by decide) ?_
  refine wp_putf (pc := 9) dX8_init_9 pf_X8_11 (by repeat (first | assumption | exact hset_eq | exact hnw_eq | refine hset_at (by omega) ?_ | refine hnw_at (by omega) ?_)) (by first | decide | exact Nat.lt_of_sub_pos (by decide) | simp) rfl rfl (by first | decide | intro h; cases h) ?_
  refine wp_aload_n (pc := 12) dX8_init_12 rfl ?_
  refine wp_bipush (pc := 13) (y := 12) dX8_init_13 (by decide) ?_
  refine wp_nwa (pc := 15) (b := A + 2) dX8_init_15 (by show hp.1 + 1 + 4 = _; omega) rfl rfl (by decide) rfl (by decide) ar_int (by decide) (by decide) ?_
  refine wp_putf (pc := 17) dX8_init_17 pf_X8_15 (by repeat (first | assumption | exact hset_eq | exact hnw_eq | refine hset_at (by omega) ?_ | refine hnw_at (by omega) ?_)) (by first | decide | exact Nat.lt_of_sub_pos (by decide) | simp) rfl rfl (by first | decide | intro h; cases h) ?_
  refine wp_aload_n (pc := 20) dX8_init_20 rfl ?_
  refine wp_bipush (pc := 21) (y := 12) dX8_init_21 (by decide) ?_
  refine wp_nwa (pc := 23) (b := A + 3) dX8_init_23 (by show hp.1 + 1 + 1 + 4 = _; omega) rfl rfl (by decide) rfl (by decide) ar_int (by decide) (by decide) ?_
  refine wp_putf (pc := 25) dX8_init_25 pf_X8_18 (by repeat (first | assumption | exact hset_eq | exact hnw_eq | refine hset_at (by omega) ?_ | refine hnw_at (by omega) ?_)) (by first | decide | exact Nat.lt_of_sub_pos (by decide) | simp) rfl rfl (by first | decide | intro h; cases h) ?_
  refine wp_aload_n (pc := 28) dX8_init_28 rfl ?_
  refine wp_bipush (pc := 29) (y := 10) dX8_init_29 (by decide) ?_
  refine wp_nwa (pc := 31) (b := A + 4) dX8_init_31 (by show hp.1 + 1 + 1 + 1 + 4 = _; omega) rfl rfl (by decide) rfl (by decide) ar_int (by decide) (by decide) ?_
  refine wp_putf (pc := 33) dX8_init_33 pf_X8_21 (by repeat (first | assumption | exact hset_eq | exact hnw_eq | refine hset_at (by omega) ?_ | refine hnw_at (by omega) ?_)) (by first | decide | exact Nat.lt_of_sub_pos (by decide) | simp) rfl rfl (by first | decide | intro h; cases h) ?_
  exact wp_vr (pc := 36) dX8_init_36 rfl (by decide) (by decide) ⟨⟨(by repeat (first | assumption | exact hset_eq | exact hnw_eq | refine hset_at (by omega) ?_ | refine hnw_at (by omega) ?_)), (by repeat (first | assumption | exact hset_eq | exact hnw_eq | refine hset_at (by omega) ?_ | refine hnw_at (by omega) ?_)), (by repeat (first | assumption | exact hset_eq | exact hnw_eq | refine hset_at (by omega) ?_ | refine hnw_at (by omega) ?_)), (by repeat (first | assumption | exact hset_eq | exact hnw_eq | refine hset_at (by omega) ?_ | refine hnw_at (by omega) ?_)), ⟨_, (by repeat (first | assumption | exact hset_eq | exact hnw_eq | refine hset_at (by omega) ?_ | refine hnw_at (by omega) ?_))⟩, by decide, fun _ => (by dsimp only; decide), fun _ => (by dsimp only; decide), fun _ => (by dsimp only; decide)⟩, ⟨rfl, fun x hx => by repeat (first | refine (hset_ne (by omega)).trans ?_ | refine (hnw_ne (by omega)).trans ?_ | refine (NO_at (by assumption) (by omega)).trans ?_ | rfl)⟩⟩
theorem sp_Games_init (e0 : hp.1 + 4 = A + 1) (h0 : hp.2 A = some (.inr (.inr (2, [.null, .null, .null])))) : Sp g MX2_init (rm 1 3 417) [.ref A] hp (Vod (fun hp2 => GamesAt hp2 A ∧ NO hp hp2 A 3)) := by
  refine Sp_mk rfl (Nat.le_of_ble_eq_true rfl) ?_
  show wp g _ _ _ 0 0 0 [some (.ref A)] [] hp
  refine wp_aload_n (pc := 0) dX2_init_0 rfl ?_
  refine wp_obj (pc := 1) dX2_init_1 ol_X2_3 oi_inst oi_code (by decide) (by decide) (Nat.le_of_ble_eq_true rfl) ?_
  refine wp_aload_n (pc := 4) dX2_init_4 rfl ?_
  refine wp_sipush (pc := 5) (y := 400) dX2_init_5 (by decide) ?_
  refine wp_nwa (pc := 8) (b := A + 1) dX2_init_8 (by show hp.1 + 4 = _; omega) rfl rfl (by decide) rfl (by decide) ar_boolean (by decide) (by decide) ?_
  refine wp_putf (pc := 10) dX2_init_10 pf_X2_11 (by repeat (first | assumption | exact hset_eq | exact hnw_eq | refine hset_at (by omega) ?_ | refine hnw_at (by omega) ?_)) (by first | decide | exact Nat.lt_of_sub_pos (by decide) | simp) rfl rfl (by first | decide | intro h; cases h) ?_
  refine wp_aload_n (pc := 13) dX2_init_13 rfl ?_
  refine wp_bipush (pc := 14) (y := 7) dX2_init_14 (by decide) ?_
  refine wp_nwa (pc := 16) (b := A + 2) dX2_init_16 (by show hp.1 + 1 + 4 = _; omega) rfl rfl (by decide) rfl (by decide) ar_long (by decide) (by decide) ?_
  refine wp_putf (pc := 18) dX2_init_18 pf_X2_15 (by repeat (first | assumption | exact hset_eq | exact hnw_eq | refine hset_at (by omega) ?_ | refine hnw_at (by omega) ?_)) (by first | decide | exact Nat.lt_of_sub_pos (by decide) | simp) rfl rfl (by first | decide | intro h; cases h) ?_
  refine wp_aload_n (pc := 21) dX2_init_21 rfl ?_
  refine wp_bipush (pc := 22) (y := 10) dX2_init_22 (by decide) ?_
  refine wp_nwa (pc := 24) (b := A + 3) dX2_init_24 (by show hp.1 + 1 + 1 + 4 = _; omega) rfl rfl (by decide) rfl (by decide) ar_int (by decide) (by decide) ?_
  refine wp_putf (pc := 26) dX2_init_26 pf_X2_19 (by repeat (first | assumption | exact hset_eq | exact hnw_eq | refine hset_at (by omega) ?_ | refine hnw_at (by omega) ?_)) (by first | decide | exact Nat.lt_of_sub_pos (by decide) | simp) rfl rfl (by first | decide | intro h; cases h) ?_
  exact wp_vr (pc := 29) dX2_init_29 rfl (by decide) (by decide) ⟨⟨(by repeat (first | assumption | exact hset_eq | exact hnw_eq | refine hset_at (by omega) ?_ | refine hnw_at (by omega) ?_)), ⟨fun _ => 0, (by repeat (first | assumption | exact hset_eq | exact hnw_eq | refine hset_at (by omega) ?_ | refine hnw_at (by omega) ?_)), fun _ => (by dsimp only; decide)⟩, ⟨fun _ => 0, (by repeat (first | assumption | exact hset_eq | exact hnw_eq | refine hset_at (by omega) ?_ | refine hnw_at (by omega) ?_))⟩, ⟨fun _ => 0, (by repeat (first | assumption | exact hset_eq | exact hnw_eq | refine hset_at (by omega) ?_ | refine hnw_at (by omega) ?_))⟩⟩, ⟨rfl, fun x hx => by repeat (first | refine (hset_ne (by omega)).trans ?_ | refine (hnw_ne (by omega)).trans ?_ | refine (NO_at (by assumption) (by omega)).trans ?_ | rfl)⟩⟩
theorem sp_Partings_init (e0 : hp.1 + 4 = A + 1) (h0 : hp.2 A = some (.inr (.inr (4, [.null, .null, .null, .int (I 0), .null])))) : Sp g MX4_init (rm 1 4 582) [.ref A] hp (Vod (fun hp2 => PartAt hp2 A ∧ NO hp hp2 A 4)) := by
  refine Sp_mk rfl (Nat.le_of_ble_eq_true rfl) ?_
  show wp g _ _ _ 0 0 0 [some (.ref A)] [] hp
  refine wp_aload_n (pc := 0) dX4_init_0 rfl ?_
  refine wp_obj (pc := 1) dX4_init_1 ol_X4_3 oi_inst oi_code (by decide) (by decide) (Nat.le_of_ble_eq_true rfl) ?_
  refine wp_aload_n (pc := 4) dX4_init_4 rfl ?_
  refine wp_bipush (pc := 5) (y := 64) dX4_init_5 (by decide) ?_
  refine wp_nwa (pc := 7) (b := A + 1) dX4_init_7 (by show hp.1 + 4 = _; omega) rfl rfl (by decide) rfl (by decide) ar_int (by decide) (by decide) ?_
  refine wp_putf (pc := 9) dX4_init_9 pf_X4_9 (by repeat (first | assumption | exact hset_eq | exact hnw_eq | refine hset_at (by omega) ?_ | refine hnw_at (by omega) ?_)) (by first | decide | exact Nat.lt_of_sub_pos (by decide) | simp) rfl rfl (by first | decide | intro h; cases h) ?_
  refine wp_aload_n (pc := 12) dX4_init_12 rfl ?_
  refine wp_bipush (pc := 13) (y := 64) dX4_init_13 (by decide) ?_
  refine wp_nwa (pc := 15) (b := A + 2) dX4_init_15 (by show hp.1 + 1 + 4 = _; omega) rfl rfl (by decide) rfl (by decide) ar_int (by decide) (by decide) ?_
  refine wp_putf (pc := 17) dX4_init_17 pf_X4_15 (by repeat (first | assumption | exact hset_eq | exact hnw_eq | refine hset_at (by omega) ?_ | refine hnw_at (by omega) ?_)) (by first | decide | exact Nat.lt_of_sub_pos (by decide) | simp) rfl rfl (by first | decide | intro h; cases h) ?_
  refine wp_aload_n (pc := 20) dX4_init_20 rfl ?_
  refine wp_bipush (pc := 21) (y := 6) dX4_init_21 (by decide) ?_
  refine wp_nwa (pc := 23) (b := A + 3) dX4_init_23 (by show hp.1 + 1 + 1 + 4 = _; omega) rfl rfl (by decide) rfl (by decide) ar_int (by decide) (by decide) ?_
  refine wp_putf (pc := 25) dX4_init_25 pf_X4_18 (by repeat (first | assumption | exact hset_eq | exact hnw_eq | refine hset_at (by omega) ?_ | refine hnw_at (by omega) ?_)) (by first | decide | exact Nat.lt_of_sub_pos (by decide) | simp) rfl rfl (by first | decide | intro h; cases h) ?_
  refine wp_aload_n (pc := 28) dX4_init_28 rfl ?_
  refine wp_sipush (pc := 29) (y := 448) dX4_init_29 (by decide) ?_
  refine wp_nwa (pc := 32) (b := A + 4) dX4_init_32 (by show hp.1 + 1 + 1 + 1 + 4 = _; omega) rfl rfl (by decide) rfl (by decide) ar_int (by decide) (by decide) ?_
  refine wp_putf (pc := 34) dX4_init_34 pf_X4_21 (by repeat (first | assumption | exact hset_eq | exact hnw_eq | refine hset_at (by omega) ?_ | refine hnw_at (by omega) ?_)) (by first | decide | exact Nat.lt_of_sub_pos (by decide) | simp) rfl rfl (by first | decide | intro h; cases h) ?_
  exact wp_vr (pc := 37) dX4_init_37 rfl (by decide) (by decide) ⟨⟨⟨0, (by repeat (first | assumption | exact hset_eq | exact hnw_eq | refine hset_at (by omega) ?_ | refine hnw_at (by omega) ?_))⟩, ⟨fun _ => 0, (by repeat (first | assumption | exact hset_eq | exact hnw_eq | refine hset_at (by omega) ?_ | refine hnw_at (by omega) ?_))⟩, ⟨fun _ => 0, (by repeat (first | assumption | exact hset_eq | exact hnw_eq | refine hset_at (by omega) ?_ | refine hnw_at (by omega) ?_)), fun _ => (by dsimp only; decide)⟩, ⟨fun _ => 0, (by repeat (first | assumption | exact hset_eq | exact hnw_eq | refine hset_at (by omega) ?_ | refine hnw_at (by omega) ?_)), fun _ => (by dsimp only; decide)⟩, ⟨fun _ => 0, (by repeat (first | assumption | exact hset_eq | exact hnw_eq | refine hset_at (by omega) ?_ | refine hnw_at (by omega) ?_)), fun _ => (by dsimp only; decide)⟩⟩, ⟨rfl, fun x hx => by repeat (first | refine (hset_ne (by omega)).trans ?_ | refine (hnw_ne (by omega)).trans ?_ | refine (NO_at (by assumption) (by omega)).trans ?_ | rfl)⟩⟩
theorem sp_Clock_init (e0 : hp.1 + 4 = A + 1) (h0 : hp.2 A = some (.inr (.inr (0, [.null])))) : Sp g MX0_init (rm 1 1 36) [.ref A] hp (Vod (fun hp2 => ClockAt hp2 A ∧ NO hp hp2 A 1)) := by
  refine Sp_mk rfl (Nat.le_of_ble_eq_true rfl) ?_
  show wp g _ _ _ 0 0 0 [some (.ref A)] [] hp
  refine wp_aload_n (pc := 0) dX0_init_0 rfl ?_
  refine wp_obj (pc := 1) dX0_init_1 ol_X0_3 oi_inst oi_code (by decide) (by decide) (Nat.le_of_ble_eq_true rfl) ?_
  refine wp_aload_n (pc := 4) dX0_init_4 rfl ?_
  refine wp_bipush (pc := 5) (y := 36) dX0_init_5 (by decide) ?_
  refine wp_nwa (pc := 7) (b := A + 1) dX0_init_7 (by show hp.1 + 4 = _; omega) rfl rfl (by decide) rfl (by decide) ar_int (by decide) (by decide) ?_
  refine wp_putf (pc := 9) dX0_init_9 pf_X0_9 (by repeat (first | assumption | exact hset_eq | exact hnw_eq | refine hset_at (by omega) ?_ | refine hnw_at (by omega) ?_)) (by first | decide | exact Nat.lt_of_sub_pos (by decide) | simp) rfl rfl (by first | decide | intro h; cases h) ?_
  exact wp_vr (pc := 12) dX0_init_12 rfl (by decide) (by decide) ⟨⟨(by repeat (first | assumption | exact hset_eq | exact hnw_eq | refine hset_at (by omega) ?_ | refine hnw_at (by omega) ?_)), fun _ => 0, (by repeat (first | assumption | exact hset_eq | exact hnw_eq | refine hset_at (by omega) ?_ | refine hnw_at (by omega) ?_)), fun _ => (by dsimp only; decide)⟩, ⟨rfl, fun x hx => by repeat (first | refine (hset_ne (by omega)).trans ?_ | refine (hnw_ne (by omega)).trans ?_ | refine (NO_at (by assumption) (by omega)).trans ?_ | rfl)⟩⟩
theorem sp_Hearsay_init (e0 : hp.1 + 4 = A + 1) (h0 : hp.2 A = some (.inr (.inr (3, [.null, .null, .int (I 0)])))) : Sp g MX3_init (rm 1 2 24) [.ref A] hp (Vod (fun hp2 => HearAt hp2 A (fun _ => 0) (fun _ => 0) 0 ∧ NO hp hp2 A 2)) := by
  refine Sp_mk rfl (Nat.le_of_ble_eq_true rfl) ?_
  show wp g _ _ _ 0 0 0 [some (.ref A)] [] hp
  refine wp_aload_n (pc := 0) dX3_init_0 rfl ?_
  refine wp_obj (pc := 1) dX3_init_1 ol_X3_3 oi_inst oi_code (by decide) (by decide) (Nat.le_of_ble_eq_true rfl) ?_
  refine wp_aload_n (pc := 4) dX3_init_4 rfl ?_
  refine wp_bipush (pc := 5) (y := 12) dX3_init_5 (by decide) ?_
  refine wp_nwa (pc := 7) (b := A + 1) dX3_init_7 (by show hp.1 + 4 = _; omega) rfl rfl (by decide) rfl (by decide) ar_int (by decide) (by decide) ?_
  refine wp_putf (pc := 9) dX3_init_9 pf_X3_11 (by repeat (first | assumption | exact hset_eq | exact hnw_eq | refine hset_at (by omega) ?_ | refine hnw_at (by omega) ?_)) (by first | decide | exact Nat.lt_of_sub_pos (by decide) | simp) rfl rfl (by first | decide | intro h; cases h) ?_
  refine wp_aload_n (pc := 12) dX3_init_12 rfl ?_
  refine wp_bipush (pc := 13) (y := 12) dX3_init_13 (by decide) ?_
  refine wp_nwa (pc := 15) (b := A + 2) dX3_init_15 (by show hp.1 + 1 + 4 = _; omega) rfl rfl (by decide) rfl (by decide) ar_int (by decide) (by decide) ?_
  refine wp_putf (pc := 17) dX3_init_17 pf_X3_15 (by repeat (first | assumption | exact hset_eq | exact hnw_eq | refine hset_at (by omega) ?_ | refine hnw_at (by omega) ?_)) (by first | decide | exact Nat.lt_of_sub_pos (by decide) | simp) rfl rfl (by first | decide | intro h; cases h) ?_
  exact wp_vr (pc := 20) dX3_init_20 rfl (by decide) (by decide) ⟨⟨(by repeat (first | assumption | exact hset_eq | exact hnw_eq | refine hset_at (by omega) ?_ | refine hnw_at (by omega) ?_)), (by repeat (first | assumption | exact hset_eq | exact hnw_eq | refine hset_at (by omega) ?_ | refine hnw_at (by omega) ?_)), (by repeat (first | assumption | exact hset_eq | exact hnw_eq | refine hset_at (by omega) ?_ | refine hnw_at (by omega) ?_)), by decide, fun _ => (by dsimp only; decide), fun _ => (by dsimp only; decide)⟩, ⟨rfl, fun x hx => by repeat (first | refine (hset_ne (by omega)).trans ?_ | refine (hnw_ne (by omega)).trans ?_ | refine (NO_at (by assumption) (by omega)).trans ?_ | rfl)⟩⟩
theorem sp_Rule_init (e0 : hp.1 + 4 = A + 1) (h0 : hp.2 A = some (.inr (.inr (7, [.null, .int (I 0), .int (I 0), .null, .int (I 0), .null, .int (I 0)])))) : Sp g MX7_init (rm 33 3 120) [.ref A] hp (Vod (fun hp2 => RuleAt hp2 A csF ∧ NO hp hp2 A 3)) := by
  refine Sp_mk rfl (Nat.le_of_ble_eq_true rfl) ?_
  show wp g _ _ _ 0 0 0 [some (.ref A)] [] hp
  refine wp_aload_n (pc := 0) dX7_init_0 rfl ?_
  refine wp_obj (pc := 1) dX7_init_1 ol_X7_3 oi_inst oi_code (by decide) (by decide) (Nat.le_of_ble_eq_true rfl) ?_
  refine wp_aload_n (pc := 4) dX7_init_4 rfl ?_
  refine wp_bipush (pc := 5) (y := 40) dX7_init_5 (by decide) ?_
  refine wp_nwa (pc := 7) (b := A + 1) dX7_init_7 (by show hp.1 + 4 = _; omega) rfl rfl (by decide) rfl (by decide) ar_int (by decide) (by decide) ?_
  refine wp_putf (pc := 9) dX7_init_9 pf_X7_11 (by repeat (first | assumption | exact hset_eq | exact hnw_eq | refine hset_at (by omega) ?_ | refine hnw_at (by omega) ?_)) (by first | decide | exact Nat.lt_of_sub_pos (by decide) | simp) rfl rfl (by first | decide | intro h; cases h) ?_
  refine wp_aload_n (pc := 12) dX7_init_12 rfl ?_
  refine wp_bipush (pc := 13) (y := 40) dX7_init_13 (by decide) ?_
  refine wp_nwa (pc := 15) (b := A + 2) dX7_init_15 (by show hp.1 + 1 + 4 = _; omega) rfl rfl (by decide) rfl (by decide) ar_int (by decide) (by decide) ?_
  refine wp_putf (pc := 17) dX7_init_17 pf_X7_15 (by repeat (first | assumption | exact hset_eq | exact hnw_eq | refine hset_at (by omega) ?_ | refine hnw_at (by omega) ?_)) (by first | decide | exact Nat.lt_of_sub_pos (by decide) | simp) rfl rfl (by first | decide | intro h; cases h) ?_
  refine wp_aload_n (pc := 20) dX7_init_20 rfl ?_
  refine wp_bipush (pc := 21) (y := 40) dX7_init_21 (by decide) ?_
  refine wp_nwa (pc := 23) (b := A + 3) dX7_init_23 (by show hp.1 + 1 + 1 + 4 = _; omega) rfl rfl (by decide) rfl (by decide) ar_int (by decide) (by decide) ?_
  refine wp_putf (pc := 25) dX7_init_25 pf_X7_18 (by repeat (first | assumption | exact hset_eq | exact hnw_eq | refine hset_at (by omega) ?_ | refine hnw_at (by omega) ?_)) (by first | decide | exact Nat.lt_of_sub_pos (by decide) | simp) rfl rfl (by first | decide | intro h; cases h) ?_
  refine wp_aload_n (pc := 28) dX7_init_28 rfl ?_
  refine wp_Vn (pc := 29) dX7_init_29 cl_X7_21 (sp_Rule_readFirst ⟨0, 0, 0, fun _ => 0, fun _ => 0, fun _ => 0, [], (by repeat (first | assumption | exact hset_eq | exact hnw_eq | refine hset_at (by omega) ?_ | refine hnw_at (by omega) ?_)), (by repeat (first | assumption | exact hset_eq | exact hnw_eq | refine hset_at (by omega) ?_ | refine hnw_at (by omega) ?_)), (by repeat (first | assumption | exact hset_eq | exact hnw_eq | refine hset_at (by omega) ?_ | refine hnw_at (by omega) ?_)), (by repeat (first | assumption | exact hset_eq | exact hnw_eq | refine hset_at (by omega) ?_ | refine hnw_at (by omega) ?_)), by decide, fun j hj => by cases hj⟩) rfl rfl (by repeat (first | assumption | exact hset_eq | exact hnw_eq | refine hset_at (by omega) ?_ | refine hnw_at (by omega) ?_)) (by rfl) (by decide) (Nat.le_of_ble_eq_true rfl) (fun hp29 e29 => ?_)
  exact wp_vr (pc := 32) dX7_init_32 rfl (by decide) (by decide) ⟨e29.1, ⟨e29.2.1, fun x hx => (e29.2.2 x (by omega)).trans (by repeat (first | refine (hset_ne (by omega)).trans ?_ | refine (hnw_ne (by omega)).trans ?_ | rfl))⟩⟩
end IN

