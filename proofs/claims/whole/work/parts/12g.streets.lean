/-! Partings: streets -/
section PS
variable {g : GT} {hp hp2 : Hp} {P r t N h n k s : Nat} {Bc Gc Dc Nc F : Int → Int} {T : Nat → Int → Int} {a b c d o v x y p : Int} {l : List Int}
def ndg (l : List Int) : Nat → Bool := fun i => !(decide (48 ≤ l.getD i 0 ∧ l.getD i 0 ≤ 57))
/-- the place of the wrong sign, or -1 -/
def rsA (l : List Int) : Int := if fst (ndg l) (min l.length 6) < min l.length 6 then ((fst (ndg l) (min l.length 6) : Nat) : Int) else if l.length = 0 ∨ 6 < l.length then ((min l.length 6 : Nat) : Int) else -1
theorem tat_in {l : List Int} {i : Nat} (h : i < l.length) : tat l (i : Int) = l.getD i 0 := by
  unfold tat
  rw [if_pos (by omega), Int.toNat_natCast]
theorem lp_readStreets (rl : ∀ i, 0 ≤ l.getD i 0 ∧ l.getD i 0 ≤ 255) (hd : t + 2 ≤ P ∨ P + 5 ≤ t) : ∀ (m i : Nat), (min l.length 6) < i + m → i ≤ (min l.length 6) → ∀ (hp2 : Hp) (Dc : Int → Int) (hT : TextAt hp2 t l) (p0 : hp2.2 P = some (pobj P ((min l.length 6 : Nat) : Int))) (p3 : hp2.2 (P + 3) = some (.inl (.int, 6, Dc))) (rD : ∀ i, 0 ≤ Dc i ∧ Dc i ≤ 9) (hD : ∀ j : Nat, j < i → Dc j = l.getD j 0 - 48) (hno : ∀ j, j < i → ndg l j = false) (hS : ∀ x, x ≠ P → x ≠ P + 3 → hp2.2 x = hp.2 x) (hS1 : hp2.1 = hp.1), wp g MX4_readStreets (rm 1 0 0) (Eff (.int (I (rsA l))) (fun hp2 => (∃ Dc, hp2.2 P = some (pobj P ((min l.length 6 : Nat) : Int)) ∧ hp2.2 (P + 3) = some (.inl (.int, 6, Dc)) ∧ (∀ i, 0 ≤ Dc i ∧ Dc i ≤ 9) ∧ (rsA l = -1 → ∀ j : Nat, j < min l.length 6 → Dc j = l.getD j 0 - 48)) ∧ (∀ x, x ≠ P → x ≠ P + 3 → hp2.2 x = hp.2 x) ∧ hp2.1 = hp.1)) 0 0 17 [some (.ref P), some (.ref t), some (.int (I (l.length : Int))), some (.int (I (i : Int)))] [] hp2 := by
  intro m
  induction m with
  | zero => intro i h1 h2; exact absurd h1 (by omega)
  | succ m ih =>
    intro i h1 h2 hp2 Dc hT p0 p3 rD hD hno hS hS1
    have hT' := hT
    obtain ⟨S, s0, s1, hl, hSS⟩ := hT
    have rli := rl i
    refine wp_iload_n (pc := 17) dX4_readStreets_17 rfl ?_
    refine wp_aload_n (pc := 18) dX4_readStreets_18 rfl ?_
    refine wp_getf (pc := 19) dX4_readStreets_19 gf_X4_59 (by repeat (first | assumption | exact hset_eq | refine hset_at (by omega) ?_)) (by rfl) ?_
    refine wp_icmp_ge (pc := 22) 58 dX4_readStreets_22 (by decide) (by omega) (by omega) (fun c22 => ?_) (fun c22 => ?_)
    ·
      have e : i = min l.length 6 := by omega
      have e3 := fst_no (ndg l) i hno
      rw [e] at e3 -- go
      refine wp_iload_n (pc := 58) dX4_readStreets_58 rfl ?_
      first | refine wp_ifb_eq (pc := 59) 68 dX4_readStreets_59 (by decide) (fun c59 => ?_) (fun c59 => ?_) | refine wp_if_eq (pc := 59) 68 dX4_readStreets_59 (by decide) (by omega) (fun c59 => ?_) (fun c59 => ?_)
      ·
        refine wp_aload_n (pc := 68) dX4_readStreets_68 rfl ?_
        refine wp_getf (pc := 69) dX4_readStreets_69 gf_X4_59 (by repeat (first | assumption | exact hset_eq | refine hset_at (by omega) ?_)) (by rfl) ?_
        refine wp_goto (pc := 72) 76 dX4_readStreets_72 (by decide) ?_
        exact wp_ir (pc := 76) dX4_readStreets_76 rfl (by decide) (by decide) (by unfold rsA; rw [e3, if_neg (by omega)]; split <;> omega) ⟨⟨Dc, p0, p3, rD, fun _ j hj => hD j (by omega)⟩, hS, hS1⟩
      ·
        refine wp_iload_n (pc := 62) dX4_readStreets_62 rfl ?_
        refine wp_bipush (pc := 63) (y := 6) dX4_readStreets_63 (by decide) ?_
        refine wp_icmp_le (pc := 65) 75 dX4_readStreets_65 (by decide) (by omega) (by omega) (fun c65 => ?_) (fun c65 => ?_)
        ·
          refine wp_iconst (pc := 75) dX4_readStreets_75 ?_
          exact wp_ir (pc := 76) dX4_readStreets_76 rfl (by decide) (by decide) (by unfold rsA; rw [e3, if_neg (by omega)]; split <;> omega) ⟨⟨Dc, p0, p3, rD, fun _ j hj => hD j (by omega)⟩, hS, hS1⟩
        ·
          refine wp_aload_n (pc := 68) dX4_readStreets_68 rfl ?_
          refine wp_getf (pc := 69) dX4_readStreets_69 gf_X4_59 (by repeat (first | assumption | exact hset_eq | refine hset_at (by omega) ?_)) (by rfl) ?_
          refine wp_goto (pc := 72) 76 dX4_readStreets_72 (by decide) ?_
          exact wp_ir (pc := 76) dX4_readStreets_76 rfl (by decide) (by decide) (by unfold rsA; rw [e3, if_neg (by omega)]; split <;> omega) ⟨⟨Dc, p0, p3, rD, fun _ j hj => hD j (by omega)⟩, hS, hS1⟩
    ·
      have et := tat_in (l := l) (i := i) (by omega)
      skip -- go
      refine wp_aload_n (pc := 25) dX4_readStreets_25 rfl ?_
      refine wp_iload_n (pc := 26) dX4_readStreets_26 rfl ?_
      refine wp_Vp (pc := 27) dX4_readStreets_27 cl_X4_62 (sp_Text_at (by first | assumption | omega) (by first | assumption | omega)) rfl rfl (by repeat (first | assumption | exact hset_eq | refine hset_at (by omega) ?_)) (by rfl) (by decide) (Nat.le_of_ble_eq_true rfl) ?_
      refine wp_topE et ?_
      refine wp_Sp (pc := 30) dX4_readStreets_30 cl_X4_65 (sp_D_isDigit (by first | assumption | omega)) rfl rfl (by decide) (Nat.le_of_ble_eq_true rfl) ?_
      first | refine wp_ifb_ne (pc := 33) 38 dX4_readStreets_33 (by decide) (fun c33 => ?_) (fun c33 => ?_) | refine wp_if_ne (pc := 33) 38 dX4_readStreets_33 (by decide) (by omega) (fun c33 => ?_) (fun c33 => ?_)
      ·
        refine wp_aload_n (pc := 38) dX4_readStreets_38 rfl ?_
        refine wp_getf (pc := 39) dX4_readStreets_39 gf_X4_18 (by repeat (first | assumption | exact hset_eq | refine hset_at (by omega) ?_)) (by rfl) ?_
        refine wp_iload_n (pc := 42) dX4_readStreets_42 rfl ?_
        refine wp_aload_n (pc := 43) dX4_readStreets_43 rfl ?_
        refine wp_iload_n (pc := 44) dX4_readStreets_44 rfl ?_
        refine wp_Vp (pc := 45) dX4_readStreets_45 cl_X4_62 (sp_Text_at (by first | assumption | omega) (by first | assumption | omega)) rfl rfl (by repeat (first | assumption | exact hset_eq | refine hset_at (by omega) ?_)) (by rfl) (by decide) (Nat.le_of_ble_eq_true rfl) ?_
        refine wp_topE et ?_
        refine wp_bipush (pc := 48) (y := 48) dX4_readStreets_48 (by decide) ?_
        refine wp_isub (pc := 50) dX4_readStreets_50 ?_
        refine wp_iast (pc := 51) dX4_readStreets_51 p3 (by omega) (by omega) (by decide) ?_
        refine wp_iinc (pc := 52) dX4_readStreets_52 rfl (by decide) ?_
        refine wp_goto (pc := 55) 17 dX4_readStreets_55 (by decide) ?_
        refine wp_ls ?_ (ih (i + 1) (by omega) (by omega) _ (updI Dc (i : Int) (l.getD i 0 - 48)) (hT'.off fun x z1 z2 => hset_ne (by omega)) (hset_at (by omega) p0) hset_eq (updI_all (P := fun x => 0 ≤ x ∧ x ≤ 9) rD (by omega)) (fun j hj => ?_) (fun j hj => ?_) (fun x z1 z2 => (hset_ne z2).trans (hS x z1 z2)) hS1)
        · repeat' (first | exact LE_0 | refine LE_s rfl ?_ | refine LE_s (I_c (by first | omega | (simp only [sm]; omega))) ?_ | refine LE_s (J_c (by first | omega | exact Int.pow_succ _ _ | exact (Int.pow_succ _ _).symm | exact (Int.pow_zero _).symm | (simp only [sm]; omega))) ?_ | refine LE_n ?_)
        · by_cases z : j = i
          · rw [z, updI_eq]
          · rw [updI_ne (by omega)]; exact hD j (by omega)
        · by_cases z : j = i
          · rw [z]; unfold ndg; rw [decide_eq_true (by omega)]; rfl
          · exact hno j (by omega)
      ·
        refine wp_iload_n (pc := 36) dX4_readStreets_36 rfl ?_
        exact wp_ir (pc := 37) dX4_readStreets_37 rfl (by decide) (by decide) (by unfold rsA; rw [fst_at (ndg l) (k := i) (by unfold ndg; rw [decide_eq_false (by omega)]; rfl) hno _ (by omega), if_pos (by omega)]) ⟨⟨Dc, p0, p3, rD, fun z => by unfold rsA at z; rw [fst_at (ndg l) (k := i) (by unfold ndg; rw [decide_eq_false (by omega)]; rfl) hno _ (by omega), if_pos (by omega)] at z; omega⟩, hS, hS1⟩
theorem sp_Partings_readStreets (hP : PartAt hp P) (hT : TextAt hp t l) (rl : ∀ i, 0 ≤ l.getD i 0 ∧ l.getD i 0 ≤ 255) (hd : t + 2 ≤ P ∨ P + 5 ≤ t) : Sp g MX4_readStreets (rm 1 0 0) [.ref P, .ref t] hp (Eff (.int (I (rsA l))) (fun hp2 => (∃ Dc, hp2.2 P = some (pobj P ((min l.length 6 : Nat) : Int)) ∧ hp2.2 (P + 3) = some (.inl (.int, 6, Dc)) ∧ (∀ i, 0 ≤ Dc i ∧ Dc i ≤ 9) ∧ (rsA l = -1 → ∀ j : Nat, j < min l.length 6 → Dc j = l.getD j 0 - 48)) ∧ PartAt hp2 P ∧ SO hp hp2 P (P + 5))) := by
  obtain ⟨⟨n, p0⟩, ⟨F, p1⟩, ⟨G, p2, r2⟩, ⟨D, p3, r3⟩, ⟨M, p4, r4⟩⟩ := hP
  have hT' := hT
  obtain ⟨S, s0, s1, hl, hSS⟩ := hT
  refine Sp_mk rfl (Nat.le_of_ble_eq_true rfl) ?_
  show wp g _ _ _ 0 0 0 [some (.ref P), some (.ref t), none, none] [] hp
  refine wp_aload_n (pc := 0) dX4_readStreets_0 rfl ?_
  refine wp_Vp (pc := 1) dX4_readStreets_1 cl_X4_53 (sp_Text_length (by first | assumption | omega)) rfl rfl (by repeat (first | assumption | exact hset_eq | refine hset_at (by omega) ?_)) (by rfl) (by decide) (Nat.le_of_ble_eq_true rfl) ?_
  refine wp_istore_n (pc := 4) dX4_readStreets_4 (by decide) ?_
  refine wp_aload_n (pc := 5) dX4_readStreets_5 rfl ?_
  refine wp_iload_n (pc := 6) dX4_readStreets_6 rfl ?_
  refine wp_bipush (pc := 7) (y := 6) dX4_readStreets_7 (by decide) ?_
  refine wp_min (pc := 9) dX4_readStreets_9 ml_X4_44 ma_min_s ma_ini ma_min_c (by decide) (by decide) (by decide) (by decide) (Nat.le_of_ble_eq_true rfl) (by omega) (by omega) ?_
  refine wp_topE (show mi (l.length : Int) 6 = ((min l.length 6 : Nat) : Int) by unfold mi; split <;> omega) ?_
  refine wp_putf (pc := 12) dX4_readStreets_12 pf_X4_59 (by repeat (first | assumption | exact hset_eq | refine hset_at (by omega) ?_)) (by first | decide | exact Nat.lt_of_sub_pos (by decide) | simp) rfl rfl (by first | decide | intro h; cases h) ?_
  refine wp_iconst (pc := 15) dX4_readStreets_15 ?_
  refine wp_istore_n (pc := 16) dX4_readStreets_16 (by decide) ?_
  refine wp_ls ?_ (wp_post (fun u hq z => ?_) (lp_readStreets (hp := hset hp P (pobj P ((min l.length 6 : Nat) : Int))) rl hd (min l.length 6 + 1) 0 (by omega) (by omega) _ D (hT'.off fun x z1 z2 => hset_ne (by omega)) hset_eq (hset_at (by omega) p3) r3 (fun j hj => by omega) (fun j hj => by omega) (fun _ _ _ => rfl) rfl))
  · repeat' (first | exact LE_0 | refine LE_s rfl ?_ | refine LE_s (I_c (by first | omega | (simp only [sm]; omega))) ?_ | refine LE_s (J_c (by first | omega | exact Int.pow_succ _ _ | exact (Int.pow_succ _ _).symm | exact (Int.pow_zero _).symm | (simp only [sm]; omega))) ?_ | refine LE_n ?_)
  · obtain ⟨z1, ⟨Dc, z2, z3, z4, z5⟩, z6, z7⟩ := z
    have zz : ∀ x, x ≠ P → x ≠ P + 3 → hq.2 x = hp.2 x := fun x y1 y2 => (z6 x y1 y2).trans (hset_ne y1)
    exact ⟨z1, ⟨Dc, z2, z3, z4, z5⟩, ⟨⟨_, z2⟩, ⟨F, (zz _ (by omega) (by omega)).trans p1⟩, ⟨G, (zz _ (by omega) (by omega)).trans p2, r2⟩, ⟨Dc, z3, z4⟩, ⟨M, (zz _ (by omega) (by omega)).trans p4, r4⟩⟩, z7, fun x y1 => zz x (by omega) (by omega)⟩
/-! names -/
theorem sp_Partings_namesFrom (p0 : hp.2 P = some (pobj P d)) (p4 : hp.2 (P + 4) = some (.inl (.int, 448, Nc))) (ra : 0 ≤ a ∧ a ≤ 6) (rb : 0 ≤ b ∧ b ≤ 63) : Sp g MX4_namesFrom (rm 0 0 0) [.ref P, .int (I a), .int (I b)] hp (Pur (.int (I (Nc (a * 64 + b)))) hp) := by
  refine Sp_mk rfl (Nat.le_of_ble_eq_true rfl) ?_
  show wp g _ _ _ 0 0 0 [some (.ref P), some (.int (I a)), some (.int (I b)), none] [] hp
  refine wp_iload_n (pc := 0) dX4_namesFrom_0 rfl ?_
  refine wp_bipush (pc := 1) (y := 64) dX4_namesFrom_1 (by decide) ?_
  refine wp_imul (pc := 3) dX4_namesFrom_3 ?_
  refine wp_iload_n (pc := 4) dX4_namesFrom_4 rfl ?_
  refine wp_iadd (pc := 5) dX4_namesFrom_5 ?_
  refine wp_istore_n (pc := 6) dX4_namesFrom_6 (by decide) ?_
  refine wp_iload_n (pc := 7) dX4_namesFrom_7 rfl ?_
  refine wp_if_lt (pc := 8) 29 dX4_namesFrom_8 (by decide) (by omega) (fun c8 => ?_) (fun c8 => ?_)
  ·
    omega
  ·
    refine wp_iload_n (pc := 11) dX4_namesFrom_11 rfl ?_
    refine wp_aload_n (pc := 12) dX4_namesFrom_12 rfl ?_
    refine wp_getf (pc := 13) dX4_namesFrom_13 gf_X4_21 (by repeat (first | assumption | exact hset_eq | refine hset_at (by omega) ?_)) (by rfl) ?_
    refine wp_alen (pc := 16) dX4_namesFrom_16 p4 ?_
    refine wp_icmp_ge (pc := 17) 29 dX4_namesFrom_17 (by decide) (by omega) (by omega) (fun c17 => ?_) (fun c17 => ?_)
    ·
      omega
    ·
      refine wp_aload_n (pc := 20) dX4_namesFrom_20 rfl ?_
      refine wp_getf (pc := 21) dX4_namesFrom_21 gf_X4_21 (by repeat (first | assumption | exact hset_eq | refine hset_at (by omega) ?_)) (by rfl) ?_
      refine wp_iload_n (pc := 24) dX4_namesFrom_24 rfl ?_
      refine wp_iald (pc := 25) dX4_namesFrom_25 p4 (by omega) (by omega) (by decide) ?_
      refine wp_goto (pc := 26) 30 dX4_namesFrom_26 (by decide) ?_
      exact wp_ir (pc := 30) dX4_namesFrom_30 rfl (by decide) (by decide) (by first | rfl | omega) rfl
def brs (T : Nat → Int → Int) (D : Int → Int) (i : Nat) (st : Int) (s : Nat) : Prop := ¬ s.testBit i = true ∧ 10 * D st ≤ T 3 (i : Int)
theorem sp_Partings_mayBear (hT : TownAt hp h T) (hI : TI T N) (p0 : hp.2 P = some (pobj P d)) (p3 : hp.2 (P + 3) = some (.inl (.int, 6, Dc))) (rD : ∀ i, 0 ≤ Dc i ∧ Dc i ≤ 9) (hk : k < 6) (ra : 0 ≤ a ∧ a ≤ 5) (hs : s < 64) : Sp g MX4_mayBear (rm 1 0 0) [.ref P, .ref h, .int (I (k : Int)), .int (I a), .int (I (s : Int))] hp (Pur (.int (B (¬ s.testBit k = true ∧ 10 * Dc a ≤ T 3 (k : Int)))) hp) := by
  obtain ⟨i8, iN, i0, i1, i2, i3, i4, i5, i6, i7⟩ := hI
  obtain ⟨t0, t1, t2, t3, t4, t5, t6, t7⟩ := hT
  have := i3 (k : Int)
  have := rD a
  refine Sp_mk rfl (Nat.le_of_ble_eq_true rfl) ?_
  show wp g _ _ _ 0 0 0 [some (.ref P), some (.ref h), some (.int (I (k : Int))), some (.int (I a)), some (.int (I (s : Int)))] [] hp
  refine wp_iload_n (pc := 0) dX4_mayBear_0 rfl ?_
  refine wp_iload (pc := 1) dX4_mayBear_1 rfl ?_
  refine wp_Sp (pc := 3) dX4_mayBear_3 cl_X4_92 (sp_D_isIn (by first | assumption | omega) (by first | assumption | omega)) rfl rfl (by decide) (Nat.le_of_ble_eq_true rfl) ?_
  first | refine wp_ifb_ne (pc := 6) 31 dX4_mayBear_6 (by decide) (fun c6 => ?_) (fun c6 => ?_) | refine wp_if_ne (pc := 6) 31 dX4_mayBear_6 (by decide) (by omega) (fun c6 => ?_) (fun c6 => ?_)
  ·
    refine wp_iconst (pc := 31) dX4_mayBear_31 ?_
    first | exact wp_z1 (pc := 32) dX4_mayBear_32 rfl (by decide) (by decide) (by first | exact ⟨c6, by omega⟩ | exact fun z => z.1 c6 | exact fun z => by have := z.2; omega) rfl | exact wp_z0 (pc := 32) dX4_mayBear_32 rfl (by decide) (by decide) (by first | exact ⟨c6, by omega⟩ | exact fun z => z.1 c6 | exact fun z => by have := z.2; omega) rfl | exact wp_zb (pc := 32) dX4_mayBear_32 rfl (by decide) (by decide) Iff.rfl rfl
  ·
    refine wp_aload_n (pc := 9) dX4_mayBear_9 rfl ?_
    refine wp_getf (pc := 10) dX4_mayBear_10 gf_X4_96 (by repeat (first | assumption | exact hset_eq | refine hset_at (by omega) ?_)) (by rfl) ?_
    refine wp_iload_n (pc := 13) dX4_mayBear_13 rfl ?_
    refine wp_iald (pc := 14) dX4_mayBear_14 (by repeat (first | assumption | exact hset_eq | refine hset_at (by omega) ?_)) (by omega) (by omega) (by decide) ?_
    refine wp_bipush (pc := 15) (y := 10) dX4_mayBear_15 (by decide) ?_
    refine wp_aload_n (pc := 17) dX4_mayBear_17 rfl ?_
    refine wp_getf (pc := 18) dX4_mayBear_18 gf_X4_18 (by repeat (first | assumption | exact hset_eq | refine hset_at (by omega) ?_)) (by rfl) ?_
    refine wp_iload_n (pc := 21) dX4_mayBear_21 rfl ?_
    refine wp_iald (pc := 22) dX4_mayBear_22 p3 (by omega) (by omega) (by decide) ?_
    refine wp_imul (pc := 23) dX4_mayBear_23 ?_
    refine wp_icmp_lt (pc := 24) 31 dX4_mayBear_24 (by decide) (by omega) (by omega) (fun c24 => ?_) (fun c24 => ?_)
    ·
      refine wp_iconst (pc := 31) dX4_mayBear_31 ?_
      first | exact wp_z1 (pc := 32) dX4_mayBear_32 rfl (by decide) (by decide) (by first | exact ⟨c6, by omega⟩ | exact fun z => z.1 c6 | exact fun z => by have := z.2; omega) rfl | exact wp_z0 (pc := 32) dX4_mayBear_32 rfl (by decide) (by decide) (by first | exact ⟨c6, by omega⟩ | exact fun z => z.1 c6 | exact fun z => by have := z.2; omega) rfl | exact wp_zb (pc := 32) dX4_mayBear_32 rfl (by decide) (by decide) Iff.rfl rfl
    ·
      refine wp_iconst (pc := 27) dX4_mayBear_27 ?_
      refine wp_goto (pc := 28) 32 dX4_mayBear_28 (by decide) ?_
      first | exact wp_z1 (pc := 32) dX4_mayBear_32 rfl (by decide) (by decide) (by first | exact ⟨c6, by omega⟩ | exact fun z => z.1 c6 | exact fun z => by have := z.2; omega) rfl | exact wp_z0 (pc := 32) dX4_mayBear_32 rfl (by decide) (by decide) (by first | exact ⟨c6, by omega⟩ | exact fun z => z.1 c6 | exact fun z => by have := z.2; omega) rfl | exact wp_zb (pc := 32) dX4_mayBear_32 rfl (by decide) (by decide) Iff.rfl rfl
/-- the most names from a street on, by the table of the streets behind it -/
def mnm (T : Nat → Int → Int) (D Nc : Int → Int) (a : Int) (s : Nat) : Nat → Int
  | 0 => Nc ((a + 1) * 64 + s)
  | i + 1 => if ¬ s.testBit i = true ∧ 10 * D a ≤ T 3 (i : Int) then mx (mnm T D Nc a s i) (1 + Nc ((a + 1) * 64 + ((s ||| 2 ^ i : Nat) : Int))) else mnm T D Nc a s i
theorem or_lt {s i : Nat} (hs : s < 64) (hi : i < 6) : s ||| 2 ^ i < 64 := Nat.or_lt_two_pow (n := 6) hs (Nat.pow_lt_pow_right (by decide) hi)
theorem mnm_in {D Nc : Int → Int} {M : Int} (rN : ∀ i, 0 ≤ Nc i ∧ Nc i ≤ M) {s : Nat} : ∀ i, 0 ≤ mnm T D Nc a s i ∧ mnm T D Nc a s i ≤ M + 1
  | 0 => by have := rN ((a + 1) * 64 + s); unfold mnm; omega
  | i + 1 => by
    have h1 := mnm_in rN (D := D) (s := s) i
    have h2 := rN ((a + 1) * 64 + ((s ||| 2 ^ i : Nat) : Int))
    unfold mnm mx
    split
    · split <;> omega
    · omega
theorem lp_mostNames (hT : TownAt hp h T) (hI : TI T N) (p0 : hp.2 P = some (pobj P d)) (p3 : hp.2 (P + 3) = some (.inl (.int, 6, Dc))) (rD : ∀ i, 0 ≤ Dc i ∧ Dc i ≤ 9) (p4 : hp.2 (P + 4) = some (.inl (.int, 448, Nc))) (rN : ∀ i, 0 ≤ Nc i ∧ Nc i ≤ 7) (ra : 0 ≤ a ∧ a ≤ 5) (hs : s < 64) : ∀ (m i : Nat), N < i + m → i ≤ N → wp g MX4_mostNames (rm 2 0 0) (Pur (.int (I (mnm T Dc Nc a s N))) hp) 0 0 13 [some (.ref P), some (.ref h), some (.int (I a)), some (.int (I (s : Int))), some (.int (I (mnm T Dc Nc a s i))), some (.int (I (i : Int)))] [] hp := by
  intro m
  induction m with
  | zero => intro i h1 h2; exact absurd h1 (by omega)
  | succ m ih =>
    intro i h1 h2
    have hI' := hI
    obtain ⟨i8, iN, i0, i1, i2, i3, i4, i5, i6, i7⟩ := hI
    have hT' := hT
    obtain ⟨t0, t1, t2, t3, t4, t5, t6, t7⟩ := hT
    have hm := mnm_in (T := T) (D := Dc) (a := a) rN (s := s) i
    have hn2 := rN ((a + 1) * 64 + ((s ||| 2 ^ i : Nat) : Int))
    refine wp_iload (pc := 13) dX4_mostNames_13 rfl ?_
    refine wp_aload_n (pc := 15) dX4_mostNames_15 rfl ?_
    refine wp_getf (pc := 16) dX4_mostNames_16 gf_X4_36 (by repeat (first | assumption | exact hset_eq | refine hset_at (by omega) ?_)) (by rfl) ?_
    refine wp_icmp_ge (pc := 19) 62 dX4_mostNames_19 (by decide) (by omega) (by omega) (fun c19 => ?_) (fun c19 => ?_)
    ·
      have e : i = N := by omega
      subst e -- go
      refine wp_iload (pc := 62) dX4_mostNames_62 rfl ?_
      exact wp_ir (pc := 64) dX4_mostNames_64 rfl (by decide) (by decide) (by first | rfl | omega) rfl
    ·
      have hol := or_lt hs (i := i) (by omega)
      skip -- go
      refine wp_aload_n (pc := 22) dX4_mostNames_22 rfl ?_
      refine wp_aload_n (pc := 23) dX4_mostNames_23 rfl ?_
      refine wp_iload (pc := 24) dX4_mostNames_24 rfl ?_
      refine wp_iload_n (pc := 26) dX4_mostNames_26 rfl ?_
      refine wp_iload_n (pc := 27) dX4_mostNames_27 rfl ?_
      refine wp_Vp (pc := 28) dX4_mostNames_28 cl_X4_88 (sp_Partings_mayBear (N := N) hT' hI' p0 p3 rD (by omega) ra hs) rfl rfl (by repeat (first | assumption | exact hset_eq | refine hset_at (by omega) ?_)) (by rfl) (by decide) (Nat.le_of_ble_eq_true rfl) ?_
      first | refine wp_ifb_eq (pc := 31) 56 dX4_mostNames_31 (by decide) (fun c31 => ?_) (fun c31 => ?_) | refine wp_if_eq (pc := 31) 56 dX4_mostNames_31 (by decide) (by omega) (fun c31 => ?_) (fun c31 => ?_)
      ·
        have e : mnm T Dc Nc a s (i + 1) = mnm T Dc Nc a s i := if_neg c31
        rw [← e] -- go
        refine wp_iinc (pc := 56) dX4_mostNames_56 rfl (by decide) ?_
        refine wp_goto (pc := 59) 13 dX4_mostNames_59 (by decide) ?_
        refine wp_ls ?_ (ih (i + 1) (by omega) (by omega))
        · repeat' (first | exact LE_0 | refine LE_s rfl ?_ | refine LE_s (I_c (by first | omega | (simp only [sm]; omega))) ?_ | refine LE_s (J_c (by first | omega | exact Int.pow_succ _ _ | exact (Int.pow_succ _ _).symm | exact (Int.pow_zero _).symm | (simp only [sm]; omega))) ?_ | refine LE_n ?_)
      ·
        have e : mnm T Dc Nc a s (i + 1) = mx (mnm T Dc Nc a s i) (1 + Nc ((a + 1) * 64 + ((s ||| 2 ^ i : Nat) : Int))) := if_pos c31
        skip -- go
        refine wp_iload (pc := 34) dX4_mostNames_34 rfl ?_
        refine wp_iconst (pc := 36) dX4_mostNames_36 ?_
        refine wp_aload_n (pc := 37) dX4_mostNames_37 rfl ?_
        refine wp_iload_n (pc := 38) dX4_mostNames_38 rfl ?_
        refine wp_iconst (pc := 39) dX4_mostNames_39 ?_
        refine wp_iadd (pc := 40) dX4_mostNames_40 ?_
        refine wp_iload_n (pc := 41) dX4_mostNames_41 rfl ?_
        refine wp_iconst (pc := 42) dX4_mostNames_42 ?_
        refine wp_iload (pc := 43) dX4_mostNames_43 rfl ?_
        refine wp_ishl (pc := 45) dX4_mostNames_45 (I_shl (by omega)) ?_
        refine wp_ior (pc := 46) dX4_mostNames_46 I_or ?_
        refine wp_Vp (pc := 47) dX4_mostNames_47 cl_X4_85 (sp_Partings_namesFrom p0 p4 (by omega) (by omega)) rfl rfl (by repeat (first | assumption | exact hset_eq | refine hset_at (by omega) ?_)) (by rfl) (by decide) (Nat.le_of_ble_eq_true rfl) ?_
        refine wp_iadd (pc := 50) dX4_mostNames_50 ?_
        refine wp_max (pc := 51) dX4_mostNames_51 ml_X4_50 ma_max_s ma_ini ma_max_c (by decide) (by decide) (by decide) (by decide) (Nat.le_of_ble_eq_true rfl) (by omega) (by omega) ?_
        rw [← e]
        refine wp_istore (pc := 54) dX4_mostNames_54 (by decide) ?_
        refine wp_iinc (pc := 56) dX4_mostNames_56 rfl (by decide) ?_
        refine wp_goto (pc := 59) 13 dX4_mostNames_59 (by decide) ?_
        refine wp_ls ?_ (ih (i + 1) (by omega) (by omega))
        · repeat' (first | exact LE_0 | refine LE_s rfl ?_ | refine LE_s (I_c (by first | omega | (simp only [sm]; omega))) ?_ | refine LE_s (J_c (by first | omega | exact Int.pow_succ _ _ | exact (Int.pow_succ _ _).symm | exact (Int.pow_zero _).symm | (simp only [sm]; omega))) ?_ | refine LE_n ?_)
theorem sp_Partings_mostNames (hT : TownAt hp h T) (hI : TI T N) (p0 : hp.2 P = some (pobj P d)) (p3 : hp.2 (P + 3) = some (.inl (.int, 6, Dc))) (rD : ∀ i, 0 ≤ Dc i ∧ Dc i ≤ 9) (p4 : hp.2 (P + 4) = some (.inl (.int, 448, Nc))) (rN : ∀ i, 0 ≤ Nc i ∧ Nc i ≤ 7) (ra : 0 ≤ a ∧ a ≤ 5) (hs : s < 64) : Sp g MX4_mostNames (rm 2 0 0) [.ref P, .ref h, .int (I a), .int (I (s : Int))] hp (Pur (.int (I (mnm T Dc Nc a s N))) hp) := by
  refine Sp_mk rfl (Nat.le_of_ble_eq_true rfl) ?_
  show wp g _ _ _ 0 0 0 [some (.ref P), some (.ref h), some (.int (I a)), some (.int (I (s : Int))), none, none] [] hp
  refine wp_aload_n (pc := 0) dX4_mostNames_0 rfl ?_
  refine wp_iload_n (pc := 1) dX4_mostNames_1 rfl ?_
  refine wp_iconst (pc := 2) dX4_mostNames_2 ?_
  refine wp_iadd (pc := 3) dX4_mostNames_3 ?_
  refine wp_iload_n (pc := 4) dX4_mostNames_4 rfl ?_
  refine wp_Vp (pc := 5) dX4_mostNames_5 cl_X4_85 (sp_Partings_namesFrom p0 p4 (by omega) (by omega)) rfl rfl (by repeat (first | assumption | exact hset_eq | refine hset_at (by omega) ?_)) (by rfl) (by decide) (Nat.le_of_ble_eq_true rfl) ?_
  refine wp_istore (pc := 8) dX4_mostNames_8 (by decide) ?_
  refine wp_iconst (pc := 10) dX4_mostNames_10 ?_
  refine wp_istore (pc := 11) dX4_mostNames_11 (by decide) ?_
  refine wp_ls ?_ (lp_mostNames hT hI p0 p3 rD p4 rN ra hs (N + 1) 0 (by omega) (by omega))
  repeat' (first | exact LE_0 | refine LE_s rfl ?_ | refine LE_s (I_c (by first | omega | (simp only [sm]; omega))) ?_ | refine LE_s (J_c (by first | omega | exact Int.pow_succ _ _ | exact (Int.pow_succ _ _).symm | exact (Int.pow_zero _).symm | (simp only [sm]; omega))) ?_ | refine LE_n ?_)
/-- who bears the street's name: the first one by whom as many can be named -/
def lnP (T : Nat → Int → Int) (D Nc : Int → Int) (a : Int) (s : Nat) : Nat → Bool := fun i => decide ((¬ s.testBit i = true ∧ 10 * D a ≤ T 3 (i : Int)) ∧ 1 + Nc ((a + 1) * 64 + ((s ||| 2 ^ i : Nat) : Int)) = Nc (a * 64 + s))
def lnm (T : Nat → Int → Int) (D Nc : Int → Int) (N : Nat) (a : Int) (s : Nat) : Int := if Nc ((a + 1) * 64 + s) = Nc (a * 64 + s) then -1 else if fst (lnP T D Nc a s) N < N then ((fst (lnP T D Nc a s) N : Nat) : Int) else -1
theorem lp_leastName (hT : TownAt hp h T) (hI : TI T N) (p0 : hp.2 P = some (pobj P d)) (p3 : hp.2 (P + 3) = some (.inl (.int, 6, Dc))) (rD : ∀ i, 0 ≤ Dc i ∧ Dc i ≤ 9) (p4 : hp.2 (P + 4) = some (.inl (.int, 448, Nc))) (rN : ∀ i, 0 ≤ Nc i ∧ Nc i ≤ 7) (ra : 0 ≤ a ∧ a ≤ 5) (hs : s < 64) (hne : ¬ Nc ((a + 1) * 64 + s) = Nc (a * 64 + s)) : ∀ (m i : Nat), N < i + m → i ≤ N → ∀ (hno : ∀ j, j < i → lnP T Dc Nc a s j = false), wp g MX4_leastName (rm 2 0 0) (Pur (.int (I (lnm T Dc Nc N a s))) hp) 0 0 26 [some (.ref P), some (.ref h), some (.int (I a)), some (.int (I (s : Int))), some (.int (I (Nc (a * 64 + s)))), some (.int (I (i : Int)))] [] hp := by
  intro m
  induction m with
  | zero => intro i h1 h2; exact absurd h1 (by omega)
  | succ m ih =>
    intro i h1 h2 hno
    have hI' := hI
    obtain ⟨i8, iN, i0, i1, i2, i3, i4, i5, i6, i7⟩ := hI
    have hT' := hT
    obtain ⟨t0, t1, t2, t3, t4, t5, t6, t7⟩ := hT
    have hn2 := rN ((a + 1) * 64 + ((s ||| 2 ^ i : Nat) : Int))
    have hn3 := rN (a * 64 + s)
    refine wp_iload (pc := 26) dX4_leastName_26 rfl ?_
    refine wp_aload_n (pc := 28) dX4_leastName_28 rfl ?_
    refine wp_getf (pc := 29) dX4_leastName_29 gf_X4_36 (by repeat (first | assumption | exact hset_eq | refine hset_at (by omega) ?_)) (by rfl) ?_
    refine wp_icmp_ge (pc := 32) 76 dX4_leastName_32 (by decide) (by omega) (by omega) (fun c32 => ?_) (fun c32 => ?_)
    ·
      have e : i = N := by omega
      subst e
      have e3 := fst_no _ _ hno -- go
      refine wp_iconst (pc := 76) dX4_leastName_76 ?_
      exact wp_ir (pc := 77) dX4_leastName_77 rfl (by decide) (by decide) (by unfold lnm; rw [if_neg hne, e3, if_neg (by omega)]) rfl
    ·
      have hol := or_lt hs (i := i) (by omega)
      skip -- go
      refine wp_aload_n (pc := 35) dX4_leastName_35 rfl ?_
      refine wp_aload_n (pc := 36) dX4_leastName_36 rfl ?_
      refine wp_iload (pc := 37) dX4_leastName_37 rfl ?_
      refine wp_iload_n (pc := 39) dX4_leastName_39 rfl ?_
      refine wp_iload_n (pc := 40) dX4_leastName_40 rfl ?_
      refine wp_Vp (pc := 41) dX4_leastName_41 cl_X4_88 (sp_Partings_mayBear (N := N) hT' hI' p0 p3 rD (by omega) ra hs) rfl rfl (by repeat (first | assumption | exact hset_eq | refine hset_at (by omega) ?_)) (by rfl) (by decide) (Nat.le_of_ble_eq_true rfl) ?_
      first | refine wp_ifb_eq (pc := 44) 70 dX4_leastName_44 (by decide) (fun c44 => ?_) (fun c44 => ?_) | refine wp_if_eq (pc := 44) 70 dX4_leastName_44 (by decide) (by omega) (fun c44 => ?_) (fun c44 => ?_)
      ·
        have hf : lnP T Dc Nc a s i = false := decide_eq_false (fun z => c44 z.1)
        skip -- go
        refine wp_iinc (pc := 70) dX4_leastName_70 rfl (by decide) ?_
        refine wp_goto (pc := 73) 26 dX4_leastName_73 (by decide) ?_
        refine wp_ls ?_ (ih (i + 1) (by omega) (by omega) (fun j hj => ?_))
        · repeat' (first | exact LE_0 | refine LE_s rfl ?_ | refine LE_s (I_c (by first | omega | (simp only [sm]; omega))) ?_ | refine LE_s (J_c (by first | omega | exact Int.pow_succ _ _ | exact (Int.pow_succ _ _).symm | exact (Int.pow_zero _).symm | (simp only [sm]; omega))) ?_ | refine LE_n ?_)
        · by_cases e : j = i
          · subst e; exact hf
          · exact hno j (by omega)
      ·
        refine wp_iconst (pc := 47) dX4_leastName_47 ?_
        refine wp_aload_n (pc := 48) dX4_leastName_48 rfl ?_
        refine wp_iload_n (pc := 49) dX4_leastName_49 rfl ?_
        refine wp_iconst (pc := 50) dX4_leastName_50 ?_
        refine wp_iadd (pc := 51) dX4_leastName_51 ?_
        refine wp_iload_n (pc := 52) dX4_leastName_52 rfl ?_
        refine wp_iconst (pc := 53) dX4_leastName_53 ?_
        refine wp_iload (pc := 54) dX4_leastName_54 rfl ?_
        refine wp_ishl (pc := 56) dX4_leastName_56 (I_shl (by omega)) ?_
        refine wp_ior (pc := 57) dX4_leastName_57 I_or ?_
        refine wp_Vp (pc := 58) dX4_leastName_58 cl_X4_85 (sp_Partings_namesFrom p0 p4 (by omega) (by omega)) rfl rfl (by repeat (first | assumption | exact hset_eq | refine hset_at (by omega) ?_)) (by rfl) (by decide) (Nat.le_of_ble_eq_true rfl) ?_
        refine wp_iadd (pc := 61) dX4_leastName_61 ?_
        refine wp_iload (pc := 62) dX4_leastName_62 rfl ?_
        refine wp_icmp_ne (pc := 64) 70 dX4_leastName_64 (by decide) (by omega) (by omega) (fun c64 => ?_) (fun c64 => ?_)
        ·
          have hf : lnP T Dc Nc a s i = false := decide_eq_false (fun z => c64 z.2)
          skip -- go
          refine wp_iinc (pc := 70) dX4_leastName_70 rfl (by decide) ?_
          refine wp_goto (pc := 73) 26 dX4_leastName_73 (by decide) ?_
          refine wp_ls ?_ (ih (i + 1) (by omega) (by omega) (fun j hj => ?_))
          · repeat' (first | exact LE_0 | refine LE_s rfl ?_ | refine LE_s (I_c (by first | omega | (simp only [sm]; omega))) ?_ | refine LE_s (J_c (by first | omega | exact Int.pow_succ _ _ | exact (Int.pow_succ _ _).symm | exact (Int.pow_zero _).symm | (simp only [sm]; omega))) ?_ | refine LE_n ?_)
          · by_cases e : j = i
            · subst e; exact hf
            · exact hno j (by omega)
        ·
          have ht : lnP T Dc Nc a s i = true := decide_eq_true ⟨c44, c64⟩
          have e3 := fst_at _ ht hno N (by omega) -- go
          refine wp_iload (pc := 67) dX4_leastName_67 rfl ?_
          exact wp_ir (pc := 69) dX4_leastName_69 rfl (by decide) (by decide) (by unfold lnm; rw [if_neg hne, e3, if_pos (by omega)]) rfl
theorem sp_Partings_leastName (hT : TownAt hp h T) (hI : TI T N) (p0 : hp.2 P = some (pobj P d)) (p3 : hp.2 (P + 3) = some (.inl (.int, 6, Dc))) (rD : ∀ i, 0 ≤ Dc i ∧ Dc i ≤ 9) (p4 : hp.2 (P + 4) = some (.inl (.int, 448, Nc))) (rN : ∀ i, 0 ≤ Nc i ∧ Nc i ≤ 7) (ra : 0 ≤ a ∧ a ≤ 5) (hs : s < 64) : Sp g MX4_leastName (rm 2 0 0) [.ref P, .ref h, .int (I a), .int (I (s : Int))] hp (Pur (.int (I (lnm T Dc Nc N a s))) hp) := by
  have hn2 := rN ((a + 1) * 64 + s)
  have hn3 := rN (a * 64 + s)
  refine Sp_mk rfl (Nat.le_of_ble_eq_true rfl) ?_
  show wp g _ _ _ 0 0 0 [some (.ref P), some (.ref h), some (.int (I a)), some (.int (I (s : Int))), none, none] [] hp
  refine wp_aload_n (pc := 0) dX4_leastName_0 rfl ?_
  refine wp_iload_n (pc := 1) dX4_leastName_1 rfl ?_
  refine wp_iload_n (pc := 2) dX4_leastName_2 rfl ?_
  refine wp_Vp (pc := 3) dX4_leastName_3 cl_X4_85 (sp_Partings_namesFrom p0 p4 (by omega) (by omega)) rfl rfl (by repeat (first | assumption | exact hset_eq | refine hset_at (by omega) ?_)) (by rfl) (by decide) (Nat.le_of_ble_eq_true rfl) ?_
  refine wp_istore (pc := 6) dX4_leastName_6 (by decide) ?_
  refine wp_aload_n (pc := 8) dX4_leastName_8 rfl ?_
  refine wp_iload_n (pc := 9) dX4_leastName_9 rfl ?_
  refine wp_iconst (pc := 10) dX4_leastName_10 ?_
  refine wp_iadd (pc := 11) dX4_leastName_11 ?_
  refine wp_iload_n (pc := 12) dX4_leastName_12 rfl ?_
  refine wp_Vp (pc := 13) dX4_leastName_13 cl_X4_85 (sp_Partings_namesFrom p0 p4 (by omega) (by omega)) rfl rfl (by repeat (first | assumption | exact hset_eq | refine hset_at (by omega) ?_)) (by rfl) (by decide) (Nat.le_of_ble_eq_true rfl) ?_
  refine wp_iload (pc := 16) dX4_leastName_16 rfl ?_
  refine wp_icmp_ne (pc := 18) 23 dX4_leastName_18 (by decide) (by omega) (by omega) (fun c18 => ?_) (fun c18 => ?_)
  ·
    refine wp_iconst (pc := 23) dX4_leastName_23 ?_
    refine wp_istore (pc := 24) dX4_leastName_24 (by decide) ?_
    refine wp_ls ?_ (lp_leastName hT hI p0 p3 rD p4 rN ra hs (by omega) (N + 1) 0 (by omega) (by omega) (fun j hj => by omega))
    repeat' (first | exact LE_0 | refine LE_s rfl ?_ | refine LE_s (I_c (by first | omega | (simp only [sm]; omega))) ?_ | refine LE_s (J_c (by first | omega | exact Int.pow_succ _ _ | exact (Int.pow_succ _ _).symm | exact (Int.pow_zero _).symm | (simp only [sm]; omega))) ?_ | refine LE_n ?_)
  ·
    refine wp_iconst (pc := 21) dX4_leastName_21 ?_
    exact wp_ir (pc := 22) dX4_leastName_22 rfl (by decide) (by decide) (by unfold lnm; rw [if_pos (by omega)]) rfl
end PS

