section PT
variable {g : GT} {hp hp2 : Hp} {P r t N h n k s : Nat} {Bc Gc Dc Nc F : Int → Int} {T : Nat → Int → Int} {a b c d o v x y p : Int} {l : List Int}
def mxv (T : Nat → Int → Int) (D : Int → Int) (a : Int) (X : Nat → Int) (s : Nat) : Nat → Int
  | 0 => X s
  | i + 1 => if ¬ s.testBit i = true ∧ 10 * D a ≤ T 3 (i : Int) then mx (mxv T D a X s i) (1 + X (s ||| 2 ^ i)) else mxv T D a X s i
/-- by how many streets are left (of n) and who is named already: the most names -/
def nvt (T : Nat → Int → Int) (D : Int → Int) (N n : Nat) : Nat → Nat → Int
  | 0 => fun _ => 0
  | m + 1 => fun s => mxv T D ((n : Int) - ((m : Int) + 1)) (nvt T D N n m) s N
theorem mnm_mxv {D Nc : Int → Int} {X : Nat → Int} {s : Nat} (hs : s < 64) (h : ∀ s : Nat, s < 64 → Nc ((a + 1) * 64 + s) = X s) : ∀ i, i ≤ 6 → mnm T D Nc a s i = mxv T D a X s i
  | 0, _ => h s hs
  | i + 1, hi => by
    unfold mnm mxv
    rw [mnm_mxv hs h i (by omega), h _ (or_lt hs (by omega))]
theorem mxv_in {D : Int → Int} {X : Nat → Int} {M : Int} (hX : ∀ s, 0 ≤ X s ∧ X s ≤ M) {s : Nat} : ∀ i, 0 ≤ mxv T D a X s i ∧ mxv T D a X s i ≤ M + 1
  | 0 => by have := hX s; unfold mxv; omega
  | i + 1 => by
    have h1 := mxv_in hX (D := D) (s := s) i
    have h2 := hX (s ||| 2 ^ i)
    unfold mxv mx
    split
    · split <;> omega
    · omega
theorem nvt_in (T : Nat → Int → Int) (D : Int → Int) (N n : Nat) : ∀ (m s : Nat), 0 ≤ nvt T D N n m s ∧ nvt T D N n m s ≤ m
  | 0, s => by unfold nvt; omega
  | m + 1, s => mxv_in (nvt_in T D N n m) N
theorem lp_name1 (hn : n ≤ 6) {Q : Option Value → Hp → Prop} (K : ∀ hp2 Nc, hp2.2 P = some (pobj P (n : Int)) → hp2.2 (P + 4) = some (.inl (.int, 448, Nc)) → (∀ i, 0 ≤ Nc i ∧ Nc i ≤ 7) → (∀ s : Nat, s < 64 → Nc ((n : Int) * 64 + s) = 0) → SO hp hp2 (P + 4) (P + 5) → wp g MX4_nameStreets (rm 3 0 0) Q 0 0 29 [some (.ref P), some (.ref h), some (.ref r), none, none, none] [] hp2) : ∀ (m i : Nat), 64 < i + m → i ≤ 64 → ∀ (hp2 : Hp) (Nc : Int → Int) (p0 : hp2.2 P = some (pobj P (n : Int))) (p4 : hp2.2 (P + 4) = some (.inl (.int, 448, Nc))) (rN : ∀ i, 0 ≤ Nc i ∧ Nc i ≤ 7) (hN : ∀ s : Nat, s < i → Nc ((n : Int) * 64 + s) = 0) (hS : SO hp hp2 (P + 4) (P + 5)), wp g MX4_nameStreets (rm 3 0 0) Q 0 0 2 [some (.ref P), some (.ref h), some (.ref r), some (.int (I (i : Int))), none, none] [] hp2 := by
  intro m
  induction m with
  | zero => intro i h1 h2; exact absurd h1 (by omega)
  | succ m ih =>
    intro i h1 h2 hp2 Nc p0 p4 rN hN hS
    refine wp_iload_n (pc := 2) dX4_nameStreets_2 rfl ?_
    refine wp_bipush (pc := 3) (y := 64) dX4_nameStreets_3 (by decide) ?_
    refine wp_icmp_ge (pc := 5) 29 dX4_nameStreets_5 (by decide) (by omega) (by omega) (fun c5 => ?_) (fun c5 => ?_)
    ·
      refine wp_ls ?_ (K hp2 Nc p0 p4 rN (fun s hs => hN s (by omega)) hS)
      repeat' (first | exact LE_0 | refine LE_s rfl ?_ | refine LE_s (I_c (by first | omega | (simp only [sm]; omega))) ?_ | refine LE_s (J_c (by first | omega | exact Int.pow_succ _ _ | exact (Int.pow_succ _ _).symm | exact (Int.pow_zero _).symm | (simp only [sm]; omega))) ?_ | refine LE_n ?_)
    ·
      refine wp_aload_n (pc := 8) dX4_nameStreets_8 rfl ?_
      refine wp_getf (pc := 9) dX4_nameStreets_9 gf_X4_21 (by repeat (first | assumption | exact hset_eq | refine hset_at (by omega) ?_)) (by rfl) ?_
      refine wp_aload_n (pc := 12) dX4_nameStreets_12 rfl ?_
      refine wp_getf (pc := 13) dX4_nameStreets_13 gf_X4_59 (by repeat (first | assumption | exact hset_eq | refine hset_at (by omega) ?_)) (by rfl) ?_
      refine wp_bipush (pc := 16) (y := 64) dX4_nameStreets_16 (by decide) ?_
      refine wp_imul (pc := 18) dX4_nameStreets_18 ?_
      refine wp_iload_n (pc := 19) dX4_nameStreets_19 rfl ?_
      refine wp_iadd (pc := 20) dX4_nameStreets_20 ?_
      refine wp_iconst (pc := 21) dX4_nameStreets_21 ?_
      refine wp_iast (pc := 22) dX4_nameStreets_22 p4 (by omega) (by omega) (by decide) ?_
      refine wp_iinc (pc := 23) dX4_nameStreets_23 rfl (by decide) ?_
      refine wp_goto (pc := 26) 2 dX4_nameStreets_26 (by decide) ?_
      refine wp_ls ?_ (ih (i + 1) (by omega) (by omega) _ (updI Nc ((n : Int) * 64 + (i : Int)) 0) (hset_at (by omega) p0) hset_eq (updI_all (P := fun x => 0 ≤ x ∧ x ≤ 7) rN (by omega)) (fun s hs => ?_) (hS.set (by omega) (by omega)))
      · repeat' (first | exact LE_0 | refine LE_s rfl ?_ | refine LE_s (I_c (by first | omega | (simp only [sm]; omega))) ?_ | refine LE_s (J_c (by first | omega | exact Int.pow_succ _ _ | exact (Int.pow_succ _ _).symm | exact (Int.pow_zero _).symm | (simp only [sm]; omega))) ?_ | refine LE_n ?_)
      · by_cases z : s = i
        · rw [z, updI_eq]
        · rw [updI_ne (by omega)]; exact hN s (by omega)
/-- the table holds the levels from n - m on -/
def tabOk (T : Nat → Int → Int) (D : Int → Int) (N n m : Nat) (Nc : Int → Int) : Prop := ∀ j : Nat, j ≤ m → ∀ s : Nat, s < 64 → Nc (((n : Int) - j) * 64 + s) = nvt T D N n j s
theorem lp_name3 (hI : TI T N) (rD : ∀ i, 0 ≤ Dc i ∧ Dc i ≤ 9) (hn : n ≤ 6) (hk : k < n) {Q : Option Value → Hp → Prop} (K : ∀ hp2 Nc, hp2.2 (P + 4) = some (.inl (.int, 448, Nc)) → (∀ i, 0 ≤ Nc i ∧ Nc i ≤ 7) → tabOk T Dc N n (k + 1) Nc → SO hp hp2 (P + 4) (P + 5) → wp g MX4_nameStreets (rm 3 0 0) Q 0 0 76 [some (.ref P), some (.ref h), some (.ref r), some (.int (I ((n : Int) - 1 - k))), none, none] [] hp2) (hd : h + 8 ≤ P ∨ P + 5 ≤ h) (hT : TownAt hp h T) (p0 : hp.2 P = some (pobj P (n : Int))) (p3 : hp.2 (P + 3) = some (.inl (.int, 6, Dc))) : ∀ (m i : Nat), 64 < i + m → i ≤ 64 → ∀ (hp2 : Hp) (Nc : Int → Int) (p4 : hp2.2 (P + 4) = some (.inl (.int, 448, Nc))) (rN : ∀ i, 0 ≤ Nc i ∧ Nc i ≤ 7) (hN : tabOk T Dc N n k Nc) (hN2 : ∀ s : Nat, s < i → Nc (((n : Int) - (k + 1 : Nat)) * 64 + s) = nvt T Dc N n (k + 1) s) (hS : SO hp hp2 (P + 4) (P + 5)), wp g MX4_nameStreets (rm 3 0 0) Q 0 0 43 [some (.ref P), some (.ref h), some (.ref r), some (.int (I ((n : Int) - 1 - k))), some (.int (I (i : Int))), none] [] hp2 := by
  intro m
  induction m with
  | zero => intro i h1 h2; exact absurd h1 (by omega)
  | succ m ih =>
    intro i h1 h2 hp2 Nc p4 rN hN hN2 hS
    have q0 := (hS.2 P (by omega)).trans p0
    have q3 := (hS.2 (P + 3) (by omega)).trans p3
    have hT2 := hT.fr hS (by omega)
    have hv := nvt_in T Dc N n (k + 1) i
    have iN := hI.2.1
    refine wp_iload (pc := 43) dX4_nameStreets_43 rfl ?_
    refine wp_bipush (pc := 45) (y := 64) dX4_nameStreets_45 (by decide) ?_
    refine wp_icmp_ge (pc := 47) 76 dX4_nameStreets_47 (by decide) (by omega) (by omega) (fun c47 => ?_) (fun c47 => ?_)
    ·
      have e : i = 64 := by omega
      refine wp_ls ?_ (K hp2 Nc p4 rN (fun j hj s hs => ?_) hS)
      · repeat' (first | exact LE_0 | refine LE_s rfl ?_ | refine LE_s (I_c (by first | omega | (simp only [sm]; omega))) ?_ | refine LE_s (J_c (by first | omega | exact Int.pow_succ _ _ | exact (Int.pow_succ _ _).symm | exact (Int.pow_zero _).symm | (simp only [sm]; omega))) ?_ | refine LE_n ?_)
      · by_cases z : j = k + 1
        · rw [z]; exact hN2 s (by omega)
        · exact hN j (by omega) s hs
    ·
      refine wp_aload_n (pc := 50) dX4_nameStreets_50 rfl ?_
      refine wp_getf (pc := 51) dX4_nameStreets_51 gf_X4_21 (by repeat (first | assumption | exact hset_eq | refine hset_at (by omega) ?_)) (by rfl) ?_
      refine wp_iload_n (pc := 54) dX4_nameStreets_54 rfl ?_
      refine wp_bipush (pc := 55) (y := 64) dX4_nameStreets_55 (by decide) ?_
      refine wp_imul (pc := 57) dX4_nameStreets_57 ?_
      refine wp_iload (pc := 58) dX4_nameStreets_58 rfl ?_
      refine wp_iadd (pc := 60) dX4_nameStreets_60 ?_
      refine wp_aload_n (pc := 61) dX4_nameStreets_61 rfl ?_
      refine wp_aload_n (pc := 62) dX4_nameStreets_62 rfl ?_
      refine wp_iload_n (pc := 63) dX4_nameStreets_63 rfl ?_
      refine wp_iload (pc := 64) dX4_nameStreets_64 rfl ?_
      refine wp_Vp (pc := 66) dX4_nameStreets_66 cl_X4_69 (sp_Partings_mostNames (d := (n : Int)) (a := (n : Int) - 1 - k) hT2 hI q0 q3 rD p4 rN (by omega) (by omega)) rfl rfl (by repeat (first | assumption | exact hset_eq | refine hset_at (by omega) ?_)) (by rfl) (by decide) (Nat.le_of_ble_eq_true rfl) ?_
      refine wp_topE (b := nvt T Dc N n (k + 1) i) (by show _ = mxv T Dc _ _ _ _; rw [show (n : Int) - ((k : Int) + 1) = (n : Int) - 1 - k by omega]; exact mnm_mxv (by omega) (fun s hs => by have := hN k (Nat.le_refl _) s hs; rwa [show (n : Int) - 1 - k + 1 = (n : Int) - k by omega]) N iN) ?_
      refine wp_iast (pc := 69) dX4_nameStreets_69 p4 (by omega) (by omega) (by decide) ?_
      refine wp_iinc (pc := 70) dX4_nameStreets_70 rfl (by decide) ?_
      refine wp_goto (pc := 73) 43 dX4_nameStreets_73 (by decide) ?_
      refine wp_ls ?_ (ih (i + 1) (by omega) (by omega) _ (updI Nc (((n : Int) - 1 - k) * 64 + (i : Int)) (nvt T Dc N n (k + 1) i)) hset_eq (updI_all (P := fun x => 0 ≤ x ∧ x ≤ 7) rN (by omega)) (fun j hj s hs => ?_) (fun s hs => ?_) (hS.set (by omega) (by omega)))
      · repeat' (first | exact LE_0 | refine LE_s rfl ?_ | refine LE_s (I_c (by first | omega | (simp only [sm]; omega))) ?_ | refine LE_s (J_c (by first | omega | exact Int.pow_succ _ _ | exact (Int.pow_succ _ _).symm | exact (Int.pow_zero _).symm | (simp only [sm]; omega))) ?_ | refine LE_n ?_)
      · rw [updI_ne (by omega)]; exact hN j hj s hs
      · by_cases z : s = i
        · rw [z, show ((n : Int) - ((k + 1 : Nat) : Int)) * 64 + (i : Int) = ((n : Int) - 1 - k) * 64 + (i : Int) by omega, updI_eq]
        · rw [updI_ne (by omega)]; exact hN2 s (by omega)
theorem lp_name2 (hI : TI T N) (rD : ∀ i, 0 ≤ Dc i ∧ Dc i ≤ 9) (hn : n ≤ 6) {Q : Option Value → Hp → Prop} (K : ∀ hp2 Nc, hp2.2 (P + 4) = some (.inl (.int, 448, Nc)) → (∀ i, 0 ≤ Nc i ∧ Nc i ≤ 7) → tabOk T Dc N n n Nc → SO hp hp2 (P + 4) (P + 5) → wp g MX4_nameStreets (rm 3 0 0) Q 0 0 82 [some (.ref P), some (.ref h), some (.ref r), none, none, none] [] hp2) (hd : h + 8 ≤ P ∨ P + 5 ≤ h) (hT : TownAt hp h T) (p0 : hp.2 P = some (pobj P (n : Int))) (p3 : hp.2 (P + 3) = some (.inl (.int, 6, Dc))) : ∀ (m i : Nat), n < i + m → i ≤ n → ∀ (hp2 : Hp) (Nc : Int → Int) (p4 : hp2.2 (P + 4) = some (.inl (.int, 448, Nc))) (rN : ∀ i, 0 ≤ Nc i ∧ Nc i ≤ 7) (hN : tabOk T Dc N n i Nc) (hS : SO hp hp2 (P + 4) (P + 5)), wp g MX4_nameStreets (rm 3 0 0) Q 0 0 36 [some (.ref P), some (.ref h), some (.ref r), some (.int (I ((n : Int) - 1 - (i : Int)))), none, none] [] hp2 := by
  intro m
  induction m with
  | zero => intro i h1 h2; exact absurd h1 (by omega)
  | succ m ih =>
    intro i h1 h2 hp2 Nc p4 rN hN hS
    refine wp_iload_n (pc := 36) dX4_nameStreets_36 rfl ?_
    refine wp_if_lt (pc := 37) 82 dX4_nameStreets_37 (by decide) (by omega) (fun c37 => ?_) (fun c37 => ?_)
    ·
      have e : i = n := by omega
      subst e
      refine wp_ls ?_ (K hp2 Nc p4 rN hN hS)
      repeat' (first | exact LE_0 | refine LE_s rfl ?_ | refine LE_s (I_c (by first | omega | (simp only [sm]; omega))) ?_ | refine LE_s (J_c (by first | omega | exact Int.pow_succ _ _ | exact (Int.pow_succ _ _).symm | exact (Int.pow_zero _).symm | (simp only [sm]; omega))) ?_ | refine LE_n ?_)
    ·
      refine wp_iconst (pc := 40) dX4_nameStreets_40 ?_
      refine wp_istore (pc := 41) dX4_nameStreets_41 (by decide) ?_
      refine wp_ls ?_ (lp_name3 (hp := hp) (n := n) (k := i) (r := r) hI rD hn (by omega) (fun hp3 N3 q4 rN3 hN3 hS3 => ?_) hd hT p0 p3 65 0 (by omega) (by omega) hp2 Nc p4 rN hN (fun s hs => by omega) hS)
      · repeat' (first | exact LE_0 | refine LE_s rfl ?_ | refine LE_s (I_c (by first | omega | (simp only [sm]; omega))) ?_ | refine LE_s (J_c (by first | omega | exact Int.pow_succ _ _ | exact (Int.pow_succ _ _).symm | exact (Int.pow_zero _).symm | (simp only [sm]; omega))) ?_ | refine LE_n ?_)
      · refine wp_iinc (pc := 76) dX4_nameStreets_76 rfl (by decide) ?_
        refine wp_goto (pc := 79) 36 dX4_nameStreets_79 (by decide) ?_
        refine wp_ls ?_ (ih (i + 1) (by omega) (by omega) hp3 N3 q4 rN3 hN3 hS3)
        repeat' (first | exact LE_0 | refine LE_s rfl ?_ | refine LE_s (I_c (by first | omega | (simp only [sm]; omega))) ?_ | refine LE_s (J_c (by first | omega | exact Int.pow_succ _ _ | exact (Int.pow_succ _ _).symm | exact (Int.pow_zero _).symm | (simp only [sm]; omega))) ?_ | refine LE_n ?_)
/-- who bears street a's name, by the most names behind it (X) and with it (Y) -/
def lvP (T : Nat → Int → Int) (D : Int → Int) (a : Int) (X Y : Nat → Int) (s : Nat) : Nat → Bool := fun i => decide ((¬ s.testBit i = true ∧ 10 * D a ≤ T 3 (i : Int)) ∧ 1 + X (s ||| 2 ^ i) = Y s)
def lvn (T : Nat → Int → Int) (D : Int → Int) (N : Nat) (a : Int) (X Y : Nat → Int) (s : Nat) : Int := if X s = Y s then -1 else if fst (lvP T D a X Y s) N < N then ((fst (lvP T D a X Y s) N : Nat) : Int) else -1
theorem fst_congr {P P' : Nat → Bool} : ∀ {n : Nat}, (∀ i, i < n → P i = P' i) → fst P n = fst P' n
  | 0, _ => rfl
  | n + 1, h => by
    unfold fst
    rw [fst_congr (fun i hi => h i (by omega)), h n (by omega)]
theorem lnm_lvn {D Nc : Int → Int} {X Y : Nat → Int} {s : Nat} (hs : s < 64) (hN6 : N ≤ 6) (hX : ∀ s : Nat, s < 64 → Nc ((a + 1) * 64 + s) = X s) (hY : ∀ s : Nat, s < 64 → Nc (a * 64 + s) = Y s) : lnm T D Nc N a s = lvn T D N a X Y s := by
  unfold lnm lvn
  rw [hX s hs, hY s hs, fst_congr (P := lnP T D Nc a s) (P' := lvP T D a X Y s) (fun i hi => by unfold lnP lvP; rw [hX _ (or_lt hs (by omega)), hY s hs])]
/-- the streets named one by one: who is named, the row -/
def ngs (T : Nat → Int → Int) (D : Int → Int) (N n : Nat) : Nat → Nat × List Int
  | 0 => (0, [])
  | a + 1 => (if lvn T D N a (nvt T D N n (n - (a + 1))) (nvt T D N n (n - a)) (ngs T D N n a).1 = -1 then (ngs T D N n a).1 else (ngs T D N n a).1 ||| 2 ^ (lvn T D N a (nvt T D N n (n - (a + 1))) (nvt T D N n (n - a)) (ngs T D N n a).1).toNat, (ngs T D N n a).2 ++ [lvn T D N a (nvt T D N n (n - (a + 1))) (nvt T D N n (n - a)) (ngs T D N n a).1])
theorem lvn_in (T : Nat → Int → Int) (D : Int → Int) (N : Nat) (a : Int) (X Y : Nat → Int) (s : Nat) : -1 ≤ lvn T D N a X Y s ∧ lvn T D N a X Y s < N := by
  unfold lvn
  split
  · omega
  · split <;> omega
theorem ngs_in {D : Int → Int} (hN6 : N ≤ 6) : ∀ a : Nat, (ngs T D N n a).1 < 64 ∧ (ngs T D N n a).2.length = a
  | 0 => by unfold ngs; exact ⟨by decide, rfl⟩
  | a + 1 => by
    have h1 := ngs_in (D := D) hN6 a
    have h2 := lvn_in T D N a (nvt T D N n (n - (a + 1))) (nvt T D N n (n - a)) (ngs T D N n a).1
    unfold ngs
    refine ⟨?_, by simp [h1.2]⟩
    dsimp only
    split
    · exact h1.1
    · exact or_lt h1.1 (by omega)
theorem lp_name4 (hI : TI T N) (rD : ∀ i, 0 ≤ Dc i ∧ Dc i ≤ 9) (hn : n ≤ 6) (hd : h + 8 ≤ P ∨ P + 5 ≤ h) (hd2 : r + 2 ≤ P ∨ P + 5 ≤ r) (hd3 : r + 2 ≤ h ∨ h + 8 ≤ r) (hT : TownAt hp h T) (p0 : hp.2 P = some (pobj P (n : Int))) (p3 : hp.2 (P + 3) = some (.inl (.int, 6, Dc))) (p4 : hp.2 (P + 4) = some (.inl (.int, 448, Nc))) (rN : ∀ i, 0 ≤ Nc i ∧ Nc i ≤ 7) (hN : tabOk T Dc N n n Nc) : ∀ (m i : Nat), n < i + m → i ≤ n → ∀ (hp2 : Hp) (hR : RowAt hp2 r (ngs T Dc N n i).2) (hS : SO hp hp2 r (r + 2)), wp g MX4_nameStreets (rm 3 0 0) (Eff (.int (I (nvt T Dc N n n 0))) (fun hp2 => RowAt hp2 r (ngs T Dc N n n).2 ∧ SO hp hp2 r (r + 2))) 0 0 91 [some (.ref P), some (.ref h), some (.ref r), some (.int (I (((ngs T Dc N n i).1 : Nat) : Int))), some (.int (I (i : Int))), none] [] hp2 := by
  intro m
  induction m with
  | zero => intro i h1 h2; exact absurd h1 (by omega)
  | succ m ih =>
    intro i h1 h2 hp2 hR hS
    have q0 := (hS.2 P (by omega)).trans p0
    have q3 := (hS.2 (P + 3) (by omega)).trans p3
    have q4 := (hS.2 (P + 4) (by omega)).trans p4
    have hT2 := hT.fr hS (by omega)
    have iN := hI.2.1
    have hng := ngs_in (T := T) (n := n) (D := Dc) iN i
    have hlv := lvn_in T Dc N i (nvt T Dc N n (n - (i + 1))) (nvt T Dc N n (n - i)) (ngs T Dc N n i).1
    have hR' := hR
    obtain ⟨FR, r0, r1, hl, hFR⟩ := hR
    refine wp_iload (pc := 91) dX4_nameStreets_91 rfl ?_
    refine wp_aload_n (pc := 93) dX4_nameStreets_93 rfl ?_
    refine wp_getf (pc := 94) dX4_nameStreets_94 gf_X4_59 (by repeat (first | assumption | exact hset_eq | refine hset_at (by omega) ?_)) (by rfl) ?_
    refine wp_icmp_ge (pc := 97) 140 dX4_nameStreets_97 (by decide) (by omega) (by omega) (fun c97 => ?_) (fun c97 => ?_)
    ·
      have e : i = n := by omega
      subst e -- go
      refine wp_aload_n (pc := 140) dX4_nameStreets_140 rfl ?_
      refine wp_getf (pc := 141) dX4_nameStreets_141 gf_X4_21 (by repeat (first | assumption | exact hset_eq | refine hset_at (by omega) ?_)) (by rfl) ?_
      refine wp_iconst (pc := 144) dX4_nameStreets_144 ?_
      refine wp_iald (pc := 145) dX4_nameStreets_145 q4 (by omega) (by omega) (by decide) ?_
      exact wp_ir (pc := 146) dX4_nameStreets_146 rfl (by decide) (by decide) (by have := hN i (Nat.le_refl _) 0 (by omega); rwa [show ((i : Int) - i) * 64 + ((0 : Nat) : Int) = 0 by omega] at this) ⟨hR', hS⟩
    ·
      refine wp_aload_n (pc := 100) dX4_nameStreets_100 rfl ?_
      refine wp_aload_n (pc := 101) dX4_nameStreets_101 rfl ?_
      refine wp_iload (pc := 102) dX4_nameStreets_102 rfl ?_
      refine wp_iload_n (pc := 104) dX4_nameStreets_104 rfl ?_
      refine wp_Vp (pc := 105) dX4_nameStreets_105 cl_X4_78 (sp_Partings_leastName (N := N) (d := (n : Int)) hT2 hI q0 q3 rD q4 rN (by omega) hng.1) rfl rfl (by repeat (first | assumption | exact hset_eq | refine hset_at (by omega) ?_)) (by rfl) (by decide) (Nat.le_of_ble_eq_true rfl) ?_
      refine wp_topE (lnm_lvn (X := nvt T Dc N n (n - (i + 1))) (Y := nvt T Dc N n (n - i)) hng.1 iN (fun s hs => by have := hN (n - (i + 1)) (by omega) s hs; rwa [show (n : Int) - ((n - (i + 1) : Nat) : Int) = (i : Int) + 1 by omega] at this) (fun s hs => by have := hN (n - i) (by omega) s hs; rwa [show (n : Int) - ((n - i : Nat) : Int) = (i : Int) by omega] at this)) ?_
      refine wp_istore (pc := 108) dX4_nameStreets_108 (by decide) ?_
      refine wp_aload_n (pc := 110) dX4_nameStreets_110 rfl ?_
      refine wp_iload (pc := 111) dX4_nameStreets_111 rfl ?_
      refine wp_i2l (pc := 113) dX4_nameStreets_113 (by omega) ?_
      refine wp_Vn (pc := 114) dX4_nameStreets_114 cl_X4_81 (sp_Row_add hR' (by omega)) rfl rfl r0 (by rfl) (by decide) (Nat.le_of_ble_eq_true rfl) (fun hp114 e114 => ?_)
      refine wp_iload_n (pc := 117) dX4_nameStreets_117 rfl ?_
      refine wp_iload (pc := 118) dX4_nameStreets_118 rfl ?_
      refine wp_iconst (pc := 120) dX4_nameStreets_120 ?_
      refine wp_icmp_ne (pc := 121) 128 dX4_nameStreets_121 (by decide) (by omega) (by omega) (fun c121 => ?_) (fun c121 => ?_)
      ·
        have e2 : (ngs T Dc N n (i + 1)).1 = (ngs T Dc N n i).1 ||| 2 ^ (lvn T Dc N i (nvt T Dc N n (n - (i + 1))) (nvt T Dc N n (n - i)) (ngs T Dc N n i).1).toNat := if_neg c121
        skip -- go
        refine wp_iconst (pc := 128) dX4_nameStreets_128 ?_
        refine wp_iload (pc := 129) dX4_nameStreets_129 rfl ?_
        refine wp_topE (b := (((lvn T Dc N i (nvt T Dc N n (n - (i + 1))) (nvt T Dc N n (n - i)) (ngs T Dc N n i).1).toNat : Nat) : Int)) (by omega) ?_
        refine wp_ishl (pc := 131) dX4_nameStreets_131 (I_shl (by omega)) ?_
        first
        | refine wp_ior (pc := 132) dX4_nameStreets_132 (v := I ((((ngs T Dc N n i).1 ||| 0 : Nat)) : Int)) I_or ?_
          rw [Nat.or_zero, ← e2]
          refine wp_istore_n (pc := 133) dX4_nameStreets_133 (by decide) ?_
          refine wp_iinc (pc := 134) dX4_nameStreets_134 rfl (by decide) ?_
          refine wp_goto (pc := 137) 91 dX4_nameStreets_137 (by decide) ?_
          refine wp_ls ?_ (ih (i + 1) (by omega) (by omega) hp114 e114.1 (hS.tr e114.2))
          repeat' (first | exact LE_0 | refine LE_s rfl ?_ | refine LE_s (I_c (by first | omega | (simp only [sm]; omega))) ?_ | refine LE_s (J_c (by first | omega | exact Int.pow_succ _ _ | exact (Int.pow_succ _ _).symm | exact (Int.pow_zero _).symm | (simp only [sm]; omega))) ?_ | refine LE_n ?_)
        | refine wp_ior (pc := 132) dX4_nameStreets_132 I_or ?_
          rw [← e2]
          refine wp_istore_n (pc := 133) dX4_nameStreets_133 (by decide) ?_
          refine wp_iinc (pc := 134) dX4_nameStreets_134 rfl (by decide) ?_
          refine wp_goto (pc := 137) 91 dX4_nameStreets_137 (by decide) ?_
          refine wp_ls ?_ (ih (i + 1) (by omega) (by omega) hp114 e114.1 (hS.tr e114.2))
          repeat' (first | exact LE_0 | refine LE_s rfl ?_ | refine LE_s (I_c (by first | omega | (simp only [sm]; omega))) ?_ | refine LE_s (J_c (by first | omega | exact Int.pow_succ _ _ | exact (Int.pow_succ _ _).symm | exact (Int.pow_zero _).symm | (simp only [sm]; omega))) ?_ | refine LE_n ?_)
      ·
        have e2 : (ngs T Dc N n (i + 1)).1 = (ngs T Dc N n i).1 := if_pos c121
        skip -- go
        refine wp_iconst (pc := 124) dX4_nameStreets_124 ?_
        refine wp_goto (pc := 125) 132 dX4_nameStreets_125 (by decide) ?_
        first
        | refine wp_ior (pc := 132) dX4_nameStreets_132 (v := I ((((ngs T Dc N n i).1 ||| 0 : Nat)) : Int)) I_or ?_
          rw [Nat.or_zero, ← e2]
          refine wp_istore_n (pc := 133) dX4_nameStreets_133 (by decide) ?_
          refine wp_iinc (pc := 134) dX4_nameStreets_134 rfl (by decide) ?_
          refine wp_goto (pc := 137) 91 dX4_nameStreets_137 (by decide) ?_
          refine wp_ls ?_ (ih (i + 1) (by omega) (by omega) hp114 e114.1 (hS.tr e114.2))
          repeat' (first | exact LE_0 | refine LE_s rfl ?_ | refine LE_s (I_c (by first | omega | (simp only [sm]; omega))) ?_ | refine LE_s (J_c (by first | omega | exact Int.pow_succ _ _ | exact (Int.pow_succ _ _).symm | exact (Int.pow_zero _).symm | (simp only [sm]; omega))) ?_ | refine LE_n ?_)
        | refine wp_ior (pc := 132) dX4_nameStreets_132 I_or ?_
          rw [← e2]
          refine wp_istore_n (pc := 133) dX4_nameStreets_133 (by decide) ?_
          refine wp_iinc (pc := 134) dX4_nameStreets_134 rfl (by decide) ?_
          refine wp_goto (pc := 137) 91 dX4_nameStreets_137 (by decide) ?_
          refine wp_ls ?_ (ih (i + 1) (by omega) (by omega) hp114 e114.1 (hS.tr e114.2))
          repeat' (first | exact LE_0 | refine LE_s rfl ?_ | refine LE_s (I_c (by first | omega | (simp only [sm]; omega))) ?_ | refine LE_s (J_c (by first | omega | exact Int.pow_succ _ _ | exact (Int.pow_succ _ _).symm | exact (Int.pow_zero _).symm | (simp only [sm]; omega))) ?_ | refine LE_n ?_)
theorem seg_n82 (hI : TI T N) (rD : ∀ i, 0 ≤ Dc i ∧ Dc i ≤ 9) (hn : n ≤ 6) (hd : h + 8 ≤ P ∨ P + 5 ≤ h) (hd2 : r + 2 ≤ P ∨ P + 5 ≤ r) (hd3 : r + 2 ≤ h ∨ h + 8 ≤ r) (hT : TownAt hp h T) (hR : RowAt hp r l) (p0 : hp.2 P = some (pobj P (n : Int))) (p3 : hp.2 (P + 3) = some (.inl (.int, 6, Dc))) (p4 : hp.2 (P + 4) = some (.inl (.int, 448, Nc))) (rN : ∀ i, 0 ≤ Nc i ∧ Nc i ≤ 7) (hN : tabOk T Dc N n n Nc) : wp g MX4_nameStreets (rm 3 0 0) (Eff (.int (I (nvt T Dc N n n 0))) (fun hp2 => RowAt hp2 r (ngs T Dc N n n).2 ∧ SO hp hp2 r (r + 2))) 0 0 82 [some (.ref P), some (.ref h), some (.ref r), none, none, none] [] hp := by
  have hR' := hR
  obtain ⟨FR, r0, r1, hl, hFR⟩ := hR
  refine wp_aload_n (pc := 82) dX4_nameStreets_82 rfl ?_
  refine wp_Vn (pc := 83) dX4_nameStreets_83 cl_X4_73 (sp_Row_clear (by first | assumption | omega)) rfl rfl (by repeat (first | assumption | exact hset_eq | refine hset_at (by omega) ?_)) (by rfl) (by decide) (Nat.le_of_ble_eq_true rfl) (fun hp83 e83 => ?_)
  refine wp_iconst (pc := 86) dX4_nameStreets_86 ?_
  refine wp_istore_n (pc := 87) dX4_nameStreets_87 (by decide) ?_
  refine wp_iconst (pc := 88) dX4_nameStreets_88 ?_
  refine wp_istore (pc := 89) dX4_nameStreets_89 (by decide) ?_
  refine wp_ls ?_ (lp_name4 (hp := hp) hI rD hn hd hd2 hd3 hT p0 p3 p4 rN hN (n + 1) 0 (by omega) (by omega) hp83 e83.1 e83.2)
  repeat' (first | exact LE_0 | refine LE_s rfl ?_ | refine LE_s (I_c (by first | omega | (simp only [sm]; omega))) ?_ | refine LE_s (J_c (by first | omega | exact Int.pow_succ _ _ | exact (Int.pow_succ _ _).symm | exact (Int.pow_zero _).symm | (simp only [sm]; omega))) ?_ | refine LE_n ?_)
theorem seg_n29 (hI : TI T N) (rD : ∀ i, 0 ≤ Dc i ∧ Dc i ≤ 9) (hn : n ≤ 6) (hd : h + 8 ≤ P ∨ P + 5 ≤ h) (hd2 : r + 2 ≤ P ∨ P + 5 ≤ r) (hd3 : r + 2 ≤ h ∨ h + 8 ≤ r) (hT : TownAt hp h T) (hR : RowAt hp r l) (p0 : hp.2 P = some (pobj P (n : Int))) (p3 : hp.2 (P + 3) = some (.inl (.int, 6, Dc))) (p4 : hp.2 (P + 4) = some (.inl (.int, 448, Nc))) (rN : ∀ i, 0 ≤ Nc i ∧ Nc i ≤ 7) (hN : ∀ s : Nat, s < 64 → Nc ((n : Int) * 64 + s) = 0) : wp g MX4_nameStreets (rm 3 0 0) (Eff (.int (I (nvt T Dc N n n 0))) (fun hp2 => RowAt hp2 r (ngs T Dc N n n).2 ∧ (∃ Nc, hp2.2 (P + 4) = some (.inl (.int, 448, Nc)) ∧ ∀ i, 0 ≤ Nc i ∧ Nc i ≤ 7) ∧ hp2.1 = hp.1 ∧ ∀ x, x ≠ P + 4 → (x < r ∨ r + 2 ≤ x) → hp2.2 x = hp.2 x)) 0 0 29 [some (.ref P), some (.ref h), some (.ref r), none, none, none] [] hp := by
  refine wp_aload_n (pc := 29) dX4_nameStreets_29 rfl ?_
  refine wp_getf (pc := 30) dX4_nameStreets_30 gf_X4_59 (by repeat (first | assumption | exact hset_eq | refine hset_at (by omega) ?_)) (by rfl) ?_
  refine wp_iconst (pc := 33) dX4_nameStreets_33 ?_
  refine wp_isub (pc := 34) dX4_nameStreets_34 ?_
  refine wp_istore_n (pc := 35) dX4_nameStreets_35 (by decide) ?_
  refine wp_ls ?_ (lp_name2 (hp := hp) (n := n) (r := r) hI rD hn (fun hp3 N3 q4 rN3 hN3 hS3 => wp_post (fun u hq z => ?_) (seg_n82 hI rD hn hd hd2 hd3 (hT.fr hS3 (by omega)) (hR.fr hS3 (by omega)) ((hS3.2 _ (by omega)).trans p0) ((hS3.2 _ (by omega)).trans p3) q4 rN3 hN3)) hd hT p0 p3 (n + 1) 0 (by omega) (by omega) hp Nc p4 rN (fun j hj s hs => ?_) SO.rf)
  · repeat' (first | exact LE_0 | refine LE_s rfl ?_ | refine LE_s (I_c (by first | omega | (simp only [sm]; omega))) ?_ | refine LE_s (J_c (by first | omega | exact Int.pow_succ _ _ | exact (Int.pow_succ _ _).symm | exact (Int.pow_zero _).symm | (simp only [sm]; omega))) ?_ | refine LE_n ?_)
  · obtain ⟨z1, z2, z3⟩ := z
    exact ⟨z1, z2, ⟨N3, (z3.2 _ (by omega)).trans q4, rN3⟩, z3.1.trans hS3.1, fun x y1 y2 => (z3.2 x y2).trans (hS3.2 x (by omega))⟩
  · rw [show j = 0 by omega, show ((n : Int) - ((0 : Nat) : Int)) * 64 + (s : Int) = (n : Int) * 64 + s by omega]; exact hN s hs
theorem sp_Partings_nameStreets (hI : TI T N) (rD : ∀ i, 0 ≤ Dc i ∧ Dc i ≤ 9) (hn : n ≤ 6) (hd : h + 8 ≤ P ∨ P + 5 ≤ h) (hd2 : r + 2 ≤ P ∨ P + 5 ≤ r) (hd3 : r + 2 ≤ h ∨ h + 8 ≤ r) (hT : TownAt hp h T) (hR : RowAt hp r l) (p0 : hp.2 P = some (pobj P (n : Int))) (p3 : hp.2 (P + 3) = some (.inl (.int, 6, Dc))) (hP : PartAt hp P) : Sp g MX4_nameStreets (rm 3 0 0) [.ref P, .ref h, .ref r] hp (Eff (.int (I (nvt T Dc N n n 0))) (fun hp2 => RowAt hp2 r (ngs T Dc N n n).2 ∧ PartAt hp2 P ∧ hp2.1 = hp.1 ∧ ∀ x, (x < P ∨ P + 5 ≤ x) → (x < r ∨ r + 2 ≤ x) → hp2.2 x = hp.2 x)) := by
  have hP' := hP
  obtain ⟨⟨m, m0⟩, ⟨F, p1⟩, ⟨G, p2, r2⟩, ⟨D, m3, r3⟩, ⟨M, p4, r4⟩⟩ := hP
  refine Sp_mk rfl (Nat.le_of_ble_eq_true rfl) ?_
  show wp g _ _ _ 0 0 0 [some (.ref P), some (.ref h), some (.ref r), none, none, none] [] hp
  refine wp_iconst (pc := 0) dX4_nameStreets_0 ?_
  refine wp_istore_n (pc := 1) dX4_nameStreets_1 (by decide) ?_
  refine wp_ls ?_ (lp_name1 (hp := hp) (r := r) (h := h) hn (fun hp3 N3 q0 q4 rN3 hN3 hS3 => wp_post (fun u hq z => ?_) (seg_n29 hI rD hn hd hd2 hd3 (hT.fr hS3 (by omega)) (hR.fr hS3 (by omega)) q0 ((hS3.2 _ (by omega)).trans p3) q4 rN3 hN3)) 65 0 (by omega) (by omega) hp M p0 p4 r4 (fun s hs => by omega) SO.rf)
  · repeat' (first | exact LE_0 | refine LE_s rfl ?_ | refine LE_s (I_c (by first | omega | (simp only [sm]; omega))) ?_ | refine LE_s (J_c (by first | omega | exact Int.pow_succ _ _ | exact (Int.pow_succ _ _).symm | exact (Int.pow_zero _).symm | (simp only [sm]; omega))) ?_ | refine LE_n ?_)
  · obtain ⟨z1, z2, ⟨Nq, z3, z4⟩, z5, z6⟩ := z
    have zz : ∀ x, x ≠ P + 4 → (x < r ∨ r + 2 ≤ x) → hq.2 x = hp.2 x := fun x y1 y2 => (z6 x y1 y2).trans (hS3.2 x (by omega))
    exact ⟨z1, z2, ⟨⟨_, (zz _ (by omega) (by omega)).trans p0⟩, ⟨F, (zz _ (by omega) (by omega)).trans p1⟩, ⟨G, (zz _ (by omega) (by omega)).trans p2, r2⟩, ⟨Dc, (zz _ (by omega) (by omega)).trans p3, rD⟩, ⟨Nq, z3, z4⟩⟩, z5.trans hS3.1, fun x y1 y2 => zz x (by omega) y2⟩
end PT

