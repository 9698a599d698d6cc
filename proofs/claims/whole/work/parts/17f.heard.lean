/-! the class: who it was, a law of speaking, the bank, coughs, rests -/
section D5
variable {g : GT} {hp hp2 hp0 : Hp} {D r s N n k i P : Nat} {T T2 Tr Z : Nat → Int → Int} {z x y a b c : Int} {U : List (Nat → Int → Int)} {tx rw rt : List Int} {hs : List (Int × Int)} {ss : List (Int × Int × Int)} {KT : Nat → Option (Nat → Int → Int)}
theorem psL_eq {O E W : Int → Int} (q : ∀ i : Nat, i < ss.length → O (i : Int) = (ss.getD i (0, 0, 0)).1 ∧ E (i : Int) = (ss.getD i (0, 0, 0)).2.1 ∧ W (i : Int) = (ss.getD i (0, 0, 0)).2.2) : posb O E W ss.length b = psL ss b := by
  funext k
  exact allb_cg _ (fun i hi => by unfold fit1 fitL; rw [(q i hi).1, (q i hi).2.1, (q i hi).2.2])
theorem mw_le {t : Nat → Int} {X : Int} (h0 : 0 ≤ X) : ∀ n : Nat, (∀ w, w < n → t w ≤ X) → mw t n ≤ X
  | 0, _ => h0
  | n + 1, h => by
    have h1 := mw_le h0 n (fun w q => h w (by omega))
    have h2 := h n (by omega)
    show mx _ _ ≤ X
    unfold mx
    split <;> omega
theorem le_mw {t : Nat → Int} {w : Nat} : ∀ n : Nat, w < n → t w ≤ mw t n
  | 0, h => by omega
  | n + 1, h => by
    show t w ≤ mx _ _
    unfold mx
    by_cases e : w = n
    · subst e
      split <;> omega
    · have := le_mw (t := t) n (show w < n by omega)
      split <;> omega
theorem mw_0 {t : Nat → Int} : ∀ n : Nat, 0 ≤ mw t n
  | 0 => Int.le_refl _
  | n + 1 => by
    have := mw_0 (t := t) n
    show 0 ≤ mx _ _
    unfold mx
    split <;> omega
theorem mot_mw (P : Nat → Bool) (o : Int) : ∀ n : Nat, mot P o n = mw (fun w => tly P o n (w : Int)) 10
  | 0 => by
    apply Int.le_antisymm
    · exact mw_0 _
    · exact mw_le (Int.le_refl _) _ (fun w _ => Int.le_refl _)
  | n + 1 => by
    have ih := mot_mw P o n
    have hs := sy_in o ((n : Int) - 9)
    obtain ⟨w0, hw0⟩ := Int.eq_ofNat_of_zero_le hs.1
    by_cases c : P n = true
    · have e : mot P o (n + 1) = mx (mot P o n) (tly P o (n + 1) (sy o ((n : Int) - 9))) := if_pos c
      rw [e, ih]
      have hle : ∀ w : Nat, w < 10 → tly P o n (w : Int) ≤ tly P o (n + 1) (w : Int) := fun w _ => by
        by_cases d : sy o ((n : Int) - 9) = (w : Int)
        · rw [tly_yes ⟨c, d⟩]; omega
        · rw [tly_no (fun q => d q.2)]; omega
      apply Int.le_antisymm
      · have h1 : mw (fun w => tly P o n (w : Int)) 10 ≤ mw (fun w => tly P o (n + 1) (w : Int)) 10 := mw_le (mw_0 _) _ (fun w q => Int.le_trans (hle w q) (le_mw (t := fun w => tly P o (n + 1) (w : Int)) 10 q))
        have h2 : tly P o (n + 1) (sy o ((n : Int) - 9)) ≤ mw (fun w => tly P o (n + 1) (w : Int)) 10 := by
          rw [hw0]
          exact le_mw (t := fun w => tly P o (n + 1) (w : Int)) 10 (show w0 < 10 by omega)
        unfold mx
        split <;> omega
      · refine mw_le ?_ _ (fun w q => ?_)
        · have := mw_0 (t := fun w => tly P o n (w : Int)) 10
          unfold mx
          split <;> omega
        · by_cases d : sy o ((n : Int) - 9) = (w : Int)
          · rw [d]
            unfold mx
            split <;> omega
          · have e2 := tly_no (P := P) (o := o) (w := (w : Int)) (i := n) (fun q => d q.2)
            have := le_mw (t := fun w => tly P o n (w : Int)) 10 q
            have h3 : tly P o (n + 1) (w : Int) ≤ mw (fun w => tly P o n (w : Int)) 10 := by rw [e2]; exact this
            unfold mx
            split <;> omega
    · have e : mot P o (n + 1) = mot P o n := if_neg c
      have e2 : (fun w : Nat => tly P o (n + 1) (w : Int)) = fun w : Nat => tly P o n (w : Int) := by
        funext w
        exact tly_no (fun q => c q.1)
      rw [e, ih, e2]
theorem tly_rm {o : Int} {w : Nat} : tly (psL ss b) o 19 (w : Int) = ((rmC ss b o (w : Int) : Nat) : Int) := by
  unfold tly rmC
  congr 1
theorem sp_S_fit (k : ShA hp P ss) (rb : 0 ≤ b ∧ b ≤ 1) : Sp g MX8_fitting (rm 3 0 0) [.ref P, .int (I b)] hp (Pur (.int (I ((cnt (psL ss b) 19 : Nat) : Int))) hp) := by
  obtain ⟨O, E, W, p, q⟩ := k
  rw [← psL_eq q]
  exact sp_Shifts_fitting p rb
theorem sp_S_least (k : ShA hp P ss) (rb : 0 ≤ b ∧ b ≤ 1) : Sp g MX8_least (rm 3 0 0) [.ref P, .int (I b)] hp (Pur (.int (I (((fst (psL ss b) 18 : Nat) : Int) - 9))) hp) := by
  obtain ⟨O, E, W, p, q⟩ := k
  rw [← psL_eq q]
  exact sp_Shifts_least p rb
theorem sp_S_left {o : Int} (k : ShA hp P ss) (rb : 0 ≤ b ∧ b ≤ 1) (ro : 0 ≤ o ∧ o ≤ 9) : Sp g MX8_leftAtMost (rm 3 0 0) [.ref P, .int (I b), .int (I o)] hp (Eff (.int (I (mw (fun w => ((rmC ss b o (w : Int) : Nat) : Int)) 10))) (fun hp2 => ShA hp2 P ss ∧ SO hp hp2 P (P + 5))) := by
  obtain ⟨O, E, W, p, q⟩ := k
  have e : mot (posb O E W ss.length b) o 19 = mw (fun w => ((rmC ss b o (w : Int) : Nat) : Int)) 10 := by
    rw [psL_eq q, mot_mw]
    congr 1
  rw [← e]
  exact Sp_post (sp_Shifts_leftAtMost p rb ro) (fun v hp3 hv => ⟨hv.1, ⟨O, E, W, hv.2.1, q⟩, hv.2.2⟩)
theorem sp_D_heard (K : DA hp D r s Tr z Z T U tx rw rt hs ss KT) (rx : InR x) (ry : InR y) : Sp g MX11_heard (rm 2 0 0) [.ref D, .int (I x), .int (I y)] hp (Eff (.int (I (if heO2 hs x y then (hs.length : Int) + 1 else -1))) (fun hp2 => DX hp2 D T U tx rw rt (if heO2 hs x y then hs ++ [(x, y)] else hs) ss KT ∧ SO hp hp2 D (D + 171))) := by
  refine Sp_mk rfl (Nat.le_of_ble_eq_true rfl) ?_
  show wp g _ _ _ 0 0 0 [some (.ref D), some (.int (I x)), some (.int (I y))] [] hp
  have O := SO.rf (hp := hp) (lo := D) (hi := D + 171)
  refine wp_aload_n (pc := 0) dX11_heard_0 rfl ?_
  refine wp_getf (pc := 1) dX11_heard_1 gf_X11_56 K.ob (by rfl) ?_
  refine wp_iload_n (pc := 4) dX11_heard_4 rfl ?_
  refine wp_iload_n (pc := 5) dX11_heard_5 rfl ?_
  refine wd_Vs (pc := 6) dX11_heard_6 cl_X11_314 (sp_H_add K.he (by first | assumption | omega) (by first | assumption | omega)) rfl rfl K.he.o (by rfl) (by decide) (Nat.le_of_ble_eq_true rfl) (fun hp6 e6 => ?_)
  obtain ⟨h6, o6⟩ := e6
  replace O := O.inn o6 (by omega) (by omega)
  replace K := K.uHe h6 o6
  exact wp_ir (pc := 9) dX11_heard_9 rfl (by decide) (by decide) (by first | rfl | omega) ⟨⟨_, _, _, _, _, K⟩, O⟩
theorem sp_D_forget (K : DA hp D r s Tr z Z T U tx rw rt hs ss KT) : Sp g MX11_forget (rm 1 0 0) [.ref D] hp (Eff (.int (I (hs.length : Int))) (fun hp2 => DX hp2 D T U tx rw rt [] ss KT ∧ SO hp hp2 D (D + 171))) := by
  refine Sp_mk rfl (Nat.le_of_ble_eq_true rfl) ?_
  show wp g _ _ _ 0 0 0 [some (.ref D)] [] hp
  have O := SO.rf (hp := hp) (lo := D) (hi := D + 171)
  refine wp_aload_n (pc := 0) dX11_forget_0 rfl ?_
  refine wp_getf (pc := 1) dX11_forget_1 gf_X11_56 K.ob (by rfl) ?_
  refine wd_Vs (pc := 4) dX11_forget_4 cl_X11_316 (sp_H_clear K.he) rfl rfl K.he.o (by rfl) (by decide) (Nat.le_of_ble_eq_true rfl) (fun hp4 e4 => ?_)
  obtain ⟨h4, o4⟩ := e4
  replace O := O.inn o4 (by omega) (by omega)
  replace K := K.uHe h4 o4
  exact wp_ir (pc := 7) dX11_forget_7 rfl (by decide) (by decide) (by first | rfl | omega) ⟨⟨_, _, _, _, _, K⟩, O⟩
theorem sp_D_listens (K : DA hp D r s Tr z Z T U tx rw rt hs ss KT) (rx : InR x) (ry : InR y) (rc : InR c) : Sp g MX11_listens (rm 1 0 0) [.ref D, .int (I x), .int (I y), .int (I c)] hp (Eff (.int (I (if liO ss x y c then (ss.length : Int) + 1 else -1))) (fun hp2 => DX hp2 D T U tx rw rt hs (if liO ss x y c then ss ++ [(x, y, c)] else ss) KT ∧ SO hp hp2 D (D + 171))) := by
  refine Sp_mk rfl (Nat.le_of_ble_eq_true rfl) ?_
  show wp g _ _ _ 0 0 0 [some (.ref D), some (.int (I x)), some (.int (I y)), some (.int (I c))] [] hp
  have O := SO.rf (hp := hp) (lo := D) (hi := D + 171)
  refine wp_aload_n (pc := 0) dX11_listens_0 rfl ?_
  refine wp_getf (pc := 1) dX11_listens_1 gf_X11_63 K.ob (by rfl) ?_
  refine wp_iload_n (pc := 4) dX11_listens_4 rfl ?_
  refine wp_iload_n (pc := 5) dX11_listens_5 rfl ?_
  refine wp_iload_n (pc := 6) dX11_listens_6 rfl ?_
  refine wd_Vs (pc := 7) dX11_listens_7 cl_X11_328 (sp_S_add K.sh (by first | assumption | omega) (by first | assumption | omega) (by first | assumption | omega)) rfl rfl K.sh.o (by rfl) (by decide) (Nat.le_of_ble_eq_true rfl) (fun hp7 e7 => ?_)
  obtain ⟨h7, o7⟩ := e7
  replace O := O.inn o7 (by omega) (by omega)
  replace K := K.uSh h7 o7
  exact wp_ir (pc := 10) dX11_listens_10 rfl (by decide) (by decide) (by first | rfl | omega) ⟨⟨_, _, _, _, _, K⟩, O⟩
theorem sp_D_doubts (K : DA hp D r s Tr z Z T U tx rw rt hs ss KT) : Sp g MX11_doubts (rm 1 0 0) [.ref D] hp (Eff (.int (I (ss.length : Int))) (fun hp2 => DX hp2 D T U tx rw rt hs [] KT ∧ SO hp hp2 D (D + 171))) := by
  refine Sp_mk rfl (Nat.le_of_ble_eq_true rfl) ?_
  show wp g _ _ _ 0 0 0 [some (.ref D)] [] hp
  have O := SO.rf (hp := hp) (lo := D) (hi := D + 171)
  refine wp_aload_n (pc := 0) dX11_doubts_0 rfl ?_
  refine wp_getf (pc := 1) dX11_doubts_1 gf_X11_63 K.ob (by rfl) ?_
  refine wd_Vs (pc := 4) dX11_doubts_4 cl_X11_330 (sp_S_clear K.sh) rfl rfl K.sh.o (by rfl) (by decide) (Nat.le_of_ble_eq_true rfl) (fun hp4 e4 => ?_)
  obtain ⟨h4, o4⟩ := e4
  replace O := O.inn o4 (by omega) (by omega)
  replace K := K.uSh h4 o4
  exact wp_ir (pc := 7) dX11_doubts_7 rfl (by decide) (by decide) (by first | rfl | omega) ⟨⟨_, _, _, _, _, K⟩, O⟩
theorem sp_D_fits (K : DA hp D r s Tr z Z T U tx rw rt hs ss KT) (hI : TI T N) : Sp g MX11_fits (rm 5 0 0) [.ref D] hp (Eff (.int (I ((bits (ftL (stl rt) T N hs) N : Nat) : Int))) (fun hp2 => DX hp2 D T U tx [((popc (bits (ftL (stl rt) T N hs) N) : Nat) : Int)] rt hs ss KT ∧ SO hp hp2 D (D + 171))) := by
  have h64 := bits64 (P := ftL (stl rt) T N hs) (N := N) hI.men.2
  have hpc := popc_le (bits (ftL (stl rt) T N hs) N)
  refine Sp_mk rfl (Nat.le_of_ble_eq_true rfl) ?_
  show wp g _ _ _ 0 0 0 [some (.ref D), none] [] hp
  have O := SO.rf (hp := hp) (lo := D) (hi := D + 171)
  refine wp_aload_n (pc := 0) dX11_fits_0 rfl ?_
  refine wp_getf (pc := 1) dX11_fits_1 gf_X11_56 K.ob (by rfl) ?_
  refine wp_aload_n (pc := 4) dX11_fits_4 rfl ?_
  refine wp_getf (pc := 5) dX11_fits_5 gf_X11_26 K.ob (by rfl) ?_
  refine wp_aload_n (pc := 8) dX11_fits_8 rfl ?_
  refine wp_getf (pc := 9) dX11_fits_9 gf_X11_91 K.ob (by rfl) ?_
  refine wd_Vs (pc := 12) dX11_fits_12 cl_X11_318 (sp_H_fit (by first | assumption | omega) (by have := K.rs; omega) (by have := K.rs; omega) K.he K.to K.ru) rfl rfl K.he.o (by rfl) (by decide) (Nat.le_of_ble_eq_true rfl) (fun hp12 e12 => ?_)
  obtain ⟨h12, o12⟩ := e12
  replace O := O.inn o12 (by have := K.rs; omega) (by have := K.rs; omega)
  replace K := K.uRu h12 o12
  refine wp_istore_n (pc := 15) dX11_fits_15 (by decide) ?_
  refine wp_aload_n (pc := 16) dX11_fits_16 rfl ?_
  refine wp_getf (pc := 17) dX11_fits_17 gf_X11_19 K.ob (by rfl) ?_
  refine wp_iload_n (pc := 20) dX11_fits_20 rfl ?_
  refine wp_Sp (pc := 21) dX11_fits_21 cl_X11_292 (sp_Integer_bitCount (by first | assumption | omega | exact K.to | exact K.tr | exact K.to.2.1 | exact K.to.2.2.1 | exact K.to.2.2.2.1 | exact K.to.2.2.2.2.1 | exact K.to.2.2.2.2.2.1 | exact K.to.2.2.2.2.2.2.1 | exact K.to.2.2.2.2.2.2.2 | exact K.tr.2.1 | exact K.tr.2.2.1 | exact K.tr.2.2.2.1 | exact K.tr.2.2.2.2.1 | exact K.tr.2.2.2.2.2.1 | exact K.tr.2.2.2.2.2.2.1 | exact K.tr.2.2.2.2.2.2.2)) rfl rfl (by decide) (Nat.le_of_ble_eq_true rfl) ?_
  refine wp_i2l (pc := 24) dX11_fits_24 (by first | omega | exact TI.i5 (by assumption) | exact TI.i3 (by assumption) | exact TI.i2 (by assumption) | exact TI.i1 (by assumption) | exact TI.i0 (by assumption) | exact TI.i4 (by assumption) | exact TI.i6 (by assumption) | exact TI.i7 (by assumption)) ?_
  refine wd_Vn (pc := 25) dX11_fits_25 cl_X11_272 (sp_Row_tell K.ro) rfl rfl K.ro.o (by rfl) (by decide) (Nat.le_of_ble_eq_true rfl) (fun hp25 e25 => ?_)
  obtain ⟨h25, o25⟩ := e25
  replace O := O.inn o25 (by omega) (by omega)
  replace K := K.uRo h25 o25
  refine wp_iload_n (pc := 28) dX11_fits_28 rfl ?_
  exact wp_ir (pc := 29) dX11_fits_29 rfl (by decide) (by decide) (by first | rfl | omega) ⟨⟨_, _, _, _, _, K⟩, O⟩
theorem akf_0 {P : Nat → Bool} (hI : TI T N) : akf T N (bits P N) 0 = ((popc (bits P N) : Nat) : Int) := by
  have hN := hI.men.2
  have e : rcn T (bits P N) ((0 : Nat) : Int) N = popc (bits P N) := by
    rw [popc_bits P (by omega)]
    unfold rcn
    refine cnt_congr (fun i hi => ?_)
    have := hI.r2 (i : Int)
    rw [bits_test, decide_eq_true hi, decide_eq_true (show ((0 : Nat) : Int) ≤ T 2 (i : Int) by omega)]
    simp
  unfold akf
  rw [e]
  unfold mx
  rw [if_neg (by omega)]
theorem rcn_le2 {v : Int} {q : Nat} : rcn T q v N ≤ N := cnt_le _ _
theorem lp_D_asks (hI : TI T N) (hk : k < 64) (hk2 : popc k ≤ 32) (hf0 : ∀ j, 0 ≤ akf T N k j ∧ akf T N k j ≤ 1000) (K : DA hp D r s Tr z Z T U tx rw rt hs ss KT) (O : SO hp0 hp D (D + 171)) : ∀ (m i : Nat), 99 < i + m → i ≤ 99 → wp g MX11_asks (rm 5 0 0) (Eff (.int (I ((akb (akf T N k) 99).1 : Int))) (fun hp3 => DX hp3 D T U tx [(akb (akf T N k) 99).2] rt hs ss KT ∧ SO hp0 hp3 D (D + 171))) 0 0 36 [some (.ref D), some (.int (I (k : Int))), some (.int (I ((popc k : Nat) : Int))), some (.int (I (((akb (akf T N k) i).1 : Nat) : Int))), some (.int (I (akb (akf T N k) i).2)), some (.int (I ((i + 1 : Nat) : Int))), none, none] [] hp := by
  intro m
  induction m with
  | zero => intro i h1 h2; exact absurd h1 (by omega)
  | succ m ih =>
    intro i h1 h2
    have hN := hI.men.2
    have q1 := akb_in _ hf0 i
    have q2 := hf0 (i + 1)
    have q3 := rcn_le2 (T := T) (N := N) (v := ((i + 1 : Nat) : Int)) (q := k)
    have ef : mx ((rcn T k ((i + 1 : Nat) : Int) N : Nat) : Int) (((popc k : Nat) : Int) - ((rcn T k ((i + 1 : Nat) : Int) N : Nat) : Int)) = akf T N k (i + 1) := rfl
    refine wp_iload (pc := 36) dX11_asks_36 rfl ?_
    refine wp_bipush (pc := 38) (y := 99) dX11_asks_38 (by decide) ?_
    refine wp_icmp_gt (pc := 40) 86 dX11_asks_40 (by decide) (by first | omega | exact TI.i5 (by assumption) | exact TI.i3 (by assumption) | exact TI.i2 (by assumption) | exact TI.i1 (by assumption) | exact TI.i0 (by assumption) | exact TI.i4 (by assumption) | exact TI.i6 (by assumption) | exact TI.i7 (by assumption)) (by first | omega | exact TI.i5 (by assumption) | exact TI.i3 (by assumption) | exact TI.i2 (by assumption) | exact TI.i1 (by assumption) | exact TI.i0 (by assumption) | exact TI.i4 (by assumption) | exact TI.i6 (by assumption) | exact TI.i7 (by assumption)) (fun c40 => ?_) (fun c40 => ?_)
    ·
      have e : i = 99 := by omega
      subst e -- go
      refine wp_aload_n (pc := 86) dX11_asks_86 rfl ?_
      refine wp_getf (pc := 87) dX11_asks_87 gf_X11_19 K.ob (by rfl) ?_
      refine wp_iload (pc := 90) dX11_asks_90 rfl ?_
      refine wp_i2l (pc := 92) dX11_asks_92 (by first | omega | exact TI.i5 (by assumption) | exact TI.i3 (by assumption) | exact TI.i2 (by assumption) | exact TI.i1 (by assumption) | exact TI.i0 (by assumption) | exact TI.i4 (by assumption) | exact TI.i6 (by assumption) | exact TI.i7 (by assumption)) ?_
      refine wd_Vn (pc := 93) dX11_asks_93 cl_X11_272 (sp_Row_tell K.ro) rfl rfl K.ro.o (by rfl) (by decide) (Nat.le_of_ble_eq_true rfl) (fun hp93 e93 => ?_)
      obtain ⟨h93, o93⟩ := e93
      replace O := O.inn o93 (by omega) (by omega)
      replace K := K.uRo h93 o93
      refine wp_iload_n (pc := 96) dX11_asks_96 rfl ?_
      exact wp_ir (pc := 97) dX11_asks_97 rfl (by decide) (by decide) (by first | rfl | omega) ⟨⟨_, _, _, _, _, K⟩, O⟩
    ·
      refine wp_aload_n (pc := 43) dX11_asks_43 rfl ?_
      refine wp_getf (pc := 44) dX11_asks_44 gf_X11_26 K.ob (by rfl) ?_
      refine wp_iload_n (pc := 47) dX11_asks_47 rfl ?_
      refine wp_iload (pc := 48) dX11_asks_48 rfl ?_
      refine wd_Vp (pc := 50) dX11_asks_50 cl_X11_322 (sp_Town_richIn (by first | assumption | omega | exact K.to | exact K.tr | exact K.to.2.1 | exact K.to.2.2.1 | exact K.to.2.2.2.1 | exact K.to.2.2.2.2.1 | exact K.to.2.2.2.2.2.1 | exact K.to.2.2.2.2.2.2.1 | exact K.to.2.2.2.2.2.2.2 | exact K.tr.2.1 | exact K.tr.2.2.1 | exact K.tr.2.2.2.1 | exact K.tr.2.2.2.2.1 | exact K.tr.2.2.2.2.2.1 | exact K.tr.2.2.2.2.2.2.1 | exact K.tr.2.2.2.2.2.2.2) (by first | assumption | omega | exact K.to | exact K.tr | exact K.to.2.1 | exact K.to.2.2.1 | exact K.to.2.2.2.1 | exact K.to.2.2.2.2.1 | exact K.to.2.2.2.2.2.1 | exact K.to.2.2.2.2.2.2.1 | exact K.to.2.2.2.2.2.2.2 | exact K.tr.2.1 | exact K.tr.2.2.1 | exact K.tr.2.2.2.1 | exact K.tr.2.2.2.2.1 | exact K.tr.2.2.2.2.2.1 | exact K.tr.2.2.2.2.2.2.1 | exact K.tr.2.2.2.2.2.2.2) (by first | assumption | omega | exact K.to | exact K.tr | exact K.to.2.1 | exact K.to.2.2.1 | exact K.to.2.2.2.1 | exact K.to.2.2.2.2.1 | exact K.to.2.2.2.2.2.1 | exact K.to.2.2.2.2.2.2.1 | exact K.to.2.2.2.2.2.2.2 | exact K.tr.2.1 | exact K.tr.2.2.1 | exact K.tr.2.2.2.1 | exact K.tr.2.2.2.2.1 | exact K.tr.2.2.2.2.2.1 | exact K.tr.2.2.2.2.2.2.1 | exact K.tr.2.2.2.2.2.2.2) (by first | assumption | omega | exact K.to | exact K.tr | exact K.to.2.1 | exact K.to.2.2.1 | exact K.to.2.2.2.1 | exact K.to.2.2.2.2.1 | exact K.to.2.2.2.2.2.1 | exact K.to.2.2.2.2.2.2.1 | exact K.to.2.2.2.2.2.2.2 | exact K.tr.2.1 | exact K.tr.2.2.1 | exact K.tr.2.2.2.1 | exact K.tr.2.2.2.2.1 | exact K.tr.2.2.2.2.2.1 | exact K.tr.2.2.2.2.2.2.1 | exact K.tr.2.2.2.2.2.2.2)) rfl rfl (by first | exact K.to.o | exact K.tr.o | exact K.k0.o | exact K.k1.o) (by rfl) (by decide) (Nat.le_of_ble_eq_true rfl) ?_
      refine wp_istore (pc := 53) dX11_asks_53 (by decide) ?_
      refine wp_iload (pc := 55) dX11_asks_55 rfl ?_
      refine wp_iload_n (pc := 57) dX11_asks_57 rfl ?_
      refine wp_iload (pc := 58) dX11_asks_58 rfl ?_
      refine wp_isub (pc := 60) dX11_asks_60 ?_
      refine wp_max (pc := 61) dX11_asks_61 ml_X11_325 ma_max_s ma_ini ma_max_c (by decide) (by decide) (by decide) (by decide) (Nat.le_of_ble_eq_true rfl) (by first | omega | exact TI.i5 (by assumption) | exact TI.i3 (by assumption) | exact TI.i2 (by assumption) | exact TI.i1 (by assumption) | exact TI.i0 (by assumption) | exact TI.i4 (by assumption) | exact TI.i6 (by assumption) | exact TI.i7 (by assumption)) (by first | omega | exact TI.i5 (by assumption) | exact TI.i3 (by assumption) | exact TI.i2 (by assumption) | exact TI.i1 (by assumption) | exact TI.i0 (by assumption) | exact TI.i4 (by assumption) | exact TI.i6 (by assumption) | exact TI.i7 (by assumption)) ?_
      refine wp_topE ef ?_
      refine wp_istore (pc := 64) dX11_asks_64 (by decide) ?_
      refine wp_iload (pc := 66) dX11_asks_66 rfl ?_
      refine wp_iload (pc := 68) dX11_asks_68 rfl ?_
      refine wp_icmp_ge (pc := 70) 80 dX11_asks_70 (by decide) (by first | omega | exact TI.i5 (by assumption) | exact TI.i3 (by assumption) | exact TI.i2 (by assumption) | exact TI.i1 (by assumption) | exact TI.i0 (by assumption) | exact TI.i4 (by assumption) | exact TI.i6 (by assumption) | exact TI.i7 (by assumption)) (by first | omega | exact TI.i5 (by assumption) | exact TI.i3 (by assumption) | exact TI.i2 (by assumption) | exact TI.i1 (by assumption) | exact TI.i0 (by assumption) | exact TI.i4 (by assumption) | exact TI.i6 (by assumption) | exact TI.i7 (by assumption)) (fun c70 => ?_) (fun c70 => ?_)
      ·
        have e1 : akb (akf T N k) (i + 1) = akb (akf T N k) i := if_neg (by omega)
        skip -- go
        refine wp_iinc (pc := 80) dX11_asks_80 rfl (by decide) ?_
        refine wp_goto (pc := 83) 36 dX11_asks_83 (by decide) ?_
        refine wp_ls ?_ (ih (i + 1) (by omega) (by omega))
        rw [e1]
        repeat' (first | exact LE_0 | refine LE_s rfl ?_ | refine LE_s (I_c (by first | omega | (simp only [sm]; omega))) ?_ | refine LE_s (J_c (by first | omega | exact Int.pow_succ _ _ | exact (Int.pow_succ _ _).symm | exact (Int.pow_zero _).symm | (simp only [sm]; omega))) ?_ | refine LE_n ?_)
      ·
        have e1 : akb (akf T N k) (i + 1) = (i + 1, akf T N k (i + 1)) := if_pos (by omega)
        skip -- go
        refine wp_iload (pc := 73) dX11_asks_73 rfl ?_
        refine wp_istore_n (pc := 75) dX11_asks_75 (by decide) ?_
        refine wp_iload (pc := 76) dX11_asks_76 rfl ?_
        refine wp_istore (pc := 78) dX11_asks_78 (by decide) ?_
        refine wp_iinc (pc := 80) dX11_asks_80 rfl (by decide) ?_
        refine wp_goto (pc := 83) 36 dX11_asks_83 (by decide) ?_
        refine wp_ls ?_ (ih (i + 1) (by omega) (by omega))
        rw [e1]
        repeat' (first | exact LE_0 | refine LE_s rfl ?_ | refine LE_s (I_c (by first | omega | (simp only [sm]; omega))) ?_ | refine LE_s (J_c (by first | omega | exact Int.pow_succ _ _ | exact (Int.pow_succ _ _).symm | exact (Int.pow_zero _).symm | (simp only [sm]; omega))) ?_ | refine LE_n ?_)
theorem akf_in2 (hI : TI T N) (j : Nat) : 0 ≤ akf T N k j ∧ akf T N k j ≤ 1000 := by
  have h1 := popc_le k
  have h2 := rcn_le2 (T := T) (N := N) (v := (j : Int)) (q := k)
  have hN := hI.men.2
  unfold akf mx
  split <;> omega
theorem sp_D_asks (K : DA hp D r s Tr z Z T U tx rw rt hs ss KT) (hI : TI T N) : Sp g MX11_asks (rm 5 0 0) [.ref D] hp (Eff (.int (I (if bits (ftL (stl rt) T N hs) N = 0 then -2 else ((akb (akf T N (bits (ftL (stl rt) T N hs) N)) 99).1 : Int)))) (fun hp2 => DX hp2 D T U tx (if bits (ftL (stl rt) T N hs) N = 0 then rw else [(akb (akf T N (bits (ftL (stl rt) T N hs) N)) 99).2]) rt hs ss KT ∧ SO hp hp2 D (D + 171))) := by
  have h64 := bits64 (P := ftL (stl rt) T N hs) (N := N) hI.men.2
  have hpc := popc_le (bits (ftL (stl rt) T N hs) N)
  have e0 := akf_0 (P := ftL (stl rt) T N hs) hI
  refine Sp_mk rfl (Nat.le_of_ble_eq_true rfl) ?_
  show wp g _ _ _ 0 0 0 [some (.ref D), none, none, none, none, none, none, none] [] hp
  have O := SO.rf (hp := hp) (lo := D) (hi := D + 171)
  refine wp_aload_n (pc := 0) dX11_asks_0 rfl ?_
  refine wp_getf (pc := 1) dX11_asks_1 gf_X11_56 K.ob (by rfl) ?_
  refine wp_aload_n (pc := 4) dX11_asks_4 rfl ?_
  refine wp_getf (pc := 5) dX11_asks_5 gf_X11_26 K.ob (by rfl) ?_
  refine wp_aload_n (pc := 8) dX11_asks_8 rfl ?_
  refine wp_getf (pc := 9) dX11_asks_9 gf_X11_91 K.ob (by rfl) ?_
  refine wd_Vs (pc := 12) dX11_asks_12 cl_X11_318 (sp_H_fit (by first | assumption | omega) (by have := K.rs; omega) (by have := K.rs; omega) K.he K.to K.ru) rfl rfl K.he.o (by rfl) (by decide) (Nat.le_of_ble_eq_true rfl) (fun hp12 e12 => ?_)
  obtain ⟨h12, o12⟩ := e12
  replace O := O.inn o12 (by have := K.rs; omega) (by have := K.rs; omega)
  replace K := K.uRu h12 o12
  refine wp_istore_n (pc := 15) dX11_asks_15 (by decide) ?_
  refine wp_iload_n (pc := 16) dX11_asks_16 rfl ?_
  first | refine wp_ifb_ne (pc := 17) 23 dX11_asks_17 (by decide) (fun c17 => ?_) (fun c17 => ?_) | refine wp_if_ne (pc := 17) 23 dX11_asks_17 (by decide) (by first | omega | exact TI.i5 (by assumption) | exact TI.i3 (by assumption) | exact TI.i2 (by assumption) | exact TI.i1 (by assumption) | exact TI.i0 (by assumption) | exact TI.i4 (by assumption) | exact TI.i6 (by assumption) | exact TI.i7 (by assumption)) (fun c17 => ?_) (fun c17 => ?_)
  ·
    rw [if_neg (by omega), if_neg (by omega)] -- go
    refine wp_iload_n (pc := 23) dX11_asks_23 rfl ?_
    refine wp_Sp (pc := 24) dX11_asks_24 cl_X11_292 (sp_Integer_bitCount (by first | assumption | omega | exact K.to | exact K.tr | exact K.to.2.1 | exact K.to.2.2.1 | exact K.to.2.2.2.1 | exact K.to.2.2.2.2.1 | exact K.to.2.2.2.2.2.1 | exact K.to.2.2.2.2.2.2.1 | exact K.to.2.2.2.2.2.2.2 | exact K.tr.2.1 | exact K.tr.2.2.1 | exact K.tr.2.2.2.1 | exact K.tr.2.2.2.2.1 | exact K.tr.2.2.2.2.2.1 | exact K.tr.2.2.2.2.2.2.1 | exact K.tr.2.2.2.2.2.2.2)) rfl rfl (by decide) (Nat.le_of_ble_eq_true rfl) ?_
    refine wp_istore_n (pc := 27) dX11_asks_27 (by decide) ?_
    refine wp_iconst (pc := 28) dX11_asks_28 ?_
    refine wp_istore_n (pc := 29) dX11_asks_29 (by decide) ?_
    refine wp_iload_n (pc := 30) dX11_asks_30 rfl ?_
    refine wp_istore (pc := 31) dX11_asks_31 (by decide) ?_
    refine wp_iconst (pc := 33) dX11_asks_33 ?_
    refine wp_istore (pc := 34) dX11_asks_34 (by decide) ?_
    refine wp_ls ?_ (lp_D_asks hI h64 hpc (akf_in2 hI) K O 100 0 (by omega) (by omega))
    show LE [_, _, _, some (.int (I 0)), some (.int (I (akf T N (bits (ftL (stl rt) T N hs) N) 0))), _, _, _] _
    rw [e0]
    repeat' (first | exact LE_0 | refine LE_s rfl ?_ | refine LE_s (I_c (by first | omega | (simp only [sm]; omega))) ?_ | refine LE_s (J_c (by first | omega | exact Int.pow_succ _ _ | exact (Int.pow_succ _ _).symm | exact (Int.pow_zero _).symm | (simp only [sm]; omega))) ?_ | refine LE_n ?_)
  ·
    rw [if_pos (by omega), if_pos (by omega)] -- go
    refine wp_bipush (pc := 20) (y := (-2)) dX11_asks_20 (by decide) ?_
    exact wp_ir (pc := 22) dX11_asks_22 rfl (by decide) (by decide) (by first | rfl | omega) ⟨⟨_, _, _, _, _, K⟩, O⟩
theorem sp_D_laws (K : DA hp D r s Tr z Z T U tx rw rt hs ss KT) : Sp g MX11_laws (rm 4 0 0) [.ref D] hp (Eff (.int (I (lwC ss))) (fun hp2 => DX hp2 D T U tx (if lwC ss = 0 then [] else [((fst (psL ss 0) 18 : Nat) : Int) - 9, ((fst (psL ss 1) 18 : Nat) : Int) - 9]) rt hs ss KT ∧ SO hp hp2 D (D + 171))) := by
  have h1 := lwC_in ss
  have h2 := fst_le (psL ss 0) 18
  have h3 := fst_le (psL ss 1) 18
  have e0 : ((cnt (psL ss 0) 19 : Nat) : Int) * ((cnt (psL ss 1) 19 : Nat) : Int) = lwC ss := rfl
  refine Sp_mk rfl (Nat.le_of_ble_eq_true rfl) ?_
  show wp g _ _ _ 0 0 0 [some (.ref D), none] [] hp
  have O := SO.rf (hp := hp) (lo := D) (hi := D + 171)
  refine wp_aload_n (pc := 0) dX11_laws_0 rfl ?_
  refine wp_getf (pc := 1) dX11_laws_1 gf_X11_63 K.ob (by rfl) ?_
  refine wp_iconst (pc := 4) dX11_laws_4 ?_
  refine wd_Vp (pc := 5) dX11_laws_5 cl_X11_331 (sp_S_fit K.sh (by first | assumption | omega)) rfl rfl K.sh.o (by rfl) (by decide) (Nat.le_of_ble_eq_true rfl) ?_
  refine wp_aload_n (pc := 8) dX11_laws_8 rfl ?_
  refine wp_getf (pc := 9) dX11_laws_9 gf_X11_63 K.ob (by rfl) ?_
  refine wp_iconst (pc := 12) dX11_laws_12 ?_
  refine wd_Vp (pc := 13) dX11_laws_13 cl_X11_331 (sp_S_fit K.sh (by first | assumption | omega)) rfl rfl K.sh.o (by rfl) (by decide) (Nat.le_of_ble_eq_true rfl) ?_
  refine wp_imul (pc := 16) dX11_laws_16 ?_
  rw [e0]
  refine wp_istore_n (pc := 17) dX11_laws_17 (by decide) ?_
  refine wp_aload_n (pc := 18) dX11_laws_18 rfl ?_
  refine wp_getf (pc := 19) dX11_laws_19 gf_X11_19 K.ob (by rfl) ?_
  refine wd_Vn (pc := 22) dX11_laws_22 cl_X11_243 (sp_Row_clear K.ro) rfl rfl K.ro.o (by rfl) (by decide) (Nat.le_of_ble_eq_true rfl) (fun hp22 e22 => ?_)
  obtain ⟨h22, o22⟩ := e22
  replace O := O.inn o22 (by omega) (by omega)
  replace K := K.uRo h22 o22
  refine wp_iload_n (pc := 25) dX11_laws_25 rfl ?_
  refine wp_if_le (pc := 26) 54 dX11_laws_26 (by decide) (by first | omega | exact TI.i5 (by assumption) | exact TI.i3 (by assumption) | exact TI.i2 (by assumption) | exact TI.i1 (by assumption) | exact TI.i0 (by assumption) | exact TI.i4 (by assumption) | exact TI.i6 (by assumption) | exact TI.i7 (by assumption)) (fun c26 => ?_) (fun c26 => ?_)
  ·
    rw [if_pos (by omega)] -- go
    refine wp_iload_n (pc := 54) dX11_laws_54 rfl ?_
    exact wp_ir (pc := 55) dX11_laws_55 rfl (by decide) (by decide) (by first | rfl | omega) ⟨⟨_, _, _, _, _, K⟩, O⟩
  ·
    rw [if_neg (by omega)] -- go
    refine wp_aload_n (pc := 29) dX11_laws_29 rfl ?_
    refine wp_getf (pc := 30) dX11_laws_30 gf_X11_19 K.ob (by rfl) ?_
    refine wp_aload_n (pc := 33) dX11_laws_33 rfl ?_
    refine wp_getf (pc := 34) dX11_laws_34 gf_X11_63 K.ob (by rfl) ?_
    refine wp_iconst (pc := 37) dX11_laws_37 ?_
    refine wd_Vp (pc := 38) dX11_laws_38 cl_X11_333 (sp_S_least K.sh (by first | assumption | omega)) rfl rfl K.sh.o (by rfl) (by decide) (Nat.le_of_ble_eq_true rfl) ?_
    refine wp_i2l (pc := 41) dX11_laws_41 (by first | omega | exact TI.i5 (by assumption) | exact TI.i3 (by assumption) | exact TI.i2 (by assumption) | exact TI.i1 (by assumption) | exact TI.i0 (by assumption) | exact TI.i4 (by assumption) | exact TI.i6 (by assumption) | exact TI.i7 (by assumption)) ?_
    refine wp_aload_n (pc := 42) dX11_laws_42 rfl ?_
    refine wp_getf (pc := 43) dX11_laws_43 gf_X11_63 K.ob (by rfl) ?_
    refine wp_iconst (pc := 46) dX11_laws_46 ?_
    refine wd_Vp (pc := 47) dX11_laws_47 cl_X11_333 (sp_S_least K.sh (by first | assumption | omega)) rfl rfl K.sh.o (by rfl) (by decide) (Nat.le_of_ble_eq_true rfl) ?_
    refine wp_i2l (pc := 50) dX11_laws_50 (by first | omega | exact TI.i5 (by assumption) | exact TI.i3 (by assumption) | exact TI.i2 (by assumption) | exact TI.i1 (by assumption) | exact TI.i0 (by assumption) | exact TI.i4 (by assumption) | exact TI.i6 (by assumption) | exact TI.i7 (by assumption)) ?_
    refine wd_Vn (pc := 51) dX11_laws_51 cl_X11_204 (sp_Row_tell_ K.ro) rfl rfl K.ro.o (by rfl) (by decide) (Nat.le_of_ble_eq_true rfl) (fun hp51 e51 => ?_)
    obtain ⟨h51, o51⟩ := e51
    replace O := O.inn o51 (by omega) (by omega)
    replace K := K.uRo h51 o51
    refine wp_iload_n (pc := 54) dX11_laws_54 rfl ?_
    exact wp_ir (pc := 55) dX11_laws_55 rfl (by decide) (by decide) (by first | rfl | omega) ⟨⟨_, _, _, _, _, K⟩, O⟩
def trs (ss : List (Int × Int × Int)) : Nat → Nat × Int
  | 0 => (0, lwC ss)
  | n + 1 => if trf ss n < (trs ss n).2 then (n, trf ss n) else trs ss n
theorem rmC_le (ss : List (Int × Int × Int)) (b o w : Int) : rmC ss b o w ≤ cnt (psL ss b) 19 := by
  unfold rmC
  have : ∀ n, cnt (rmB ss b o w) n ≤ cnt (psL ss b) n := by
    intro n
    induction n with
    | zero => exact Nat.le_refl _
    | succ n ih =>
      show cnt _ n + _ ≤ cnt _ n + _
      by_cases c : rmB ss b o w n = true
      · have : psL ss b n = true := by unfold rmB at c; simp at c; exact c.1
        rw [if_pos c, if_pos this]; omega
      · rw [if_neg c]; split <;> omega
  exact this 19
theorem trs_1 (ss : List (Int × Int × Int)) : ∀ n : Nat, trs ss (n + 1) = akb (trf ss) n
  | 0 => by
    have h1 : mw (fun w => ((rmC ss 0 0 (w : Int) : Nat) : Int)) 10 ≤ ((cnt (psL ss 0) 19 : Nat) : Int) := mw_le (by omega) _ (fun w _ => by have := rmC_le ss 0 0 (w : Int); omega)
    have h2 : trf ss 0 ≤ lwC ss := Int.mul_le_mul_of_nonneg_right h1 (by omega)
    show (if trf ss 0 < lwC ss then (0, trf ss 0) else (0, lwC ss)) = (0, trf ss 0)
    split
    · rfl
    · rw [show lwC ss = trf ss 0 by omega]
  | n + 1 => by
    show (if trf ss (n + 1) < (trs ss (n + 1)).2 then (n + 1, trf ss (n + 1)) else trs ss (n + 1)) = _
    rw [trs_1 ss n]
    rfl
theorem trs_in (ss : List (Int × Int × Int)) (n : Nat) : (trs ss n).1 ≤ n ∧ 0 ≤ (trs ss n).2 ∧ (trs ss n).2 ≤ 1000 := by
  match n with
  | 0 => have := lwC_in ss; exact ⟨Nat.le_refl _, this.1, by show lwC ss ≤ 1000; omega⟩
  | n + 1 => rw [trs_1]; have := akb_in _ (trf_in ss) n; omega
theorem lp_D_tries (e0 : b = ((cnt (psL ss 0) 19 : Nat) : Int)) (e1 : c = ((cnt (psL ss 1) 19 : Nat) : Int)) : ∀ (m i : Nat), 20 < i + m → i ≤ 20 → ∀ (hp2 : Hp) (K : DA hp2 D r s Tr z Z T U tx rw rt hs ss KT) (O : SO hp hp2 D (D + 171)), wp g MX11_tries (rm 4 0 0) (Eff (.int (I ((akb (trf ss) 19).1 : Int))) (fun hp3 => DX hp3 D T U tx [(akb (trf ss) 19).2] rt hs ss KT ∧ SO hp hp3 D (D + 171))) 0 0 37 [some (.ref D), some (.int (I b)), some (.int (I c)), some (.int (I (((trs ss i).1 : Nat) : Int))), some (.int (I (trs ss i).2)), some (.int (I (i : Int))), none] [] hp2 := by
  intro m
  induction m with
  | zero => intro i h1 h2; exact absurd h1 (by omega)
  | succ m ih =>
    intro i h1 h2 hp2 K O
    have q1 := trs_in ss i
    have q2 := trf_in ss i
    refine wp_iload (pc := 37) dX11_tries_37 rfl ?_
    refine wp_bipush (pc := 39) (y := 20) dX11_tries_39 (by decide) ?_
    refine wp_icmp_ge (pc := 41) 103 dX11_tries_41 (by decide) (by first | omega | exact TI.i5 (by assumption) | exact TI.i3 (by assumption) | exact TI.i2 (by assumption) | exact TI.i1 (by assumption) | exact TI.i0 (by assumption) | exact TI.i4 (by assumption) | exact TI.i6 (by assumption) | exact TI.i7 (by assumption)) (by first | omega | exact TI.i5 (by assumption) | exact TI.i3 (by assumption) | exact TI.i2 (by assumption) | exact TI.i1 (by assumption) | exact TI.i0 (by assumption) | exact TI.i4 (by assumption) | exact TI.i6 (by assumption) | exact TI.i7 (by assumption)) (fun c41 => ?_) (fun c41 => ?_)
    ·
      have e : i = 20 := by omega
      subst e
      have e2 := trs_1 ss 19
      rw [← e2] -- go
      refine wp_aload_n (pc := 103) dX11_tries_103 rfl ?_
      refine wp_getf (pc := 104) dX11_tries_104 gf_X11_19 K.ob (by rfl) ?_
      refine wp_iload (pc := 107) dX11_tries_107 rfl ?_
      refine wp_i2l (pc := 109) dX11_tries_109 (by first | omega | exact TI.i5 (by assumption) | exact TI.i3 (by assumption) | exact TI.i2 (by assumption) | exact TI.i1 (by assumption) | exact TI.i0 (by assumption) | exact TI.i4 (by assumption) | exact TI.i6 (by assumption) | exact TI.i7 (by assumption)) ?_
      refine wd_Vn (pc := 110) dX11_tries_110 cl_X11_272 (sp_Row_tell K.ro) rfl rfl K.ro.o (by rfl) (by decide) (Nat.le_of_ble_eq_true rfl) (fun hp110 e110 => ?_)
      obtain ⟨h110, o110⟩ := e110
      replace O := O.inn o110 (by omega) (by omega)
      replace K := K.uRo h110 o110
      refine wp_iload_n (pc := 113) dX11_tries_113 rfl ?_
      exact wp_ir (pc := 114) dX11_tries_114 rfl (by decide) (by decide) (by first | rfl | omega) ⟨⟨_, _, _, _, _, K⟩, O⟩
    ·
      refine wp_iload (pc := 44) dX11_tries_44 rfl ?_
      refine wp_bipush (pc := 46) (y := 10) dX11_tries_46 (by decide) ?_
      refine wp_icmp_ge (pc := 48) 66 dX11_tries_48 (by decide) (by first | omega | exact TI.i5 (by assumption) | exact TI.i3 (by assumption) | exact TI.i2 (by assumption) | exact TI.i1 (by assumption) | exact TI.i0 (by assumption) | exact TI.i4 (by assumption) | exact TI.i6 (by assumption) | exact TI.i7 (by assumption)) (by first | omega | exact TI.i5 (by assumption) | exact TI.i3 (by assumption) | exact TI.i2 (by assumption) | exact TI.i1 (by assumption) | exact TI.i0 (by assumption) | exact TI.i4 (by assumption) | exact TI.i6 (by assumption) | exact TI.i7 (by assumption)) (fun c48 => ?_) (fun c48 => ?_)
      ·
        have e3 : mw (fun w => ((rmC ss 1 ((i : Int) - 10) (w : Int) : Nat) : Int)) 10 * b = trf ss i := by
          rw [e0]
          unfold trf
          rw [show i / 10 = 1 by omega, show ((i % 10 : Nat) : Int) = (i : Int) - 10 by omega]
          rfl
        skip -- go
        refine wp_aload_n (pc := 66) dX11_tries_66 rfl ?_
        refine wp_getf (pc := 67) dX11_tries_67 gf_X11_63 K.ob (by rfl) ?_
        refine wp_iconst (pc := 70) dX11_tries_70 ?_
        refine wp_iload (pc := 71) dX11_tries_71 rfl ?_
        refine wp_bipush (pc := 73) (y := 10) dX11_tries_73 (by decide) ?_
        refine wp_isub (pc := 75) dX11_tries_75 ?_
        refine wd_Vs (pc := 76) dX11_tries_76 cl_X11_336 (sp_S_left K.sh (by first | assumption | omega) (by first | assumption | omega)) rfl rfl K.sh.o (by rfl) (by decide) (Nat.le_of_ble_eq_true rfl) (fun hp76 e76 => ?_)
        obtain ⟨h76, o76⟩ := e76
        replace O := O.inn o76 (by omega) (by omega)
        replace K := K.uSh h76 o76
        refine wp_iload_n (pc := 79) dX11_tries_79 rfl ?_
        refine wp_imul (pc := 80) dX11_tries_80 ?_
        refine wp_topE e3 ?_
        refine wp_istore (pc := 81) dX11_tries_81 (by decide) ?_
        refine wp_iload (pc := 83) dX11_tries_83 rfl ?_
        refine wp_iload (pc := 85) dX11_tries_85 rfl ?_
        refine wp_icmp_ge (pc := 87) 97 dX11_tries_87 (by decide) (by first | omega | exact TI.i5 (by assumption) | exact TI.i3 (by assumption) | exact TI.i2 (by assumption) | exact TI.i1 (by assumption) | exact TI.i0 (by assumption) | exact TI.i4 (by assumption) | exact TI.i6 (by assumption) | exact TI.i7 (by assumption)) (by first | omega | exact TI.i5 (by assumption) | exact TI.i3 (by assumption) | exact TI.i2 (by assumption) | exact TI.i1 (by assumption) | exact TI.i0 (by assumption) | exact TI.i4 (by assumption) | exact TI.i6 (by assumption) | exact TI.i7 (by assumption)) (fun c87 => ?_) (fun c87 => ?_)
        ·
          have e4 : trs ss (i + 1) = trs ss i := if_neg (by omega)
          skip -- go
          refine wp_iinc (pc := 97) dX11_tries_97 rfl (by decide) ?_
          refine wp_goto (pc := 100) 37 dX11_tries_100 (by decide) ?_
          refine wp_ls ?_ (ih (i + 1) (by omega) (by omega) _ K O)
          rw [e4]
          repeat' (first | exact LE_0 | refine LE_s rfl ?_ | refine LE_s (I_c (by first | omega | (simp only [sm]; omega))) ?_ | refine LE_s (J_c (by first | omega | exact Int.pow_succ _ _ | exact (Int.pow_succ _ _).symm | exact (Int.pow_zero _).symm | (simp only [sm]; omega))) ?_ | refine LE_n ?_)
        ·
          have e4 : trs ss (i + 1) = (i, trf ss i) := if_pos (by omega)
          skip -- go
          refine wp_iload (pc := 90) dX11_tries_90 rfl ?_
          refine wp_istore_n (pc := 92) dX11_tries_92 (by decide) ?_
          refine wp_iload (pc := 93) dX11_tries_93 rfl ?_
          refine wp_istore (pc := 95) dX11_tries_95 (by decide) ?_
          refine wp_iinc (pc := 97) dX11_tries_97 rfl (by decide) ?_
          refine wp_goto (pc := 100) 37 dX11_tries_100 (by decide) ?_
          refine wp_ls ?_ (ih (i + 1) (by omega) (by omega) _ K O)
          rw [e4]
          repeat' (first | exact LE_0 | refine LE_s rfl ?_ | refine LE_s (I_c (by first | omega | (simp only [sm]; omega))) ?_ | refine LE_s (J_c (by first | omega | exact Int.pow_succ _ _ | exact (Int.pow_succ _ _).symm | exact (Int.pow_zero _).symm | (simp only [sm]; omega))) ?_ | refine LE_n ?_)
      ·
        have e3 : mw (fun w => ((rmC ss 0 (i : Int) (w : Int) : Nat) : Int)) 10 * c = trf ss i := by
          rw [e1]
          unfold trf
          rw [show i / 10 = 0 by omega, show i % 10 = i by omega]
          rfl
        skip -- go
        refine wp_aload_n (pc := 51) dX11_tries_51 rfl ?_
        refine wp_getf (pc := 52) dX11_tries_52 gf_X11_63 K.ob (by rfl) ?_
        refine wp_iconst (pc := 55) dX11_tries_55 ?_
        refine wp_iload (pc := 56) dX11_tries_56 rfl ?_
        refine wd_Vs (pc := 58) dX11_tries_58 cl_X11_336 (sp_S_left K.sh (by first | assumption | omega) (by first | assumption | omega)) rfl rfl K.sh.o (by rfl) (by decide) (Nat.le_of_ble_eq_true rfl) (fun hp58 e58 => ?_)
        obtain ⟨h58, o58⟩ := e58
        replace O := O.inn o58 (by omega) (by omega)
        replace K := K.uSh h58 o58
        refine wp_iload_n (pc := 61) dX11_tries_61 rfl ?_
        refine wp_imul (pc := 62) dX11_tries_62 ?_
        refine wp_topE e3 ?_
        refine wp_goto (pc := 63) 81 dX11_tries_63 (by decide) ?_
        refine wp_istore (pc := 81) dX11_tries_81 (by decide) ?_
        refine wp_iload (pc := 83) dX11_tries_83 rfl ?_
        refine wp_iload (pc := 85) dX11_tries_85 rfl ?_
        refine wp_icmp_ge (pc := 87) 97 dX11_tries_87 (by decide) (by first | omega | exact TI.i5 (by assumption) | exact TI.i3 (by assumption) | exact TI.i2 (by assumption) | exact TI.i1 (by assumption) | exact TI.i0 (by assumption) | exact TI.i4 (by assumption) | exact TI.i6 (by assumption) | exact TI.i7 (by assumption)) (by first | omega | exact TI.i5 (by assumption) | exact TI.i3 (by assumption) | exact TI.i2 (by assumption) | exact TI.i1 (by assumption) | exact TI.i0 (by assumption) | exact TI.i4 (by assumption) | exact TI.i6 (by assumption) | exact TI.i7 (by assumption)) (fun c87 => ?_) (fun c87 => ?_)
        ·
          have e4 : trs ss (i + 1) = trs ss i := if_neg (by omega)
          skip -- go
          refine wp_iinc (pc := 97) dX11_tries_97 rfl (by decide) ?_
          refine wp_goto (pc := 100) 37 dX11_tries_100 (by decide) ?_
          refine wp_ls ?_ (ih (i + 1) (by omega) (by omega) _ K O)
          rw [e4]
          repeat' (first | exact LE_0 | refine LE_s rfl ?_ | refine LE_s (I_c (by first | omega | (simp only [sm]; omega))) ?_ | refine LE_s (J_c (by first | omega | exact Int.pow_succ _ _ | exact (Int.pow_succ _ _).symm | exact (Int.pow_zero _).symm | (simp only [sm]; omega))) ?_ | refine LE_n ?_)
        ·
          have e4 : trs ss (i + 1) = (i, trf ss i) := if_pos (by omega)
          skip -- go
          refine wp_iload (pc := 90) dX11_tries_90 rfl ?_
          refine wp_istore_n (pc := 92) dX11_tries_92 (by decide) ?_
          refine wp_iload (pc := 93) dX11_tries_93 rfl ?_
          refine wp_istore (pc := 95) dX11_tries_95 (by decide) ?_
          refine wp_iinc (pc := 97) dX11_tries_97 rfl (by decide) ?_
          refine wp_goto (pc := 100) 37 dX11_tries_100 (by decide) ?_
          refine wp_ls ?_ (ih (i + 1) (by omega) (by omega) _ K O)
          rw [e4]
          repeat' (first | exact LE_0 | refine LE_s rfl ?_ | refine LE_s (I_c (by first | omega | (simp only [sm]; omega))) ?_ | refine LE_s (J_c (by first | omega | exact Int.pow_succ _ _ | exact (Int.pow_succ _ _).symm | exact (Int.pow_zero _).symm | (simp only [sm]; omega))) ?_ | refine LE_n ?_)
theorem sp_D_tries (K : DA hp D r s Tr z Z T U tx rw rt hs ss KT) : Sp g MX11_tries (rm 4 0 0) [.ref D] hp (Eff (.int (I (if lwC ss = 0 then -2 else ((akb (trf ss) 19).1 : Int)))) (fun hp2 => DX hp2 D T U tx (if lwC ss = 0 then rw else [(akb (trf ss) 19).2]) rt hs ss KT ∧ SO hp hp2 D (D + 171))) := by
  have h1 := lwC_in ss
  have e0 : ((cnt (psL ss 0) 19 : Nat) : Int) * ((cnt (psL ss 1) 19 : Nat) : Int) = lwC ss := rfl
  refine Sp_mk rfl (Nat.le_of_ble_eq_true rfl) ?_
  show wp g _ _ _ 0 0 0 [some (.ref D), none, none, none, none, none, none] [] hp
  have O := SO.rf (hp := hp) (lo := D) (hi := D + 171)
  refine wp_aload_n (pc := 0) dX11_tries_0 rfl ?_
  refine wp_getf (pc := 1) dX11_tries_1 gf_X11_63 K.ob (by rfl) ?_
  refine wp_iconst (pc := 4) dX11_tries_4 ?_
  refine wd_Vp (pc := 5) dX11_tries_5 cl_X11_331 (sp_S_fit K.sh (by first | assumption | omega)) rfl rfl K.sh.o (by rfl) (by decide) (Nat.le_of_ble_eq_true rfl) ?_
  refine wp_istore_n (pc := 8) dX11_tries_8 (by decide) ?_
  refine wp_aload_n (pc := 9) dX11_tries_9 rfl ?_
  refine wp_getf (pc := 10) dX11_tries_10 gf_X11_63 K.ob (by rfl) ?_
  refine wp_iconst (pc := 13) dX11_tries_13 ?_
  refine wd_Vp (pc := 14) dX11_tries_14 cl_X11_331 (sp_S_fit K.sh (by first | assumption | omega)) rfl rfl K.sh.o (by rfl) (by decide) (Nat.le_of_ble_eq_true rfl) ?_
  refine wp_istore_n (pc := 17) dX11_tries_17 (by decide) ?_
  refine wp_iload_n (pc := 18) dX11_tries_18 rfl ?_
  refine wp_iload_n (pc := 19) dX11_tries_19 rfl ?_
  refine wp_imul (pc := 20) dX11_tries_20 ?_
  rw [e0]
  first | refine wp_ifb_ne (pc := 21) 27 dX11_tries_21 (by decide) (fun c21 => ?_) (fun c21 => ?_) | refine wp_if_ne (pc := 21) 27 dX11_tries_21 (by decide) (by first | omega | exact TI.i5 (by assumption) | exact TI.i3 (by assumption) | exact TI.i2 (by assumption) | exact TI.i1 (by assumption) | exact TI.i0 (by assumption) | exact TI.i4 (by assumption) | exact TI.i6 (by assumption) | exact TI.i7 (by assumption)) (fun c21 => ?_) (fun c21 => ?_)
  ·
    rw [if_neg (by omega), if_neg (by omega)] -- go
    refine wp_iconst (pc := 27) dX11_tries_27 ?_
    refine wp_istore_n (pc := 28) dX11_tries_28 (by decide) ?_
    refine wp_iload_n (pc := 29) dX11_tries_29 rfl ?_
    refine wp_iload_n (pc := 30) dX11_tries_30 rfl ?_
    refine wp_imul (pc := 31) dX11_tries_31 ?_
    rw [e0]
    refine wp_istore (pc := 32) dX11_tries_32 (by decide) ?_
    refine wp_iconst (pc := 34) dX11_tries_34 ?_
    refine wp_istore (pc := 35) dX11_tries_35 (by decide) ?_
    refine wp_ls ?_ (lp_D_tries rfl rfl 21 0 (by omega) (by omega) _ K O)
    repeat' (first | exact LE_0 | refine LE_s rfl ?_ | refine LE_s (I_c (by first | omega | (simp only [sm]; omega))) ?_ | refine LE_s (J_c (by first | omega | exact Int.pow_succ _ _ | exact (Int.pow_succ _ _).symm | exact (Int.pow_zero _).symm | (simp only [sm]; omega))) ?_ | refine LE_n ?_)
  ·
    rw [if_pos (by omega), if_pos (by omega)] -- go
    refine wp_bipush (pc := 24) (y := (-2)) dX11_tries_24 (by decide) ?_
    exact wp_ir (pc := 26) dX11_tries_26 rfl (by decide) (by decide) (by first | rfl | omega) ⟨⟨_, _, _, _, _, K⟩, O⟩
theorem sp_D_bank (K : DA hp D r s Tr z Z T U tx rw rt hs ss KT) (rx : InR x) (ry : InR y) : Sp g MX11_bank (rm 3 0 0) [.ref D, .int (I x), .int (I y)] hp (Eff (.int (I (if bkO x y then (if x = 0 then -2 else if bkV x y = 0 then 0 else 1) else -1))) (fun hp2 => DX hp2 D T U tx (if bkO x y ∧ ¬ x = 0 then (if bkV x y = 0 then [] else [bkV x y, if bkV x y = 1 ∨ bkV x y = x / 2 then 0 else 1]) else rw) rt hs ss KT ∧ SO hp hp2 D (D + 171))) := by
  refine Sp_mk rfl (Nat.le_of_ble_eq_true rfl) ?_
  show wp g _ _ _ 0 0 0 [some (.ref D), some (.int (I x)), some (.int (I y)), none] [] hp
  have O := SO.rf (hp := hp) (lo := D) (hi := D + 171)
  refine wp_iload_n (pc := 0) dX11_bank_0 rfl ?_
  refine wp_if_lt (pc := 1) 21 dX11_bank_1 (by decide) (by first | omega | exact TI.i5 (by assumption) | exact TI.i3 (by assumption) | exact TI.i2 (by assumption) | exact TI.i1 (by assumption) | exact TI.i0 (by assumption) | exact TI.i4 (by assumption) | exact TI.i6 (by assumption) | exact TI.i7 (by assumption)) (fun c1 => ?_) (fun c1 => ?_)
  ·
    rw [if_neg (show ¬ bkO x y by omega), if_neg (show ¬ (bkO x y ∧ ¬ x = 0) by omega)]
    refine wp_iconst (pc := 21) dX11_bank_21 ?_
    exact wp_ir (pc := 22) dX11_bank_22 rfl (by decide) (by decide) (by first | rfl | omega) ⟨⟨_, _, _, _, _, K⟩, O⟩
  ·
    refine wp_iload_n (pc := 4) dX11_bank_4 rfl ?_
    refine wp_bipush (pc := 5) (y := 99) dX11_bank_5 (by decide) ?_
    refine wp_icmp_gt (pc := 7) 21 dX11_bank_7 (by decide) (by first | omega | exact TI.i5 (by assumption) | exact TI.i3 (by assumption) | exact TI.i2 (by assumption) | exact TI.i1 (by assumption) | exact TI.i0 (by assumption) | exact TI.i4 (by assumption) | exact TI.i6 (by assumption) | exact TI.i7 (by assumption)) (by first | omega | exact TI.i5 (by assumption) | exact TI.i3 (by assumption) | exact TI.i2 (by assumption) | exact TI.i1 (by assumption) | exact TI.i0 (by assumption) | exact TI.i4 (by assumption) | exact TI.i6 (by assumption) | exact TI.i7 (by assumption)) (fun c7 => ?_) (fun c7 => ?_)
    ·
      rw [if_neg (show ¬ bkO x y by omega), if_neg (show ¬ (bkO x y ∧ ¬ x = 0) by omega)]
      refine wp_iconst (pc := 21) dX11_bank_21 ?_
      exact wp_ir (pc := 22) dX11_bank_22 rfl (by decide) (by decide) (by first | rfl | omega) ⟨⟨_, _, _, _, _, K⟩, O⟩
    ·
      refine wp_iload_n (pc := 10) dX11_bank_10 rfl ?_
      refine wp_iconst (pc := 11) dX11_bank_11 ?_
      refine wp_icmp_lt (pc := 12) 21 dX11_bank_12 (by decide) (by first | omega | exact TI.i5 (by assumption) | exact TI.i3 (by assumption) | exact TI.i2 (by assumption) | exact TI.i1 (by assumption) | exact TI.i0 (by assumption) | exact TI.i4 (by assumption) | exact TI.i6 (by assumption) | exact TI.i7 (by assumption)) (by first | omega | exact TI.i5 (by assumption) | exact TI.i3 (by assumption) | exact TI.i2 (by assumption) | exact TI.i1 (by assumption) | exact TI.i0 (by assumption) | exact TI.i4 (by assumption) | exact TI.i6 (by assumption) | exact TI.i7 (by assumption)) (fun c12 => ?_) (fun c12 => ?_)
      ·
        rw [if_neg (show ¬ bkO x y by omega), if_neg (show ¬ (bkO x y ∧ ¬ x = 0) by omega)]
        refine wp_iconst (pc := 21) dX11_bank_21 ?_
        exact wp_ir (pc := 22) dX11_bank_22 rfl (by decide) (by decide) (by first | rfl | omega) ⟨⟨_, _, _, _, _, K⟩, O⟩
      ·
        refine wp_iload_n (pc := 15) dX11_bank_15 rfl ?_
        refine wp_bipush (pc := 16) (y := 9) dX11_bank_16 (by decide) ?_
        refine wp_icmp_le (pc := 18) 23 dX11_bank_18 (by decide) (by first | omega | exact TI.i5 (by assumption) | exact TI.i3 (by assumption) | exact TI.i2 (by assumption) | exact TI.i1 (by assumption) | exact TI.i0 (by assumption) | exact TI.i4 (by assumption) | exact TI.i6 (by assumption) | exact TI.i7 (by assumption)) (by first | omega | exact TI.i5 (by assumption) | exact TI.i3 (by assumption) | exact TI.i2 (by assumption) | exact TI.i1 (by assumption) | exact TI.i0 (by assumption) | exact TI.i4 (by assumption) | exact TI.i6 (by assumption) | exact TI.i7 (by assumption)) (fun c18 => ?_) (fun c18 => ?_)
        ·
          refine wp_iload_n (pc := 23) dX11_bank_23 rfl ?_
          first | refine wp_ifb_ne (pc := 24) 30 dX11_bank_24 (by decide) (fun c24 => ?_) (fun c24 => ?_) | refine wp_if_ne (pc := 24) 30 dX11_bank_24 (by decide) (by first | omega | exact TI.i5 (by assumption) | exact TI.i3 (by assumption) | exact TI.i2 (by assumption) | exact TI.i1 (by assumption) | exact TI.i0 (by assumption) | exact TI.i4 (by assumption) | exact TI.i6 (by assumption) | exact TI.i7 (by assumption)) (fun c24 => ?_) (fun c24 => ?_)
          ·
            rw [if_pos (show bkO x y by omega), if_neg (show ¬ x = 0 by omega), if_pos (show bkO x y ∧ ¬ x = 0 by omega)]
            obtain ⟨k, rfl⟩ := Int.eq_ofNat_of_zero_le (show 0 ≤ x by omega)
            have hv : ltk (tkw y (k - 1)) (k : Int) 3 y = bkV (k : Int) y := rfl
            have hr := ltk_in (W := tkw y (k - 1)) (c := (k : Int)) (o := 3) (x := y) (by omega) (by omega)
            rw [hv] at hr -- go
            refine wp_aload_n (pc := 30) dX11_bank_30 rfl ?_
            refine wp_getf (pc := 31) dX11_bank_31 gf_X11_70 K.ob (by rfl) ?_
            refine wp_iload_n (pc := 34) dX11_bank_34 rfl ?_
            refine wp_iload_n (pc := 35) dX11_bank_35 rfl ?_
            refine wd_Vs (pc := 36) dX11_bank_36 cl_X11_339 (sp_Games_winningTake K.ga (by first | assumption | omega) (by first | assumption | omega)) rfl rfl K.ga.o (by rfl) (by decide) (Nat.le_of_ble_eq_true rfl) (fun hp36 e36 => ?_)
            obtain ⟨h36, o36⟩ := e36
            replace O := O.inn o36 (by omega) (by omega)
            replace K := K.uGa h36 o36
            rw [hv]
            refine wp_istore_n (pc := 39) dX11_bank_39 (by decide) ?_
            refine wp_aload_n (pc := 40) dX11_bank_40 rfl ?_
            refine wp_getf (pc := 41) dX11_bank_41 gf_X11_19 K.ob (by rfl) ?_
            refine wd_Vn (pc := 44) dX11_bank_44 cl_X11_243 (sp_Row_clear K.ro) rfl rfl K.ro.o (by rfl) (by decide) (Nat.le_of_ble_eq_true rfl) (fun hp44 e44 => ?_)
            obtain ⟨h44, o44⟩ := e44
            replace O := O.inn o44 (by omega) (by omega)
            replace K := K.uRo h44 o44
            refine wp_iload_n (pc := 47) dX11_bank_47 rfl ?_
            first | refine wp_ifb_ne (pc := 48) 53 dX11_bank_48 (by decide) (fun c48 => ?_) (fun c48 => ?_) | refine wp_if_ne (pc := 48) 53 dX11_bank_48 (by decide) (by first | omega | exact TI.i5 (by assumption) | exact TI.i3 (by assumption) | exact TI.i2 (by assumption) | exact TI.i1 (by assumption) | exact TI.i0 (by assumption) | exact TI.i4 (by assumption) | exact TI.i6 (by assumption) | exact TI.i7 (by assumption)) (fun c48 => ?_) (fun c48 => ?_)
            ·
              rw [if_neg (by omega), if_neg (by omega)] -- go
              refine wp_aload_n (pc := 53) dX11_bank_53 rfl ?_
              refine wp_getf (pc := 54) dX11_bank_54 gf_X11_19 K.ob (by rfl) ?_
              refine wp_iload_n (pc := 57) dX11_bank_57 rfl ?_
              refine wp_i2l (pc := 58) dX11_bank_58 (by first | omega | exact TI.i5 (by assumption) | exact TI.i3 (by assumption) | exact TI.i2 (by assumption) | exact TI.i1 (by assumption) | exact TI.i0 (by assumption) | exact TI.i4 (by assumption) | exact TI.i6 (by assumption) | exact TI.i7 (by assumption)) ?_
              refine wp_iload_n (pc := 59) dX11_bank_59 rfl ?_
              refine wp_iconst (pc := 60) dX11_bank_60 ?_
              refine wp_icmp_eq (pc := 61) 71 dX11_bank_61 (by decide) (by first | omega | exact TI.i5 (by assumption) | exact TI.i3 (by assumption) | exact TI.i2 (by assumption) | exact TI.i1 (by assumption) | exact TI.i0 (by assumption) | exact TI.i4 (by assumption) | exact TI.i6 (by assumption) | exact TI.i7 (by assumption)) (by first | omega | exact TI.i5 (by assumption) | exact TI.i3 (by assumption) | exact TI.i2 (by assumption) | exact TI.i1 (by assumption) | exact TI.i0 (by assumption) | exact TI.i4 (by assumption) | exact TI.i6 (by assumption) | exact TI.i7 (by assumption)) (fun c61 => ?_) (fun c61 => ?_)
              ·
                rw [if_pos (by omega)]
                refine wp_lcst (pc := 71) (y := 0) dX11_bank_71 rfl ?_
                refine wp_goto (pc := 72) 76 dX11_bank_72 (by decide) ?_
                refine wd_Vn (pc := 76) dX11_bank_76 cl_X11_204 (sp_Row_tell_ K.ro) rfl rfl K.ro.o (by rfl) (by decide) (Nat.le_of_ble_eq_true rfl) (fun hp76 e76 => ?_)
                obtain ⟨h76, o76⟩ := e76
                replace O := O.inn o76 (by omega) (by omega)
                replace K := K.uRo h76 o76
                refine wp_iconst (pc := 79) dX11_bank_79 ?_
                exact wp_ir (pc := 80) dX11_bank_80 rfl (by decide) (by decide) (by first | rfl | omega) ⟨⟨_, _, _, _, _, K⟩, O⟩
              ·
                refine wp_iload_n (pc := 64) dX11_bank_64 rfl ?_
                refine wp_iload_n (pc := 65) dX11_bank_65 rfl ?_
                refine wp_iconst (pc := 66) dX11_bank_66 ?_
                refine wp_idiv (pc := 67) dX11_bank_67 (by decide) (I_div (by omega) (by omega) (by omega) (by omega)) ?_
                refine wp_icmp_ne (pc := 68) 75 dX11_bank_68 (by decide) (by first | omega | exact TI.i5 (by assumption) | exact TI.i3 (by assumption) | exact TI.i2 (by assumption) | exact TI.i1 (by assumption) | exact TI.i0 (by assumption) | exact TI.i4 (by assumption) | exact TI.i6 (by assumption) | exact TI.i7 (by assumption)) (by first | omega | exact TI.i5 (by assumption) | exact TI.i3 (by assumption) | exact TI.i2 (by assumption) | exact TI.i1 (by assumption) | exact TI.i0 (by assumption) | exact TI.i4 (by assumption) | exact TI.i6 (by assumption) | exact TI.i7 (by assumption)) (fun c68 => ?_) (fun c68 => ?_)
                ·
                  rw [if_neg (by omega)]
                  refine wp_lcst (pc := 75) (y := 1) dX11_bank_75 rfl ?_
                  refine wd_Vn (pc := 76) dX11_bank_76 cl_X11_204 (sp_Row_tell_ K.ro) rfl rfl K.ro.o (by rfl) (by decide) (Nat.le_of_ble_eq_true rfl) (fun hp76 e76 => ?_)
                  obtain ⟨h76, o76⟩ := e76
                  replace O := O.inn o76 (by omega) (by omega)
                  replace K := K.uRo h76 o76
                  refine wp_iconst (pc := 79) dX11_bank_79 ?_
                  exact wp_ir (pc := 80) dX11_bank_80 rfl (by decide) (by decide) (by first | rfl | omega) ⟨⟨_, _, _, _, _, K⟩, O⟩
                ·
                  rw [if_pos (by omega)]
                  refine wp_lcst (pc := 71) (y := 0) dX11_bank_71 rfl ?_
                  refine wp_goto (pc := 72) 76 dX11_bank_72 (by decide) ?_
                  refine wd_Vn (pc := 76) dX11_bank_76 cl_X11_204 (sp_Row_tell_ K.ro) rfl rfl K.ro.o (by rfl) (by decide) (Nat.le_of_ble_eq_true rfl) (fun hp76 e76 => ?_)
                  obtain ⟨h76, o76⟩ := e76
                  replace O := O.inn o76 (by omega) (by omega)
                  replace K := K.uRo h76 o76
                  refine wp_iconst (pc := 79) dX11_bank_79 ?_
                  exact wp_ir (pc := 80) dX11_bank_80 rfl (by decide) (by decide) (by first | rfl | omega) ⟨⟨_, _, _, _, _, K⟩, O⟩
            ·
              rw [if_pos (by omega), if_pos (by omega)] -- go
              refine wp_iconst (pc := 51) dX11_bank_51 ?_
              exact wp_ir (pc := 52) dX11_bank_52 rfl (by decide) (by decide) (by first | rfl | omega) ⟨⟨_, _, _, _, _, K⟩, O⟩
          ·
            rw [if_pos (show bkO x y by omega), if_pos (show x = 0 by omega), if_neg (show ¬ (bkO x y ∧ ¬ x = 0) by omega)] -- go
            refine wp_bipush (pc := 27) (y := (-2)) dX11_bank_27 (by decide) ?_
            exact wp_ir (pc := 29) dX11_bank_29 rfl (by decide) (by decide) (by first | rfl | omega) ⟨⟨_, _, _, _, _, K⟩, O⟩
        ·
          rw [if_neg (show ¬ bkO x y by omega), if_neg (show ¬ (bkO x y ∧ ¬ x = 0) by omega)]
          refine wp_iconst (pc := 21) dX11_bank_21 ?_
          exact wp_ir (pc := 22) dX11_bank_22 rfl (by decide) (by decide) (by first | rfl | omega) ⟨⟨_, _, _, _, _, K⟩, O⟩
theorem sp_D_quiet (K : DA hp D r s Tr z Z T U tx rw rt hs ss KT) (hI : TI T N) (rx : InR x) (ry : InR y) : Sp g MX11_quiet (rm 4 0 0) [.ref D, .int (I x), .int (I y)] hp (Eff (.int (I (quA T N x y))) (fun hp2 => DX hp2 D T U tx (quR T N rw x y) rt hs ss KT ∧ SO hp hp2 D (D + 171))) := by
  obtain ⟨h8, hN⟩ := hI.men
  have h5 := sm_range (f := T 5) (lo := 0) (hi := 9) (n := N) (fun j _ => hI.r5 j)
  refine Sp_mk rfl (Nat.le_of_ble_eq_true rfl) ?_
  show wp g _ _ _ 0 0 0 [some (.ref D), some (.int (I x)), some (.int (I y))] [] hp
  have O := SO.rf (hp := hp) (lo := D) (hi := D + 171)
  refine wp_iload_n (pc := 0) dX11_quiet_0 rfl ?_
  refine wp_if_lt (pc := 1) 20 dX11_quiet_1 (by decide) (by first | omega | exact TI.i5 (by assumption) | exact TI.i3 (by assumption) | exact TI.i2 (by assumption) | exact TI.i1 (by assumption) | exact TI.i0 (by assumption) | exact TI.i4 (by assumption) | exact TI.i6 (by assumption) | exact TI.i7 (by assumption)) (fun c1 => ?_) (fun c1 => ?_)
  ·
    have e1 : quA T N x y = -1 := if_pos (by omega)
    have e2 : quR T N rw x y = rw := if_neg (by omega)
    rw [e1, e2]
    refine wp_iconst (pc := 20) dX11_quiet_20 ?_
    exact wp_ir (pc := 21) dX11_quiet_21 rfl (by decide) (by decide) (by first | rfl | omega) ⟨⟨_, _, _, _, _, K⟩, O⟩
  ·
    refine wp_iload_n (pc := 4) dX11_quiet_4 rfl ?_
    refine wp_bipush (pc := 5) (y := 6) dX11_quiet_5 (by decide) ?_
    refine wp_icmp_gt (pc := 7) 20 dX11_quiet_7 (by decide) (by first | omega | exact TI.i5 (by assumption) | exact TI.i3 (by assumption) | exact TI.i2 (by assumption) | exact TI.i1 (by assumption) | exact TI.i0 (by assumption) | exact TI.i4 (by assumption) | exact TI.i6 (by assumption) | exact TI.i7 (by assumption)) (by first | omega | exact TI.i5 (by assumption) | exact TI.i3 (by assumption) | exact TI.i2 (by assumption) | exact TI.i1 (by assumption) | exact TI.i0 (by assumption) | exact TI.i4 (by assumption) | exact TI.i6 (by assumption) | exact TI.i7 (by assumption)) (fun c7 => ?_) (fun c7 => ?_)
    ·
      have e1 : quA T N x y = -1 := if_pos (by omega)
      have e2 : quR T N rw x y = rw := if_neg (by omega)
      rw [e1, e2]
      refine wp_iconst (pc := 20) dX11_quiet_20 ?_
      exact wp_ir (pc := 21) dX11_quiet_21 rfl (by decide) (by decide) (by first | rfl | omega) ⟨⟨_, _, _, _, _, K⟩, O⟩
    ·
      refine wp_iload_n (pc := 10) dX11_quiet_10 rfl ?_
      refine wp_if_lt (pc := 11) 20 dX11_quiet_11 (by decide) (by first | omega | exact TI.i5 (by assumption) | exact TI.i3 (by assumption) | exact TI.i2 (by assumption) | exact TI.i1 (by assumption) | exact TI.i0 (by assumption) | exact TI.i4 (by assumption) | exact TI.i6 (by assumption) | exact TI.i7 (by assumption)) (fun c11 => ?_) (fun c11 => ?_)
      ·
        have e1 : quA T N x y = -1 := if_pos (by omega)
        have e2 : quR T N rw x y = rw := if_neg (by omega)
        rw [e1, e2]
        refine wp_iconst (pc := 20) dX11_quiet_20 ?_
        exact wp_ir (pc := 21) dX11_quiet_21 rfl (by decide) (by decide) (by first | rfl | omega) ⟨⟨_, _, _, _, _, K⟩, O⟩
      ·
        refine wp_iload_n (pc := 14) dX11_quiet_14 rfl ?_
        refine wp_bipush (pc := 15) (y := 10) dX11_quiet_15 (by decide) ?_
        refine wp_icmp_le (pc := 17) 22 dX11_quiet_17 (by decide) (by first | omega | exact TI.i5 (by assumption) | exact TI.i3 (by assumption) | exact TI.i2 (by assumption) | exact TI.i1 (by assumption) | exact TI.i0 (by assumption) | exact TI.i4 (by assumption) | exact TI.i6 (by assumption) | exact TI.i7 (by assumption)) (by first | omega | exact TI.i5 (by assumption) | exact TI.i3 (by assumption) | exact TI.i2 (by assumption) | exact TI.i1 (by assumption) | exact TI.i0 (by assumption) | exact TI.i4 (by assumption) | exact TI.i6 (by assumption) | exact TI.i7 (by assumption)) (fun c17 => ?_) (fun c17 => ?_)
        ·
          refine wp_aload_n (pc := 22) dX11_quiet_22 rfl ?_
          refine wp_getf (pc := 23) dX11_quiet_23 gf_X11_26 K.ob (by rfl) ?_
          refine wp_aload_n (pc := 26) dX11_quiet_26 rfl ?_
          refine wp_getf (pc := 27) dX11_quiet_27 gf_X11_26 K.ob (by rfl) ?_
          refine wp_getf (pc := 30) dX11_quiet_30 gf_X11_160 (by first | exact K.ob | exact K.to.1 | exact K.tr.1 | exact K.to.2.1 | exact K.to.2.2.1 | exact K.to.2.2.2.1 | exact K.to.2.2.2.2.1 | exact K.to.2.2.2.2.2.1 | exact K.to.2.2.2.2.2.2.1 | exact K.to.2.2.2.2.2.2.2 | exact K.tr.2.1 | exact K.tr.2.2.1 | exact K.tr.2.2.2.1 | exact K.tr.2.2.2.2.1 | exact K.tr.2.2.2.2.2.1 | exact K.tr.2.2.2.2.2.2.1 | exact K.tr.2.2.2.2.2.2.2) (by rfl) ?_
          refine wd_Vp (pc := 33) dX11_quiet_33 cl_X11_189 (sp_Town_sum (by first | assumption | omega | exact K.to | exact K.tr | exact K.to.2.1 | exact K.to.2.2.1 | exact K.to.2.2.2.1 | exact K.to.2.2.2.2.1 | exact K.to.2.2.2.2.2.1 | exact K.to.2.2.2.2.2.2.1 | exact K.to.2.2.2.2.2.2.2 | exact K.tr.2.1 | exact K.tr.2.2.1 | exact K.tr.2.2.2.1 | exact K.tr.2.2.2.2.1 | exact K.tr.2.2.2.2.2.1 | exact K.tr.2.2.2.2.2.2.1 | exact K.tr.2.2.2.2.2.2.2) (by first | assumption | omega | exact K.to | exact K.tr | exact K.to.2.1 | exact K.to.2.2.1 | exact K.to.2.2.2.1 | exact K.to.2.2.2.2.1 | exact K.to.2.2.2.2.2.1 | exact K.to.2.2.2.2.2.2.1 | exact K.to.2.2.2.2.2.2.2 | exact K.tr.2.1 | exact K.tr.2.2.1 | exact K.tr.2.2.2.1 | exact K.tr.2.2.2.2.1 | exact K.tr.2.2.2.2.2.1 | exact K.tr.2.2.2.2.2.2.1 | exact K.tr.2.2.2.2.2.2.2) (by first | assumption | omega | exact K.to | exact K.tr | exact K.to.2.1 | exact K.to.2.2.1 | exact K.to.2.2.2.1 | exact K.to.2.2.2.2.1 | exact K.to.2.2.2.2.2.1 | exact K.to.2.2.2.2.2.2.1 | exact K.to.2.2.2.2.2.2.2 | exact K.tr.2.1 | exact K.tr.2.2.1 | exact K.tr.2.2.2.1 | exact K.tr.2.2.2.2.1 | exact K.tr.2.2.2.2.2.1 | exact K.tr.2.2.2.2.2.2.1 | exact K.tr.2.2.2.2.2.2.2) (by first | assumption | omega | exact K.to | exact K.tr | exact K.to.2.1 | exact K.to.2.2.1 | exact K.to.2.2.2.1 | exact K.to.2.2.2.2.1 | exact K.to.2.2.2.2.2.1 | exact K.to.2.2.2.2.2.2.1 | exact K.to.2.2.2.2.2.2.2 | exact K.tr.2.1 | exact K.tr.2.2.1 | exact K.tr.2.2.2.1 | exact K.tr.2.2.2.2.1 | exact K.tr.2.2.2.2.2.1 | exact K.tr.2.2.2.2.2.2.1 | exact K.tr.2.2.2.2.2.2.2) (by first | assumption | omega | exact K.to | exact K.tr | exact K.to.2.1 | exact K.to.2.2.1 | exact K.to.2.2.2.1 | exact K.to.2.2.2.2.1 | exact K.to.2.2.2.2.2.1 | exact K.to.2.2.2.2.2.2.1 | exact K.to.2.2.2.2.2.2.2 | exact K.tr.2.1 | exact K.tr.2.2.1 | exact K.tr.2.2.2.1 | exact K.tr.2.2.2.2.1 | exact K.tr.2.2.2.2.2.1 | exact K.tr.2.2.2.2.2.2.1 | exact K.tr.2.2.2.2.2.2.2)) rfl rfl (by first | exact K.to.o | exact K.tr.o | exact K.k0.o | exact K.k1.o) (by rfl) (by decide) (Nat.le_of_ble_eq_true rfl) ?_
          refine wp_bipush (pc := 36) (y := 16) dX11_quiet_36 (by decide) ?_
          refine wp_icmp_le (pc := 38) 44 dX11_quiet_38 (by decide) (by first | omega | exact TI.i5 (by assumption) | exact TI.i3 (by assumption) | exact TI.i2 (by assumption) | exact TI.i1 (by assumption) | exact TI.i0 (by assumption) | exact TI.i4 (by assumption) | exact TI.i6 (by assumption) | exact TI.i7 (by assumption)) (by first | omega | exact TI.i5 (by assumption) | exact TI.i3 (by assumption) | exact TI.i2 (by assumption) | exact TI.i1 (by assumption) | exact TI.i0 (by assumption) | exact TI.i4 (by assumption) | exact TI.i6 (by assumption) | exact TI.i7 (by assumption)) (fun c38 => ?_) (fun c38 => ?_)
          ·
            have e1 : quA T N x y = 0 := by unfold quA; rw [if_neg (by omega), if_neg (by omega)]
            have e2 : quR T N rw x y = [qup y T N x.toNat / qgc y T N x.toNat, qlo T N / qgc y T N x.toNat] := if_pos (by omega)
            rw [e1, e2]
            obtain ⟨k, rfl⟩ := Int.eq_ofNat_of_zero_le (show 0 ≤ x by omega) -- go
            refine wp_aload_n (pc := 44) dX11_quiet_44 rfl ?_
            refine wp_getf (pc := 45) dX11_quiet_45 gf_X11_70 K.ob (by rfl) ?_
            refine wp_aload_n (pc := 48) dX11_quiet_48 rfl ?_
            refine wp_getf (pc := 49) dX11_quiet_49 gf_X11_26 K.ob (by rfl) ?_
            refine wp_iload_n (pc := 52) dX11_quiet_52 rfl ?_
            refine wp_iload_n (pc := 53) dX11_quiet_53 rfl ?_
            refine wp_aload_n (pc := 54) dX11_quiet_54 rfl ?_
            refine wp_getf (pc := 55) dX11_quiet_55 gf_X11_19 K.ob (by rfl) ?_
            refine wd_Vn (pc := 58) dX11_quiet_58 cl_X11_342 (sp_Games_quietChance K.ga K.to (by first | assumption | omega) K.ro (by first | assumption | omega) (by first | assumption | omega) (by first | assumption | omega) (by omega) (by omega)) rfl rfl K.ga.o (by rfl) (by decide) (Nat.le_of_ble_eq_true rfl) (fun hp58 e58 => ?_)
            obtain ⟨h158, h258, e58a, o58⟩ := e58
            replace O := O.two e58a o58 (by omega) (by omega)
            replace K := K.uGR h158 h258 o58
            refine wp_iconst (pc := 61) dX11_quiet_61 ?_
            exact wp_ir (pc := 62) dX11_quiet_62 rfl (by decide) (by decide) (by first | rfl | omega) ⟨⟨_, _, _, _, _, K⟩, O⟩
          ·
            have e1 : quA T N x y = -2 := by unfold quA; rw [if_neg (by omega), if_pos (by omega)]
            have e2 : quR T N rw x y = rw := if_neg (by omega)
            rw [e1, e2] -- go
            refine wp_bipush (pc := 41) (y := (-2)) dX11_quiet_41 (by decide) ?_
            exact wp_ir (pc := 43) dX11_quiet_43 rfl (by decide) (by decide) (by first | rfl | omega) ⟨⟨_, _, _, _, _, K⟩, O⟩
        ·
          have e1 : quA T N x y = -1 := if_pos (by omega)
          have e2 : quR T N rw x y = rw := if_neg (by omega)
          rw [e1, e2]
          refine wp_iconst (pc := 20) dX11_quiet_20 ?_
          exact wp_ir (pc := 21) dX11_quiet_21 rfl (by decide) (by decide) (by first | rfl | omega) ⟨⟨_, _, _, _, _, K⟩, O⟩
theorem sp_D_rests (K : DA hp D r s Tr z Z T U tx rw rt hs ss KT) (rx : InR x) (ry : InR y) : Sp g MX11_rests (rm 4 0 0) [.ref D, .int (I x), .int (I y)] hp (Eff (.int (I (if rsO x y then ((cnt (rst x y) 100 : Nat) : Int) else -1))) (fun hp2 => DX hp2 D T U tx (if rsO x y then rro (rst x y) 100 else rw) rt hs ss KT ∧ SO hp hp2 D (D + 171))) := by
  refine Sp_mk rfl (Nat.le_of_ble_eq_true rfl) ?_
  show wp g _ _ _ 0 0 0 [some (.ref D), some (.int (I x)), some (.int (I y))] [] hp
  have O := SO.rf (hp := hp) (lo := D) (hi := D + 171)
  refine wp_iload_n (pc := 0) dX11_rests_0 rfl ?_
  refine wp_if_lt (pc := 1) 19 dX11_rests_1 (by decide) (by first | omega | exact TI.i5 (by assumption) | exact TI.i3 (by assumption) | exact TI.i2 (by assumption) | exact TI.i1 (by assumption) | exact TI.i0 (by assumption) | exact TI.i4 (by assumption) | exact TI.i6 (by assumption) | exact TI.i7 (by assumption)) (fun c1 => ?_) (fun c1 => ?_)
  ·
    rw [if_neg (show ¬ rsO x y by omega), if_neg (show ¬ rsO x y by omega)]
    refine wp_iconst (pc := 19) dX11_rests_19 ?_
    exact wp_ir (pc := 20) dX11_rests_20 rfl (by decide) (by decide) (by first | rfl | omega) ⟨⟨_, _, _, _, _, K⟩, O⟩
  ·
    refine wp_iload_n (pc := 4) dX11_rests_4 rfl ?_
    refine wp_bipush (pc := 5) (y := 20) dX11_rests_5 (by decide) ?_
    refine wp_icmp_gt (pc := 7) 19 dX11_rests_7 (by decide) (by first | omega | exact TI.i5 (by assumption) | exact TI.i3 (by assumption) | exact TI.i2 (by assumption) | exact TI.i1 (by assumption) | exact TI.i0 (by assumption) | exact TI.i4 (by assumption) | exact TI.i6 (by assumption) | exact TI.i7 (by assumption)) (by first | omega | exact TI.i5 (by assumption) | exact TI.i3 (by assumption) | exact TI.i2 (by assumption) | exact TI.i1 (by assumption) | exact TI.i0 (by assumption) | exact TI.i4 (by assumption) | exact TI.i6 (by assumption) | exact TI.i7 (by assumption)) (fun c7 => ?_) (fun c7 => ?_)
    ·
      rw [if_neg (show ¬ rsO x y by omega), if_neg (show ¬ rsO x y by omega)]
      refine wp_iconst (pc := 19) dX11_rests_19 ?_
      exact wp_ir (pc := 20) dX11_rests_20 rfl (by decide) (by decide) (by first | rfl | omega) ⟨⟨_, _, _, _, _, K⟩, O⟩
    ·
      refine wp_iload_n (pc := 10) dX11_rests_10 rfl ?_
      refine wp_if_lt (pc := 11) 19 dX11_rests_11 (by decide) (by first | omega | exact TI.i5 (by assumption) | exact TI.i3 (by assumption) | exact TI.i2 (by assumption) | exact TI.i1 (by assumption) | exact TI.i0 (by assumption) | exact TI.i4 (by assumption) | exact TI.i6 (by assumption) | exact TI.i7 (by assumption)) (fun c11 => ?_) (fun c11 => ?_)
      ·
        rw [if_neg (show ¬ rsO x y by omega), if_neg (show ¬ rsO x y by omega)]
        refine wp_iconst (pc := 19) dX11_rests_19 ?_
        exact wp_ir (pc := 20) dX11_rests_20 rfl (by decide) (by decide) (by first | rfl | omega) ⟨⟨_, _, _, _, _, K⟩, O⟩
      ·
        refine wp_iload_n (pc := 14) dX11_rests_14 rfl ?_
        refine wp_iconst (pc := 15) dX11_rests_15 ?_
        refine wp_icmp_le (pc := 16) 21 dX11_rests_16 (by decide) (by first | omega | exact TI.i5 (by assumption) | exact TI.i3 (by assumption) | exact TI.i2 (by assumption) | exact TI.i1 (by assumption) | exact TI.i0 (by assumption) | exact TI.i4 (by assumption) | exact TI.i6 (by assumption) | exact TI.i7 (by assumption)) (by first | omega | exact TI.i5 (by assumption) | exact TI.i3 (by assumption) | exact TI.i2 (by assumption) | exact TI.i1 (by assumption) | exact TI.i0 (by assumption) | exact TI.i4 (by assumption) | exact TI.i6 (by assumption) | exact TI.i7 (by assumption)) (fun c16 => ?_) (fun c16 => ?_)
        ·
          rw [if_pos (show rsO x y by omega), if_pos (show rsO x y by omega)]
          refine wp_aload_n (pc := 21) dX11_rests_21 rfl ?_
          refine wp_getf (pc := 22) dX11_rests_22 gf_X11_70 K.ob (by rfl) ?_
          refine wp_iload_n (pc := 25) dX11_rests_25 rfl ?_
          refine wp_iload_n (pc := 26) dX11_rests_26 rfl ?_
          refine wp_aload_n (pc := 27) dX11_rests_27 rfl ?_
          refine wp_getf (pc := 28) dX11_rests_28 gf_X11_19 K.ob (by rfl) ?_
          refine wd_Vs (pc := 31) dX11_rests_31 cl_X11_346 (sp_Games_restingPairs K.ga K.ro (by first | assumption | omega) (by first | assumption | omega) (by omega)) rfl rfl K.ga.o (by rfl) (by decide) (Nat.le_of_ble_eq_true rfl) (fun hp31 e31 => ?_)
          obtain ⟨h131, h231, e31a, o31⟩ := e31
          replace O := O.two e31a o31 (by omega) (by omega)
          replace K := K.uGR h131 h231 o31
          exact wp_ir (pc := 34) dX11_rests_34 rfl (by decide) (by decide) (by first | rfl | omega) ⟨⟨_, _, _, _, _, K⟩, O⟩
        ·
          rw [if_neg (show ¬ rsO x y by omega), if_neg (show ¬ rsO x y by omega)]
          refine wp_iconst (pc := 19) dX11_rests_19 ?_
          exact wp_ir (pc := 20) dX11_rests_20 rfl (by decide) (by decide) (by first | rfl | omega) ⟨⟨_, _, _, _, _, K⟩, O⟩
end D5

