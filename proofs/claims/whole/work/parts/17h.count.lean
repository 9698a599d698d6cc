/-! the class: counts and sheets -/
section D7
variable {g : GT} {hp hp2 hp0 : Hp} {D r s N n k i P : Nat} {T T2 Tr Z X : Nat → Int → Int} {z x y a b c : Int} {U : List (Nat → Int → Int)} {tx rw rt : List Int} {hs : List (Int × Int)} {ss : List (Int × Int × Int)} {KT KT2 : Nat → Option (Nat → Int → Int)}
theorem lp_D_aw2 (hI : TI T N) (hn : n < N) {Q : Option Value → Hp → Prop} (Kn : ∀ hp3, DA hp3 D r s Tr z Z T U tx rw rt hs ss KT → SO hp hp3 D (D + 171) → wp g MX11_allWords (rm 3 0 0) Q 0 0 4 [some (.ref D), some (.int (I (opj (oaH (stl rt) T 1) n a N))), some (.int (I ((n : Int) + 1))), none] [] hp3) : ∀ (m i : Nat), N < i + m → i ≤ N → ∀ (hp2 : Hp) (K : DA hp2 D r s Tr z Z T U tx rw rt hs ss KT) (O : SO hp hp2 D (D + 171)), wp g MX11_allWords (rm 3 0 0) Q 0 0 17 [some (.ref D), some (.int (I (opj (oaH (stl rt) T 1) n a i))), some (.int (I (n : Int))), some (.int (I (i : Int)))] [] hp2 := by
  intro m
  induction m with
  | zero => intro i h1 h2; exact absurd h1 (by omega)
  | succ m ih =>
    intro i h1 h2 hp2 K O
    obtain ⟨h8, hN⟩ := hI.men
    refine wp_iload_n (pc := 17) dX11_allWords_17 rfl ?_
    refine wp_aload_n (pc := 18) dX11_allWords_18 rfl ?_
    refine wp_getf (pc := 19) dX11_allWords_19 gf_X11_26 K.ob (by rfl) ?_
    refine wp_getf (pc := 22) dX11_allWords_22 gf_X11_110 (by first | exact K.ob | exact K.to.1 | exact K.tr.1 | exact K.to.2.1 | exact K.to.2.2.1 | exact K.to.2.2.2.1 | exact K.to.2.2.2.2.1 | exact K.to.2.2.2.2.2.1 | exact K.to.2.2.2.2.2.2.1 | exact K.to.2.2.2.2.2.2.2 | exact K.tr.2.1 | exact K.tr.2.2.1 | exact K.tr.2.2.2.1 | exact K.tr.2.2.2.2.1 | exact K.tr.2.2.2.2.2.1 | exact K.tr.2.2.2.2.2.2.1 | exact K.tr.2.2.2.2.2.2.2) (by rfl) ?_
    refine wp_icmp_ge (pc := 25) 59 dX11_allWords_25 (by decide) (by first | omega | exact TI.i5 (by assumption) | exact TI.i3 (by assumption) | exact TI.i2 (by assumption) | exact TI.i1 (by assumption) | exact TI.i0 (by assumption) | exact TI.i4 (by assumption) | exact TI.i6 (by assumption) | exact TI.i7 (by assumption)) (by first | omega | exact TI.i5 (by assumption) | exact TI.i3 (by assumption) | exact TI.i2 (by assumption) | exact TI.i1 (by assumption) | exact TI.i0 (by assumption) | exact TI.i4 (by assumption) | exact TI.i6 (by assumption) | exact TI.i7 (by assumption)) (fun c25 => ?_) (fun c25 => ?_)
    ·
      have e : i = N := by omega
      subst e -- go
      refine wp_iinc (pc := 59) dX11_allWords_59 rfl (by decide) ?_
      refine wp_goto (pc := 62) 4 dX11_allWords_62 (by decide) ?_
      refine wp_ls ?_ (Kn _ K O)
      repeat' (first | exact LE_0 | refine LE_s rfl ?_ | refine LE_s (I_c (by first | omega | (simp only [sm]; omega))) ?_ | refine LE_s (J_c (by first | omega | exact Int.pow_succ _ _ | exact (Int.pow_succ _ _).symm | exact (Int.pow_zero _).symm | (simp only [sm]; omega))) ?_ | refine LE_n ?_)
    ·
      refine wp_iload_n (pc := 28) dX11_allWords_28 rfl ?_
      refine wp_iload_n (pc := 29) dX11_allWords_29 rfl ?_
      refine wp_iload_n (pc := 30) dX11_allWords_30 rfl ?_
      refine wp_icmp_ne (pc := 31) 38 dX11_allWords_31 (by decide) (by first | omega | exact TI.i5 (by assumption) | exact TI.i3 (by assumption) | exact TI.i2 (by assumption) | exact TI.i1 (by assumption) | exact TI.i0 (by assumption) | exact TI.i4 (by assumption) | exact TI.i6 (by assumption) | exact TI.i7 (by assumption)) (by first | omega | exact TI.i5 (by assumption) | exact TI.i3 (by assumption) | exact TI.i2 (by assumption) | exact TI.i1 (by assumption) | exact TI.i0 (by assumption) | exact TI.i4 (by assumption) | exact TI.i6 (by assumption) | exact TI.i7 (by assumption)) (fun c31 => ?_) (fun c31 => ?_)
      ·
        have e1 : opj (oaH (stl rt) T 1) n a (i + 1) = opj (oaH (stl rt) T 1) n a i + wv (stl rt) T (n : Int) (i : Int) := congrArg _ ((if_neg (show ¬ n = i by omega)).trans (if_neg (by decide)))
        skip -- go
        refine wp_aload_n (pc := 38) dX11_allWords_38 rfl ?_
        refine wp_getf (pc := 39) dX11_allWords_39 gf_X11_91 K.ob (by rfl) ?_
        refine wp_aload_n (pc := 42) dX11_allWords_42 rfl ?_
        refine wp_getf (pc := 43) dX11_allWords_43 gf_X11_26 K.ob (by rfl) ?_
        refine wp_iload_n (pc := 46) dX11_allWords_46 rfl ?_
        refine wp_iload_n (pc := 47) dX11_allWords_47 rfl ?_
        refine wd_Vs (pc := 48) dX11_allWords_48 cl_X11_176 (sp_Rule_words K.ru (by first | exact K.to | exact K.tr) (by first | assumption | omega) (by first | assumption | omega) (by first | assumption | omega) (by have := K.rs; omega)) rfl rfl (by first | exact K.ru.o | exact K.sp.o) (by rfl) (by decide) (Nat.le_of_ble_eq_true rfl) (fun hp48 e48 => ?_)
        obtain ⟨h48, o48⟩ := e48
        replace O := O.inn o48 (by have := K.rs; omega) (by have := K.rs; omega)
        replace K := K.uRu h48 o48
        refine wp_iadd (pc := 51) dX11_allWords_51 ?_
        refine wp_istore_n (pc := 52) dX11_allWords_52 (by decide) ?_
        refine wp_iinc (pc := 53) dX11_allWords_53 rfl (by decide) ?_
        refine wp_goto (pc := 56) 17 dX11_allWords_56 (by decide) ?_
        refine wp_ls ?_ (ih (i + 1) (by omega) (by omega) _ K O)
        rw [e1]
        repeat' (first | exact LE_0 | refine LE_s rfl ?_ | refine LE_s (I_c (by first | omega | (simp only [sm]; omega))) ?_ | refine LE_s (J_c (by first | omega | exact Int.pow_succ _ _ | exact (Int.pow_succ _ _).symm | exact (Int.pow_zero _).symm | (simp only [sm]; omega))) ?_ | refine LE_n ?_)
      ·
        have e1 : opj (oaH (stl rt) T 1) n a (i + 1) = opj (oaH (stl rt) T 1) n a i + 0 := congrArg _ (if_pos (by omega))
        skip -- go
        refine wp_iconst (pc := 34) dX11_allWords_34 ?_
        refine wp_goto (pc := 35) 51 dX11_allWords_35 (by decide) ?_
        refine wp_iadd (pc := 51) dX11_allWords_51 ?_
        refine wp_istore_n (pc := 52) dX11_allWords_52 (by decide) ?_
        refine wp_iinc (pc := 53) dX11_allWords_53 rfl (by decide) ?_
        refine wp_goto (pc := 56) 17 dX11_allWords_56 (by decide) ?_
        refine wp_ls ?_ (ih (i + 1) (by omega) (by omega) _ K O)
        rw [e1]
        repeat' (first | exact LE_0 | refine LE_s rfl ?_ | refine LE_s (I_c (by first | omega | (simp only [sm]; omega))) ?_ | refine LE_s (J_c (by first | omega | exact Int.pow_succ _ _ | exact (Int.pow_succ _ _).symm | exact (Int.pow_zero _).symm | (simp only [sm]; omega))) ?_ | refine LE_n ?_)
theorem lp_D_aw1 (hI : TI T N) : ∀ (m i : Nat), N < i + m → i ≤ N → ∀ (hp2 : Hp) (K : DA hp2 D r s Tr z Z T U tx rw rt hs ss KT) (O : SO hp hp2 D (D + 171)), wp g MX11_allWords (rm 3 0 0) (Eff (.int (I (opi (oaH (stl rt) T 1) N N))) (fun hp3 => DX hp3 D T U tx rw rt hs ss KT ∧ SO hp hp3 D (D + 171))) 0 0 4 [some (.ref D), some (.int (I (opi (oaH (stl rt) T 1) N i))), some (.int (I (i : Int))), none] [] hp2 := by
  intro m
  induction m with
  | zero => intro i h1 h2; exact absurd h1 (by omega)
  | succ m ih =>
    intro i h1 h2 hp2 K O
    obtain ⟨h8, hN⟩ := hI.men
    refine wp_iload_n (pc := 4) dX11_allWords_4 rfl ?_
    refine wp_aload_n (pc := 5) dX11_allWords_5 rfl ?_
    refine wp_getf (pc := 6) dX11_allWords_6 gf_X11_26 K.ob (by rfl) ?_
    refine wp_getf (pc := 9) dX11_allWords_9 gf_X11_110 (by first | exact K.ob | exact K.to.1 | exact K.tr.1 | exact K.to.2.1 | exact K.to.2.2.1 | exact K.to.2.2.2.1 | exact K.to.2.2.2.2.1 | exact K.to.2.2.2.2.2.1 | exact K.to.2.2.2.2.2.2.1 | exact K.to.2.2.2.2.2.2.2 | exact K.tr.2.1 | exact K.tr.2.2.1 | exact K.tr.2.2.2.1 | exact K.tr.2.2.2.2.1 | exact K.tr.2.2.2.2.2.1 | exact K.tr.2.2.2.2.2.2.1 | exact K.tr.2.2.2.2.2.2.2) (by rfl) ?_
    refine wp_icmp_ge (pc := 12) 65 dX11_allWords_12 (by decide) (by first | omega | exact TI.i5 (by assumption) | exact TI.i3 (by assumption) | exact TI.i2 (by assumption) | exact TI.i1 (by assumption) | exact TI.i0 (by assumption) | exact TI.i4 (by assumption) | exact TI.i6 (by assumption) | exact TI.i7 (by assumption)) (by first | omega | exact TI.i5 (by assumption) | exact TI.i3 (by assumption) | exact TI.i2 (by assumption) | exact TI.i1 (by assumption) | exact TI.i0 (by assumption) | exact TI.i4 (by assumption) | exact TI.i6 (by assumption) | exact TI.i7 (by assumption)) (fun c12 => ?_) (fun c12 => ?_)
    ·
      have e : i = N := by omega
      subst e -- go
      refine wp_iload_n (pc := 65) dX11_allWords_65 rfl ?_
      exact wp_ir (pc := 66) dX11_allWords_66 rfl (by decide) (by decide) (by first | rfl | omega) ⟨⟨_, _, _, _, _, K⟩, O⟩
    ·
      refine wp_iconst (pc := 15) dX11_allWords_15 ?_
      refine wp_istore_n (pc := 16) dX11_allWords_16 (by decide) ?_
      refine wp_ls ?_ (lp_D_aw2 (hp := hp) (n := i) (a := opi (oaH (stl rt) T 1) N i) hI (by omega) (fun hp3 K3 O3 => wp_ls ?_ (ih (i + 1) (by omega) (by omega) hp3 K3 O3)) (N + 1) 0 (by omega) (by omega) _ K O)
      · repeat' (first | exact LE_0 | refine LE_s rfl ?_ | refine LE_s (I_c (by first | omega | (simp only [sm]; omega))) ?_ | refine LE_s (J_c (by first | omega | exact Int.pow_succ _ _ | exact (Int.pow_succ _ _).symm | exact (Int.pow_zero _).symm | (simp only [sm]; omega))) ?_ | refine LE_n ?_)
      · repeat' (first | exact LE_0 | refine LE_s rfl ?_ | refine LE_s (I_c (by first | omega | (simp only [sm]; omega))) ?_ | refine LE_s (J_c (by first | omega | exact Int.pow_succ _ _ | exact (Int.pow_succ _ _).symm | exact (Int.pow_zero _).symm | (simp only [sm]; omega))) ?_ | refine LE_n ?_)
theorem sp_D_allWords (K : DA hp D r s Tr z Z T U tx rw rt hs ss KT) (hI : TI T N) : Sp g MX11_allWords (rm 3 0 0) [.ref D] hp (Eff (.int (I (opi (oaH (stl rt) T 1) N N))) (fun hp2 => DX hp2 D T U tx rw rt hs ss KT ∧ SO hp hp2 D (D + 171))) := by
  refine Sp_mk rfl (Nat.le_of_ble_eq_true rfl) ?_
  show wp g _ _ _ 0 0 0 [some (.ref D), none, none, none] [] hp
  have O := SO.rf (hp := hp) (lo := D) (hi := D + 171)
  refine wp_iconst (pc := 0) dX11_allWords_0 ?_
  refine wp_istore_n (pc := 1) dX11_allWords_1 (by decide) ?_
  refine wp_iconst (pc := 2) dX11_allWords_2 ?_
  refine wp_istore_n (pc := 3) dX11_allWords_3 (by decide) ?_
  refine wp_ls ?_ (lp_D_aw1 hI (N + 1) 0 (by omega) (by omega) _ K O)
  repeat' (first | exact LE_0 | refine LE_s rfl ?_ | refine LE_s (I_c (by first | omega | (simp only [sm]; omega))) ?_ | refine LE_s (J_c (by first | omega | exact Int.pow_succ _ _ | exact (Int.pow_succ _ _).symm | exact (Int.pow_zero _).symm | (simp only [sm]; omega))) ?_ | refine LE_n ?_)
abbrev ZD (T : Nat → Int → Int) : Prop := ∀ i : Int, 0 ≤ i → i < 6 → T 1 (i * 6 + i) = 0
theorem spr_oby (hN : N ≤ 6) (hD : ZD T) : spr (T 1) N N = sm (fun i => oby T i N) N := by
  unfold spr oby
  refine sm_congr (fun i hi => sm_congr (fun j hj => ?_))
  by_cases c : (i : Int) = (j : Int)
  · rw [if_pos c, ← c, hD (i : Int) (by omega) (by omega)]
  · rw [if_neg c]
theorem opj_sm {H : Nat → Nat → Int} {f : Int → Int} {i : Nat} {a : Int} (h : ∀ j : Nat, H i j = f ((i : Int) * 6 + (j : Int))) : ∀ n : Nat, opj H i a n = a + sm (fun j => if (i : Int) = j then 0 else f ((i : Int) * 6 + j)) n
  | 0 => (Int.add_zero a).symm
  | n + 1 => by
    show opj H i a n + (if i = n then 0 else H i n) = a + (sm _ n + (if (i : Int) = (n : Int) then 0 else f ((i : Int) * 6 + (n : Int))))
    rw [opj_sm h n, h n]
    by_cases c : i = n
    · rw [if_pos c, if_pos (by omega)]; omega
    · rw [if_neg c, if_neg (by omega)]; omega
theorem opi_sm {H : Nat → Nat → Int} {f : Int → Int} {N : Nat} (h : ∀ i j : Nat, H i j = f ((i : Int) * 6 + (j : Int))) : ∀ n : Nat, opi H N n = spr f N n
  | 0 => rfl
  | n + 1 => by
    show opj H n (opi H N n) N = spr f N n + sm _ N
    rw [opj_sm (h n), opi_sm h n]
theorem andn_dd (hN : N ≤ 6) : andn (2 ^ N - 1) (bits (lv T) N) = bits (ddb T) N := by
  apply Nat.eq_of_testBit_eq
  intro i
  unfold andn
  rw [Nat.testBit_and, Nat.testBit_xor, bits_test, bits_test, Nat.testBit_two_pow_sub_one]
  by_cases c : i < N
  · have : (63 : Nat).testBit i = true := by
      have h6 : ∀ i : Fin 6, (63 : Nat).testBit i.val = true := by decide
      exact h6 ⟨i, by omega⟩
    rw [this]
    simp [c, ddb]
  · simp [c]
theorem sp_D_count (K : DA hp D r s Tr z Z T U tx rw rt hs ss KT) (hI : TI T N) (hD : ZD T) (rx : InR x) : Sp g MX11_count (rm 4 0 0) [.ref D, .int (I x)] hp (Eff (.int (I (cntA N T U tx rw rt hs ss x))) (fun hp2 => DX hp2 D T U tx rw rt hs ss KT ∧ SO hp hp2 D (D + 171))) := by
  obtain ⟨h8, hN⟩ := hI.men
  have h64 : 2 ^ N ≤ 64 := Nat.pow_le_pow_right (n := 2) (by decide) hN
  have h64' : 1 ≤ 2 ^ N := Nat.one_le_two_pow
  have hlt := bits_lt (lv T) N
  have O := SO.rf (hp := hp) (lo := D) (hi := D + 171)
  refine Sp_mk rfl (Nat.le_of_ble_eq_true rfl) ?_
  show wp g _ _ _ 0 0 0 [some (.ref D), some (.int (I x))] [] hp
  refine wp_iload_n (pc := 0) dX11_count_0 rfl ?_
  by_cases q : 0 ≤ x ∧ x ≤ 13
  · rcases (show x = 0 ∨ x = 1 ∨ x = 2 ∨ x = 3 ∨ x = 4 ∨ x = 5 ∨ x = 6 ∨ x = 7 ∨ x = 8 ∨ x = 9 ∨ x = 10 ∨ x = 11 ∨ x = 12 ∨ x = 13 by omega) with e | e | e | e | e | e | e | e | e | e | e | e | e | e
    · subst e
      have ec : cntA N T U tx rw rt hs ss 0 = cntA N T U tx rw rt hs ss 0 := rfl
      refine wp_tswIn (pc := 1) 72 dX11_count_1 (by omega) (by decide) (by decide) rfl (by decide) ?_
      refine wp_aload_n (pc := 72) dX11_count_72 rfl ?_
      refine wp_getf (pc := 73) dX11_count_73 gf_X11_26 K.ob (by rfl) ?_
      refine wp_getf (pc := 76) dX11_count_76 gf_X11_110 (by first | exact K.ob | exact K.to.1 | exact K.tr.1 | exact K.to.2.1 | exact K.to.2.2.1 | exact K.to.2.2.2.1 | exact K.to.2.2.2.2.1 | exact K.to.2.2.2.2.2.1 | exact K.to.2.2.2.2.2.2.1 | exact K.to.2.2.2.2.2.2.2 | exact K.tr.2.1 | exact K.tr.2.2.1 | exact K.tr.2.2.2.1 | exact K.tr.2.2.2.2.1 | exact K.tr.2.2.2.2.2.1 | exact K.tr.2.2.2.2.2.2.1 | exact K.tr.2.2.2.2.2.2.2) (by rfl) ?_
      rw [h8]
      exact wp_ir (pc := 79) dX11_count_79 rfl (by decide) (by decide) (by first | rfl | omega) ⟨⟨_, _, _, _, _, K⟩, O⟩
    · subst e
      have ec : cntA N T U tx rw rt hs ss 1 = cntA N T U tx rw rt hs ss 1 := rfl
      refine wp_tswIn (pc := 1) 80 dX11_count_1 (by omega) (by decide) (by decide) rfl (by decide) ?_
      refine wp_aload_n (pc := 80) dX11_count_80 rfl ?_
      refine wp_getf (pc := 81) dX11_count_81 gf_X11_26 K.ob (by rfl) ?_
      refine wp_getf (pc := 84) dX11_count_84 gf_X11_370 (by first | exact K.ob | exact K.to.1 | exact K.tr.1 | exact K.to.2.1 | exact K.to.2.2.1 | exact K.to.2.2.2.1 | exact K.to.2.2.2.2.1 | exact K.to.2.2.2.2.2.1 | exact K.to.2.2.2.2.2.2.1 | exact K.to.2.2.2.2.2.2.2 | exact K.tr.2.1 | exact K.tr.2.2.1 | exact K.tr.2.2.2.1 | exact K.tr.2.2.2.2.1 | exact K.tr.2.2.2.2.2.1 | exact K.tr.2.2.2.2.2.2.1 | exact K.tr.2.2.2.2.2.2.2) (by rfl) ?_
      exact wp_ir (pc := 87) dX11_count_87 rfl (by decide) (by decide) (by first | rfl | omega) ⟨⟨_, _, _, _, _, K⟩, O⟩
    · subst e
      have ec : cntA N T U tx rw rt hs ss 2 = cntA N T U tx rw rt hs ss 2 := rfl
      refine wp_tswIn (pc := 1) 88 dX11_count_1 (by omega) (by decide) (by decide) rfl (by decide) ?_
      refine wp_iconst (pc := 88) dX11_count_88 ?_
      refine wp_aload_n (pc := 89) dX11_count_89 rfl ?_
      refine wp_getf (pc := 90) dX11_count_90 gf_X11_26 K.ob (by rfl) ?_
      refine wp_getf (pc := 93) dX11_count_93 gf_X11_110 (by first | exact K.ob | exact K.to.1 | exact K.tr.1 | exact K.to.2.1 | exact K.to.2.2.1 | exact K.to.2.2.2.1 | exact K.to.2.2.2.2.1 | exact K.to.2.2.2.2.2.1 | exact K.to.2.2.2.2.2.2.1 | exact K.to.2.2.2.2.2.2.2 | exact K.tr.2.1 | exact K.tr.2.2.1 | exact K.tr.2.2.2.1 | exact K.tr.2.2.2.2.1 | exact K.tr.2.2.2.2.2.1 | exact K.tr.2.2.2.2.2.2.1 | exact K.tr.2.2.2.2.2.2.2) (by rfl) ?_
      rw [h8]
      refine wp_ishl (pc := 96) dX11_count_96 (I_shl (by omega)) ?_
      refine wp_iconst (pc := 97) dX11_count_97 ?_
      refine wp_isub (pc := 98) dX11_count_98 ?_
      refine wp_aload_n (pc := 99) dX11_count_99 rfl ?_
      refine wp_getf (pc := 100) dX11_count_100 gf_X11_26 K.ob (by rfl) ?_
      refine wd_Vp (pc := 103) dX11_count_103 cl_X11_266 (sp_Town_livingSet (by first | assumption | omega | exact K.to | exact K.tr | exact K.to.2.1 | exact K.to.2.2.1 | exact K.to.2.2.2.1 | exact K.to.2.2.2.2.1 | exact K.to.2.2.2.2.2.1 | exact K.to.2.2.2.2.2.2.1 | exact K.to.2.2.2.2.2.2.2 | exact K.tr.2.1 | exact K.tr.2.2.1 | exact K.tr.2.2.2.1 | exact K.tr.2.2.2.2.1 | exact K.tr.2.2.2.2.2.1 | exact K.tr.2.2.2.2.2.2.1 | exact K.tr.2.2.2.2.2.2.2) (by first | assumption | omega | exact K.to | exact K.tr | exact K.to.2.1 | exact K.to.2.2.1 | exact K.to.2.2.2.1 | exact K.to.2.2.2.2.1 | exact K.to.2.2.2.2.2.1 | exact K.to.2.2.2.2.2.2.1 | exact K.to.2.2.2.2.2.2.2 | exact K.tr.2.1 | exact K.tr.2.2.1 | exact K.tr.2.2.2.1 | exact K.tr.2.2.2.2.1 | exact K.tr.2.2.2.2.2.1 | exact K.tr.2.2.2.2.2.2.1 | exact K.tr.2.2.2.2.2.2.2)) rfl rfl (by first | exact K.to.o | exact K.tr.o | exact K.k0.o | exact K.k1.o) (by rfl) (by decide) (Nat.le_of_ble_eq_true rfl) ?_
      refine wp_iconst (pc := 106) dX11_count_106 ?_
      refine wp_ixor (pc := 107) dX11_count_107 rfl ?_
      refine wp_iand (pc := 108) (v := I ((bits (ddb T) N : Nat) : Int)) dX11_count_108 (by rw [show ((2 ^ N : Nat) : Int) - 1 = ((2 ^ N - 1 : Nat) : Int) by omega, I_andn (by omega) (by omega), andn_dd hN]) ?_
      exact wp_ir (pc := 109) dX11_count_109 rfl (by decide) (by decide) (by first | rfl | omega) ⟨⟨_, _, _, _, _, K⟩, O⟩
    · subst e
      have ec : cntA N T U tx rw rt hs ss 3 = cntA N T U tx rw rt hs ss 3 := rfl
      refine wp_tswIn (pc := 1) 110 dX11_count_1 (by omega) (by decide) (by decide) rfl (by decide) ?_
      refine wp_aload_n (pc := 110) dX11_count_110 rfl ?_
      refine wp_getf (pc := 111) dX11_count_111 gf_X11_26 K.ob (by rfl) ?_
      refine wp_aload_n (pc := 114) dX11_count_114 rfl ?_
      refine wp_getf (pc := 115) dX11_count_115 gf_X11_26 K.ob (by rfl) ?_
      refine wp_getf (pc := 118) dX11_count_118 gf_X11_141 (by first | exact K.ob | exact K.to.1 | exact K.tr.1 | exact K.to.2.1 | exact K.to.2.2.1 | exact K.to.2.2.2.1 | exact K.to.2.2.2.2.1 | exact K.to.2.2.2.2.2.1 | exact K.to.2.2.2.2.2.2.1 | exact K.to.2.2.2.2.2.2.2 | exact K.tr.2.1 | exact K.tr.2.2.1 | exact K.tr.2.2.2.1 | exact K.tr.2.2.2.2.1 | exact K.tr.2.2.2.2.2.1 | exact K.tr.2.2.2.2.2.2.1 | exact K.tr.2.2.2.2.2.2.2) (by rfl) ?_
      refine wd_Vp (pc := 121) dX11_count_121 cl_X11_189 (sp_Town_sum (by first | assumption | omega | exact K.to | exact K.tr | exact K.to.2.1 | exact K.to.2.2.1 | exact K.to.2.2.2.1 | exact K.to.2.2.2.2.1 | exact K.to.2.2.2.2.2.1 | exact K.to.2.2.2.2.2.2.1 | exact K.to.2.2.2.2.2.2.2 | exact K.tr.2.1 | exact K.tr.2.2.1 | exact K.tr.2.2.2.1 | exact K.tr.2.2.2.2.1 | exact K.tr.2.2.2.2.2.1 | exact K.tr.2.2.2.2.2.2.1 | exact K.tr.2.2.2.2.2.2.2) (by first | assumption | omega | exact K.to | exact K.tr | exact K.to.2.1 | exact K.to.2.2.1 | exact K.to.2.2.2.1 | exact K.to.2.2.2.2.1 | exact K.to.2.2.2.2.2.1 | exact K.to.2.2.2.2.2.2.1 | exact K.to.2.2.2.2.2.2.2 | exact K.tr.2.1 | exact K.tr.2.2.1 | exact K.tr.2.2.2.1 | exact K.tr.2.2.2.2.1 | exact K.tr.2.2.2.2.2.1 | exact K.tr.2.2.2.2.2.2.1 | exact K.tr.2.2.2.2.2.2.2) (by first | assumption | omega | exact K.to | exact K.tr | exact K.to.2.1 | exact K.to.2.2.1 | exact K.to.2.2.2.1 | exact K.to.2.2.2.2.1 | exact K.to.2.2.2.2.2.1 | exact K.to.2.2.2.2.2.2.1 | exact K.to.2.2.2.2.2.2.2 | exact K.tr.2.1 | exact K.tr.2.2.1 | exact K.tr.2.2.2.1 | exact K.tr.2.2.2.2.1 | exact K.tr.2.2.2.2.2.1 | exact K.tr.2.2.2.2.2.2.1 | exact K.tr.2.2.2.2.2.2.2) (by first | assumption | omega | exact K.to | exact K.tr | exact K.to.2.1 | exact K.to.2.2.1 | exact K.to.2.2.2.1 | exact K.to.2.2.2.2.1 | exact K.to.2.2.2.2.2.1 | exact K.to.2.2.2.2.2.2.1 | exact K.to.2.2.2.2.2.2.2 | exact K.tr.2.1 | exact K.tr.2.2.1 | exact K.tr.2.2.2.1 | exact K.tr.2.2.2.2.1 | exact K.tr.2.2.2.2.2.1 | exact K.tr.2.2.2.2.2.2.1 | exact K.tr.2.2.2.2.2.2.2) (by first | assumption | omega | exact K.to | exact K.tr | exact K.to.2.1 | exact K.to.2.2.1 | exact K.to.2.2.2.1 | exact K.to.2.2.2.2.1 | exact K.to.2.2.2.2.2.1 | exact K.to.2.2.2.2.2.2.1 | exact K.to.2.2.2.2.2.2.2 | exact K.tr.2.1 | exact K.tr.2.2.1 | exact K.tr.2.2.2.1 | exact K.tr.2.2.2.2.1 | exact K.tr.2.2.2.2.2.1 | exact K.tr.2.2.2.2.2.2.1 | exact K.tr.2.2.2.2.2.2.2)) rfl rfl (by first | exact K.to.o | exact K.tr.o | exact K.k0.o | exact K.k1.o) (by rfl) (by decide) (Nat.le_of_ble_eq_true rfl) ?_
      exact wp_ir (pc := 124) dX11_count_124 rfl (by decide) (by decide) (by first | rfl | omega) ⟨⟨_, _, _, _, _, K⟩, O⟩
    · subst e
      have ec : cntA N T U tx rw rt hs ss 4 = cntA N T U tx rw rt hs ss 4 := rfl
      refine wp_tswIn (pc := 1) 125 dX11_count_1 (by omega) (by decide) (by decide) rfl (by decide) ?_
      refine wp_aload_n (pc := 125) dX11_count_125 rfl ?_
      refine wp_getf (pc := 126) dX11_count_126 gf_X11_26 K.ob (by rfl) ?_
      refine wp_aload_n (pc := 129) dX11_count_129 rfl ?_
      refine wp_getf (pc := 130) dX11_count_130 gf_X11_26 K.ob (by rfl) ?_
      refine wp_getf (pc := 133) dX11_count_133 gf_X11_154 (by first | exact K.ob | exact K.to.1 | exact K.tr.1 | exact K.to.2.1 | exact K.to.2.2.1 | exact K.to.2.2.2.1 | exact K.to.2.2.2.2.1 | exact K.to.2.2.2.2.2.1 | exact K.to.2.2.2.2.2.2.1 | exact K.to.2.2.2.2.2.2.2 | exact K.tr.2.1 | exact K.tr.2.2.1 | exact K.tr.2.2.2.1 | exact K.tr.2.2.2.2.1 | exact K.tr.2.2.2.2.2.1 | exact K.tr.2.2.2.2.2.2.1 | exact K.tr.2.2.2.2.2.2.2) (by rfl) ?_
      refine wd_Vp (pc := 136) dX11_count_136 cl_X11_189 (sp_Town_sum (by first | assumption | omega | exact K.to | exact K.tr | exact K.to.2.1 | exact K.to.2.2.1 | exact K.to.2.2.2.1 | exact K.to.2.2.2.2.1 | exact K.to.2.2.2.2.2.1 | exact K.to.2.2.2.2.2.2.1 | exact K.to.2.2.2.2.2.2.2 | exact K.tr.2.1 | exact K.tr.2.2.1 | exact K.tr.2.2.2.1 | exact K.tr.2.2.2.2.1 | exact K.tr.2.2.2.2.2.1 | exact K.tr.2.2.2.2.2.2.1 | exact K.tr.2.2.2.2.2.2.2) (by first | assumption | omega | exact K.to | exact K.tr | exact K.to.2.1 | exact K.to.2.2.1 | exact K.to.2.2.2.1 | exact K.to.2.2.2.2.1 | exact K.to.2.2.2.2.2.1 | exact K.to.2.2.2.2.2.2.1 | exact K.to.2.2.2.2.2.2.2 | exact K.tr.2.1 | exact K.tr.2.2.1 | exact K.tr.2.2.2.1 | exact K.tr.2.2.2.2.1 | exact K.tr.2.2.2.2.2.1 | exact K.tr.2.2.2.2.2.2.1 | exact K.tr.2.2.2.2.2.2.2) (by first | assumption | omega | exact K.to | exact K.tr | exact K.to.2.1 | exact K.to.2.2.1 | exact K.to.2.2.2.1 | exact K.to.2.2.2.2.1 | exact K.to.2.2.2.2.2.1 | exact K.to.2.2.2.2.2.2.1 | exact K.to.2.2.2.2.2.2.2 | exact K.tr.2.1 | exact K.tr.2.2.1 | exact K.tr.2.2.2.1 | exact K.tr.2.2.2.2.1 | exact K.tr.2.2.2.2.2.1 | exact K.tr.2.2.2.2.2.2.1 | exact K.tr.2.2.2.2.2.2.2) (by first | assumption | omega | exact K.to | exact K.tr | exact K.to.2.1 | exact K.to.2.2.1 | exact K.to.2.2.2.1 | exact K.to.2.2.2.2.1 | exact K.to.2.2.2.2.2.1 | exact K.to.2.2.2.2.2.2.1 | exact K.to.2.2.2.2.2.2.2 | exact K.tr.2.1 | exact K.tr.2.2.1 | exact K.tr.2.2.2.1 | exact K.tr.2.2.2.2.1 | exact K.tr.2.2.2.2.2.1 | exact K.tr.2.2.2.2.2.2.1 | exact K.tr.2.2.2.2.2.2.2) (by first | assumption | omega | exact K.to | exact K.tr | exact K.to.2.1 | exact K.to.2.2.1 | exact K.to.2.2.2.1 | exact K.to.2.2.2.2.1 | exact K.to.2.2.2.2.2.1 | exact K.to.2.2.2.2.2.2.1 | exact K.to.2.2.2.2.2.2.2 | exact K.tr.2.1 | exact K.tr.2.2.1 | exact K.tr.2.2.2.1 | exact K.tr.2.2.2.2.1 | exact K.tr.2.2.2.2.2.1 | exact K.tr.2.2.2.2.2.2.1 | exact K.tr.2.2.2.2.2.2.2)) rfl rfl (by first | exact K.to.o | exact K.tr.o | exact K.k0.o | exact K.k1.o) (by rfl) (by decide) (Nat.le_of_ble_eq_true rfl) ?_
      exact wp_ir (pc := 139) dX11_count_139 rfl (by decide) (by decide) (by first | rfl | omega) ⟨⟨_, _, _, _, _, K⟩, O⟩
    · subst e
      have ec : cntA N T U tx rw rt hs ss 5 = cntA N T U tx rw rt hs ss 5 := rfl
      refine wp_tswIn (pc := 1) 140 dX11_count_1 (by omega) (by decide) (by decide) rfl (by decide) ?_
      refine wp_aload_n (pc := 140) dX11_count_140 rfl ?_
      refine wp_getf (pc := 141) dX11_count_141 gf_X11_26 K.ob (by rfl) ?_
      refine wp_aload_n (pc := 144) dX11_count_144 rfl ?_
      refine wp_getf (pc := 145) dX11_count_145 gf_X11_26 K.ob (by rfl) ?_
      refine wp_getf (pc := 148) dX11_count_148 gf_X11_157 (by first | exact K.ob | exact K.to.1 | exact K.tr.1 | exact K.to.2.1 | exact K.to.2.2.1 | exact K.to.2.2.2.1 | exact K.to.2.2.2.2.1 | exact K.to.2.2.2.2.2.1 | exact K.to.2.2.2.2.2.2.1 | exact K.to.2.2.2.2.2.2.2 | exact K.tr.2.1 | exact K.tr.2.2.1 | exact K.tr.2.2.2.1 | exact K.tr.2.2.2.2.1 | exact K.tr.2.2.2.2.2.1 | exact K.tr.2.2.2.2.2.2.1 | exact K.tr.2.2.2.2.2.2.2) (by rfl) ?_
      refine wd_Vp (pc := 151) dX11_count_151 cl_X11_189 (sp_Town_sum (by first | assumption | omega | exact K.to | exact K.tr | exact K.to.2.1 | exact K.to.2.2.1 | exact K.to.2.2.2.1 | exact K.to.2.2.2.2.1 | exact K.to.2.2.2.2.2.1 | exact K.to.2.2.2.2.2.2.1 | exact K.to.2.2.2.2.2.2.2 | exact K.tr.2.1 | exact K.tr.2.2.1 | exact K.tr.2.2.2.1 | exact K.tr.2.2.2.2.1 | exact K.tr.2.2.2.2.2.1 | exact K.tr.2.2.2.2.2.2.1 | exact K.tr.2.2.2.2.2.2.2) (by first | assumption | omega | exact K.to | exact K.tr | exact K.to.2.1 | exact K.to.2.2.1 | exact K.to.2.2.2.1 | exact K.to.2.2.2.2.1 | exact K.to.2.2.2.2.2.1 | exact K.to.2.2.2.2.2.2.1 | exact K.to.2.2.2.2.2.2.2 | exact K.tr.2.1 | exact K.tr.2.2.1 | exact K.tr.2.2.2.1 | exact K.tr.2.2.2.2.1 | exact K.tr.2.2.2.2.2.1 | exact K.tr.2.2.2.2.2.2.1 | exact K.tr.2.2.2.2.2.2.2) (by first | assumption | omega | exact K.to | exact K.tr | exact K.to.2.1 | exact K.to.2.2.1 | exact K.to.2.2.2.1 | exact K.to.2.2.2.2.1 | exact K.to.2.2.2.2.2.1 | exact K.to.2.2.2.2.2.2.1 | exact K.to.2.2.2.2.2.2.2 | exact K.tr.2.1 | exact K.tr.2.2.1 | exact K.tr.2.2.2.1 | exact K.tr.2.2.2.2.1 | exact K.tr.2.2.2.2.2.1 | exact K.tr.2.2.2.2.2.2.1 | exact K.tr.2.2.2.2.2.2.2) (by first | assumption | omega | exact K.to | exact K.tr | exact K.to.2.1 | exact K.to.2.2.1 | exact K.to.2.2.2.1 | exact K.to.2.2.2.2.1 | exact K.to.2.2.2.2.2.1 | exact K.to.2.2.2.2.2.2.1 | exact K.to.2.2.2.2.2.2.2 | exact K.tr.2.1 | exact K.tr.2.2.1 | exact K.tr.2.2.2.1 | exact K.tr.2.2.2.2.1 | exact K.tr.2.2.2.2.2.1 | exact K.tr.2.2.2.2.2.2.1 | exact K.tr.2.2.2.2.2.2.2) (by first | assumption | omega | exact K.to | exact K.tr | exact K.to.2.1 | exact K.to.2.2.1 | exact K.to.2.2.2.1 | exact K.to.2.2.2.2.1 | exact K.to.2.2.2.2.2.1 | exact K.to.2.2.2.2.2.2.1 | exact K.to.2.2.2.2.2.2.2 | exact K.tr.2.1 | exact K.tr.2.2.1 | exact K.tr.2.2.2.1 | exact K.tr.2.2.2.2.1 | exact K.tr.2.2.2.2.2.1 | exact K.tr.2.2.2.2.2.2.1 | exact K.tr.2.2.2.2.2.2.2)) rfl rfl (by first | exact K.to.o | exact K.tr.o | exact K.k0.o | exact K.k1.o) (by rfl) (by decide) (Nat.le_of_ble_eq_true rfl) ?_
      exact wp_ir (pc := 154) dX11_count_154 rfl (by decide) (by decide) (by first | rfl | omega) ⟨⟨_, _, _, _, _, K⟩, O⟩
    · subst e
      have ec : cntA N T U tx rw rt hs ss 6 = cntA N T U tx rw rt hs ss 6 := rfl
      refine wp_tswIn (pc := 1) 155 dX11_count_1 (by omega) (by decide) (by decide) rfl (by decide) ?_
      refine wp_aload_n (pc := 155) dX11_count_155 rfl ?_
      refine wp_getf (pc := 156) dX11_count_156 gf_X11_26 K.ob (by rfl) ?_
      refine wp_aload_n (pc := 159) dX11_count_159 rfl ?_
      refine wp_getf (pc := 160) dX11_count_160 gf_X11_26 K.ob (by rfl) ?_
      refine wp_getf (pc := 163) dX11_count_163 gf_X11_180 (by first | exact K.ob | exact K.to.1 | exact K.tr.1 | exact K.to.2.1 | exact K.to.2.2.1 | exact K.to.2.2.2.1 | exact K.to.2.2.2.2.1 | exact K.to.2.2.2.2.2.1 | exact K.to.2.2.2.2.2.2.1 | exact K.to.2.2.2.2.2.2.2 | exact K.tr.2.1 | exact K.tr.2.2.1 | exact K.tr.2.2.2.1 | exact K.tr.2.2.2.2.1 | exact K.tr.2.2.2.2.2.1 | exact K.tr.2.2.2.2.2.2.1 | exact K.tr.2.2.2.2.2.2.2) (by rfl) ?_
      refine wd_Vp (pc := 166) dX11_count_166 cl_X11_373 (sp_Town_sumOfPairs (by first | assumption | omega | exact K.to | exact K.tr | exact K.to.2.1 | exact K.to.2.2.1 | exact K.to.2.2.2.1 | exact K.to.2.2.2.2.1 | exact K.to.2.2.2.2.2.1 | exact K.to.2.2.2.2.2.2.1 | exact K.to.2.2.2.2.2.2.2 | exact K.tr.2.1 | exact K.tr.2.2.1 | exact K.tr.2.2.2.1 | exact K.tr.2.2.2.2.1 | exact K.tr.2.2.2.2.2.1 | exact K.tr.2.2.2.2.2.2.1 | exact K.tr.2.2.2.2.2.2.2) (by first | assumption | omega | exact K.to | exact K.tr | exact K.to.2.1 | exact K.to.2.2.1 | exact K.to.2.2.2.1 | exact K.to.2.2.2.2.1 | exact K.to.2.2.2.2.2.1 | exact K.to.2.2.2.2.2.2.1 | exact K.to.2.2.2.2.2.2.2 | exact K.tr.2.1 | exact K.tr.2.2.1 | exact K.tr.2.2.2.1 | exact K.tr.2.2.2.2.1 | exact K.tr.2.2.2.2.2.1 | exact K.tr.2.2.2.2.2.2.1 | exact K.tr.2.2.2.2.2.2.2) (by first | assumption | omega | exact K.to | exact K.tr | exact K.to.2.1 | exact K.to.2.2.1 | exact K.to.2.2.2.1 | exact K.to.2.2.2.2.1 | exact K.to.2.2.2.2.2.1 | exact K.to.2.2.2.2.2.2.1 | exact K.to.2.2.2.2.2.2.2 | exact K.tr.2.1 | exact K.tr.2.2.1 | exact K.tr.2.2.2.1 | exact K.tr.2.2.2.2.1 | exact K.tr.2.2.2.2.2.1 | exact K.tr.2.2.2.2.2.2.1 | exact K.tr.2.2.2.2.2.2.2)) rfl rfl (by first | exact K.to.o | exact K.tr.o | exact K.k0.o | exact K.k1.o) (by rfl) (by decide) (Nat.le_of_ble_eq_true rfl) ?_
      rw [spr_oby hN hD]
      exact wp_ir (pc := 169) dX11_count_169 rfl (by decide) (by decide) (by first | rfl | omega) ⟨⟨_, _, _, _, _, K⟩, O⟩
    · subst e
      have ec : cntA N T U tx rw rt hs ss 7 = cntA N T U tx rw rt hs ss 7 := rfl
      refine wp_tswIn (pc := 1) 170 dX11_count_1 (by omega) (by decide) (by decide) rfl (by decide) ?_
      refine wp_aload_n (pc := 170) dX11_count_170 rfl ?_
      refine wp_getf (pc := 171) dX11_count_171 gf_X11_26 K.ob (by rfl) ?_
      refine wp_aload_n (pc := 174) dX11_count_174 rfl ?_
      refine wp_getf (pc := 175) dX11_count_175 gf_X11_26 K.ob (by rfl) ?_
      refine wp_getf (pc := 178) dX11_count_178 gf_X11_133 (by first | exact K.ob | exact K.to.1 | exact K.tr.1 | exact K.to.2.1 | exact K.to.2.2.1 | exact K.to.2.2.2.1 | exact K.to.2.2.2.2.1 | exact K.to.2.2.2.2.2.1 | exact K.to.2.2.2.2.2.2.1 | exact K.to.2.2.2.2.2.2.2 | exact K.tr.2.1 | exact K.tr.2.2.1 | exact K.tr.2.2.2.1 | exact K.tr.2.2.2.2.1 | exact K.tr.2.2.2.2.2.1 | exact K.tr.2.2.2.2.2.2.1 | exact K.tr.2.2.2.2.2.2.2) (by rfl) ?_
      refine wd_Vp (pc := 181) dX11_count_181 cl_X11_373 (sp_Town_sumOfPairs (by first | assumption | omega | exact K.to | exact K.tr | exact K.to.2.1 | exact K.to.2.2.1 | exact K.to.2.2.2.1 | exact K.to.2.2.2.2.1 | exact K.to.2.2.2.2.2.1 | exact K.to.2.2.2.2.2.2.1 | exact K.to.2.2.2.2.2.2.2 | exact K.tr.2.1 | exact K.tr.2.2.1 | exact K.tr.2.2.2.1 | exact K.tr.2.2.2.2.1 | exact K.tr.2.2.2.2.2.1 | exact K.tr.2.2.2.2.2.2.1 | exact K.tr.2.2.2.2.2.2.2) (by first | assumption | omega | exact K.to | exact K.tr | exact K.to.2.1 | exact K.to.2.2.1 | exact K.to.2.2.2.1 | exact K.to.2.2.2.2.1 | exact K.to.2.2.2.2.2.1 | exact K.to.2.2.2.2.2.2.1 | exact K.to.2.2.2.2.2.2.2 | exact K.tr.2.1 | exact K.tr.2.2.1 | exact K.tr.2.2.2.1 | exact K.tr.2.2.2.2.1 | exact K.tr.2.2.2.2.2.1 | exact K.tr.2.2.2.2.2.2.1 | exact K.tr.2.2.2.2.2.2.2) (by first | assumption | omega | exact K.to | exact K.tr | exact K.to.2.1 | exact K.to.2.2.1 | exact K.to.2.2.2.1 | exact K.to.2.2.2.2.1 | exact K.to.2.2.2.2.2.1 | exact K.to.2.2.2.2.2.2.1 | exact K.to.2.2.2.2.2.2.2 | exact K.tr.2.1 | exact K.tr.2.2.1 | exact K.tr.2.2.2.1 | exact K.tr.2.2.2.2.1 | exact K.tr.2.2.2.2.2.1 | exact K.tr.2.2.2.2.2.2.1 | exact K.tr.2.2.2.2.2.2.2)) rfl rfl (by first | exact K.to.o | exact K.tr.o | exact K.k0.o | exact K.k1.o) (by rfl) (by decide) (Nat.le_of_ble_eq_true rfl) ?_
      rw [← opi_sm (H := oaH (stl rt) T 0) (f := T 0) (N := N) (fun i j => if_pos rfl) N]
      exact wp_ir (pc := 184) dX11_count_184 rfl (by decide) (by decide) (by first | rfl | omega) ⟨⟨_, _, _, _, _, K⟩, O⟩
    · subst e
      have ec : cntA N T U tx rw rt hs ss 8 = cntA N T U tx rw rt hs ss 8 := rfl
      refine wp_tswIn (pc := 1) 185 dX11_count_1 (by omega) (by decide) (by decide) rfl (by decide) ?_
      refine wp_aload_n (pc := 185) dX11_count_185 rfl ?_
      refine wp_getf (pc := 186) dX11_count_186 gf_X11_56 K.ob (by rfl) ?_
      refine wd_Vp (pc := 189) dX11_count_189 cl_X11_376 (sp_H_size K.he) rfl rfl K.he.o (by rfl) (by decide) (Nat.le_of_ble_eq_true rfl) ?_
      exact wp_ir (pc := 192) dX11_count_192 rfl (by decide) (by decide) (by first | rfl | omega) ⟨⟨_, _, _, _, _, K⟩, O⟩
    · subst e
      have ec : cntA N T U tx rw rt hs ss 9 = cntA N T U tx rw rt hs ss 9 := rfl
      refine wp_tswIn (pc := 1) 193 dX11_count_1 (by omega) (by decide) (by decide) rfl (by decide) ?_
      refine wp_aload_n (pc := 193) dX11_count_193 rfl ?_
      refine wp_getf (pc := 194) dX11_count_194 gf_X11_63 K.ob (by rfl) ?_
      refine wd_Vp (pc := 197) dX11_count_197 cl_X11_377 (sp_S_size K.sh) rfl rfl K.sh.o (by rfl) (by decide) (Nat.le_of_ble_eq_true rfl) ?_
      exact wp_ir (pc := 200) dX11_count_200 rfl (by decide) (by decide) (by first | rfl | omega) ⟨⟨_, _, _, _, _, K⟩, O⟩
    · subst e
      have ec : cntA N T U tx rw rt hs ss 10 = cntA N T U tx rw rt hs ss 10 := rfl
      refine wp_tswIn (pc := 1) 201 dX11_count_1 (by omega) (by decide) (by decide) rfl (by decide) ?_
      refine wp_aload_n (pc := 201) dX11_count_201 rfl ?_
      refine wp_getf (pc := 202) dX11_count_202 gf_X11_43 K.ob (by rfl) ?_
      refine wd_Vp (pc := 205) dX11_count_205 cl_X11_240 (sp_L_size K.pa) rfl rfl K.pa.o (by rfl) (by decide) (Nat.le_of_ble_eq_true rfl) ?_
      exact wp_ir (pc := 208) dX11_count_208 rfl (by decide) (by decide) (by first | rfl | omega) ⟨⟨_, _, _, _, _, K⟩, O⟩
    · subst e
      have ec : cntA N T U tx rw rt hs ss 11 = cntA N T U tx rw rt hs ss 11 := rfl
      refine wp_tswIn (pc := 1) 209 dX11_count_1 (by omega) (by decide) (by decide) rfl (by decide) ?_
      refine wp_aload_n (pc := 209) dX11_count_209 rfl ?_
      refine wp_getf (pc := 210) dX11_count_210 gf_X11_19 K.ob (by rfl) ?_
      refine wd_Vp (pc := 213) dX11_count_213 cl_X11_378 (sp_Row_size K.ro) rfl rfl K.ro.o (by rfl) (by decide) (Nat.le_of_ble_eq_true rfl) ?_
      exact wp_ir (pc := 216) dX11_count_216 rfl (by decide) (by decide) (by first | rfl | omega) ⟨⟨_, _, _, _, _, K⟩, O⟩
    · subst e
      have ec : cntA N T U tx rw rt hs ss 12 = cntA N T U tx rw rt hs ss 12 := rfl
      refine wp_tswIn (pc := 1) 217 dX11_count_1 (by omega) (by decide) (by decide) rfl (by decide) ?_
      refine wp_aload_n (pc := 217) dX11_count_217 rfl ?_
      refine wp_getf (pc := 218) dX11_count_218 gf_X11_12 K.ob (by rfl) ?_
      refine wd_Vp (pc := 221) dX11_count_221 cl_X11_106 (sp_Text_length K.te) rfl rfl K.te.o (by rfl) (by decide) (Nat.le_of_ble_eq_true rfl) ?_
      exact wp_ir (pc := 224) dX11_count_224 rfl (by decide) (by decide) (by first | rfl | omega) ⟨⟨_, _, _, _, _, K⟩, O⟩
    · subst e
      have ec : cntA N T U tx rw rt hs ss 13 = cntA N T U tx rw rt hs ss 13 := rfl
      refine wp_tswIn (pc := 1) 225 dX11_count_1 (by omega) (by decide) (by decide) rfl (by decide) ?_
      refine wp_aload_n (pc := 225) dX11_count_225 rfl ?_
      refine wd_Vs (pc := 226) dX11_count_226 cl_X11_379 (sp_D_allWords K (by assumption)) rfl rfl K.o (by rfl) (by decide) (Nat.le_of_ble_eq_true rfl) (fun hp226 e226 => ?_)
      obtain ⟨⟨r226, s226, Tr226, z226, Z226, K⟩, O1⟩ := e226; replace O := SO.tr O O1
      exact wp_ir (pc := 229) dX11_count_229 rfl (by decide) (by decide) (by first | rfl | omega) ⟨⟨_, _, _, _, _, K⟩, O⟩
  · have ec : cntA N T U tx rw rt hs ss x = -1 := by unfold cntA; repeat rw [if_neg (by omega)]
    rw [ec]
    refine wp_tswOut (pc := 1) 230 dX11_count_1 (by omega) (by omega) (by decide) ?_
    refine wp_iconst (pc := 230) dX11_count_230 ?_
    exact wp_ir (pc := 231) dX11_count_231 rfl (by decide) (by decide) (by first | rfl | omega) ⟨⟨_, _, _, _, _, K⟩, O⟩
theorem sp_D_entry (rx : 0 ≤ x ∧ x ≤ 3) : Sp g MX11_entry (rm 0 0 0) [.int (I x), .int (I y)] hp (Pur (.int (I (entv x y))) hp) := by
  refine Sp_mk rfl (Nat.le_of_ble_eq_true rfl) ?_
  show wp g _ _ _ 0 0 0 [some (.int (I x)), some (.int (I y))] [] hp
  refine wp_iload_n (pc := 0) dX11_entry_0 rfl ?_
  first | refine wp_ifb_ne (pc := 1) 7 dX11_entry_1 (by decide) (fun c1 => ?_) (fun c1 => ?_) | refine wp_if_ne (pc := 1) 7 dX11_entry_1 (by decide) (by omega) (fun c1 => ?_) (fun c1 => ?_)
  ·
    refine wp_iload_n (pc := 7) dX11_entry_7 rfl ?_
    refine wp_iconst (pc := 8) dX11_entry_8 ?_
    refine wp_icmp_ne (pc := 9) 17 dX11_entry_9 (by decide) (by omega) (by omega) (fun c9 => ?_) (fun c9 => ?_)
    ·
      refine wp_iload_n (pc := 17) dX11_entry_17 rfl ?_
      refine wp_topx (show I y = I (entv x y) by unfold entv; rw [if_neg (by omega), if_neg (by omega), nz_I]) ?_
      exact wp_ir (pc := 18) dX11_entry_18 rfl (by decide) (by decide) (by first | rfl | omega) rfl
    ·
      refine wp_iload_n (pc := 12) dX11_entry_12 rfl ?_
      refine wp_i2s (pc := 13) dX11_entry_13 (show (I y).toInt16.toInt32 = I (entv x y) by unfold entv; rw [if_neg (by omega), if_pos (by omega)]; exact I_of _) ?_
      refine wp_goto (pc := 14) 18 dX11_entry_14 (by decide) ?_
      exact wp_ir (pc := 18) dX11_entry_18 rfl (by decide) (by decide) (by first | rfl | omega) rfl
  ·
    refine wp_iload_n (pc := 4) dX11_entry_4 rfl ?_
    refine wp_i2b (pc := 5) dX11_entry_5 (show (I y).toInt8.toInt32 = I (entv x y) by unfold entv; rw [if_pos (by omega)]; exact I_of _) ?_
    exact wp_ir (pc := 6) dX11_entry_6 rfl (by decide) (by decide) (by first | rfl | omega) rfl
theorem lp_D_sheet {f st d : Int} (hI : TI T N) (rx : 0 ≤ x ∧ x ≤ 3) (ry : InR y) (hd : (x = 3 ∧ d = 1) ∨ (¬ x = 3 ∧ d = 0)) : ∀ (m i : Nat), N < i + m → i ≤ N → ∀ (hp2 : Hp) (K : DA hp2 D r s Tr z Z (shT T x y f st (i : Int)) U tx rw rt hs ss KT) (O : SO hp hp2 D (D + 171)), wp g MX11_sheet (rm 2 0 0) (Eff (.int (I (if x = 3 then -3 else sm (shT T x y f st N 2) N))) (fun hp3 => DX hp3 D (shT T x y f st N) U tx rw rt hs ss KT ∧ SO hp hp3 D (D + 171))) 0 0 44 [some (.ref D), some (.int (I x)), some (.int (I y)), some (.int (I f)), some (.int (I st)), some (.int (I d)), some (.int (I (i : Int))), none] [] hp2 := by
  intro m
  induction m with
  | zero => intro i h1 h2; exact absurd h1 (by omega)
  | succ m ih =>
    intro i h1 h2 hp2 K O
    have hN := hI.men.2
    have hI2 := shT_I (x := x) (n := y) (f := f) (st := st) (i := (i : Int)) hI
    have h8 := hI2.men.1
    have hei := entv_in x (f + i * st)
    have hmi : InR (mi 99 (entv x (f + i * st))) := by unfold mi; split <;> omega
    refine wp_iload (pc := 44) dX11_sheet_44 rfl ?_
    refine wp_aload_n (pc := 46) dX11_sheet_46 rfl ?_
    refine wp_getf (pc := 47) dX11_sheet_47 gf_X11_26 K.ob (by rfl) ?_
    refine wp_getf (pc := 50) dX11_sheet_50 gf_X11_110 (by first | exact K.ob | exact K.to.1 | exact K.tr.1 | exact K.to.2.1 | exact K.to.2.2.1 | exact K.to.2.2.2.1 | exact K.to.2.2.2.2.1 | exact K.to.2.2.2.2.2.1 | exact K.to.2.2.2.2.2.2.1 | exact K.to.2.2.2.2.2.2.2 | exact K.tr.2.1 | exact K.tr.2.2.1 | exact K.tr.2.2.2.1 | exact K.tr.2.2.2.2.1 | exact K.tr.2.2.2.2.2.1 | exact K.tr.2.2.2.2.2.2.1 | exact K.tr.2.2.2.2.2.2.2) (by rfl) ?_
    refine wp_icmp_ge (pc := 53) 115 dX11_sheet_53 (by decide) (by first | omega | exact TI.i5 (by assumption) | exact TI.i3 (by assumption) | exact TI.i2 (by assumption) | exact TI.i1 (by assumption) | exact TI.i0 (by assumption) | exact TI.i4 (by assumption) | exact TI.i6 (by assumption) | exact TI.i7 (by assumption)) (by first | omega | exact TI.i5 (by assumption) | exact TI.i3 (by assumption) | exact TI.i2 (by assumption) | exact TI.i1 (by assumption) | exact TI.i0 (by assumption) | exact TI.i4 (by assumption) | exact TI.i6 (by assumption) | exact TI.i7 (by assumption)) (fun c53 => ?_) (fun c53 => ?_)
    ·
      have e : i = N := by omega
      subst e -- go
      refine wp_iload (pc := 115) dX11_sheet_115 rfl ?_
      first | refine wp_ifb_eq (pc := 117) 125 dX11_sheet_117 (by decide) (fun c117 => ?_) (fun c117 => ?_) | refine wp_if_eq (pc := 117) 125 dX11_sheet_117 (by decide) (by first | omega | exact TI.i5 (by assumption) | exact TI.i3 (by assumption) | exact TI.i2 (by assumption) | exact TI.i1 (by assumption) | exact TI.i0 (by assumption) | exact TI.i4 (by assumption) | exact TI.i6 (by assumption) | exact TI.i7 (by assumption)) (fun c117 => ?_) (fun c117 => ?_)
      ·
        rw [if_neg (by omega)] -- go
        refine wp_aload_n (pc := 125) dX11_sheet_125 rfl ?_
        refine wp_getf (pc := 126) dX11_sheet_126 gf_X11_26 K.ob (by rfl) ?_
        refine wp_aload_n (pc := 129) dX11_sheet_129 rfl ?_
        refine wp_getf (pc := 130) dX11_sheet_130 gf_X11_26 K.ob (by rfl) ?_
        refine wp_getf (pc := 133) dX11_sheet_133 gf_X11_141 (by first | exact K.ob | exact K.to.1 | exact K.tr.1 | exact K.to.2.1 | exact K.to.2.2.1 | exact K.to.2.2.2.1 | exact K.to.2.2.2.2.1 | exact K.to.2.2.2.2.2.1 | exact K.to.2.2.2.2.2.2.1 | exact K.to.2.2.2.2.2.2.2 | exact K.tr.2.1 | exact K.tr.2.2.1 | exact K.tr.2.2.2.1 | exact K.tr.2.2.2.2.1 | exact K.tr.2.2.2.2.2.1 | exact K.tr.2.2.2.2.2.2.1 | exact K.tr.2.2.2.2.2.2.2) (by rfl) ?_
        refine wd_Vp (pc := 136) dX11_sheet_136 cl_X11_189 (sp_Town_sum (by first | assumption | omega | exact K.to | exact K.tr | exact K.to.2.1 | exact K.to.2.2.1 | exact K.to.2.2.2.1 | exact K.to.2.2.2.2.1 | exact K.to.2.2.2.2.2.1 | exact K.to.2.2.2.2.2.2.1 | exact K.to.2.2.2.2.2.2.2 | exact K.tr.2.1 | exact K.tr.2.2.1 | exact K.tr.2.2.2.1 | exact K.tr.2.2.2.2.1 | exact K.tr.2.2.2.2.2.1 | exact K.tr.2.2.2.2.2.2.1 | exact K.tr.2.2.2.2.2.2.2) (by first | assumption | omega | exact K.to | exact K.tr | exact K.to.2.1 | exact K.to.2.2.1 | exact K.to.2.2.2.1 | exact K.to.2.2.2.2.1 | exact K.to.2.2.2.2.2.1 | exact K.to.2.2.2.2.2.2.1 | exact K.to.2.2.2.2.2.2.2 | exact K.tr.2.1 | exact K.tr.2.2.1 | exact K.tr.2.2.2.1 | exact K.tr.2.2.2.2.1 | exact K.tr.2.2.2.2.2.1 | exact K.tr.2.2.2.2.2.2.1 | exact K.tr.2.2.2.2.2.2.2) (by first | assumption | omega | exact K.to | exact K.tr | exact K.to.2.1 | exact K.to.2.2.1 | exact K.to.2.2.2.1 | exact K.to.2.2.2.2.1 | exact K.to.2.2.2.2.2.1 | exact K.to.2.2.2.2.2.2.1 | exact K.to.2.2.2.2.2.2.2 | exact K.tr.2.1 | exact K.tr.2.2.1 | exact K.tr.2.2.2.1 | exact K.tr.2.2.2.2.1 | exact K.tr.2.2.2.2.2.1 | exact K.tr.2.2.2.2.2.2.1 | exact K.tr.2.2.2.2.2.2.2) (by first | assumption | omega | exact K.to | exact K.tr | exact K.to.2.1 | exact K.to.2.2.1 | exact K.to.2.2.2.1 | exact K.to.2.2.2.2.1 | exact K.to.2.2.2.2.2.1 | exact K.to.2.2.2.2.2.2.1 | exact K.to.2.2.2.2.2.2.2 | exact K.tr.2.1 | exact K.tr.2.2.1 | exact K.tr.2.2.2.1 | exact K.tr.2.2.2.2.1 | exact K.tr.2.2.2.2.2.1 | exact K.tr.2.2.2.2.2.2.1 | exact K.tr.2.2.2.2.2.2.2) (by first | assumption | omega | exact K.to | exact K.tr | exact K.to.2.1 | exact K.to.2.2.1 | exact K.to.2.2.2.1 | exact K.to.2.2.2.2.1 | exact K.to.2.2.2.2.2.1 | exact K.to.2.2.2.2.2.2.1 | exact K.to.2.2.2.2.2.2.2 | exact K.tr.2.1 | exact K.tr.2.2.1 | exact K.tr.2.2.2.1 | exact K.tr.2.2.2.2.1 | exact K.tr.2.2.2.2.2.1 | exact K.tr.2.2.2.2.2.2.1 | exact K.tr.2.2.2.2.2.2.2)) rfl rfl (by first | exact K.to.o | exact K.tr.o | exact K.k0.o | exact K.k1.o) (by rfl) (by decide) (Nat.le_of_ble_eq_true rfl) ?_
        exact wp_ir (pc := 139) dX11_sheet_139 rfl (by decide) (by decide) (by first | rfl | omega) ⟨⟨_, _, _, _, _, K⟩, O⟩
      ·
        rw [if_pos (by omega)] -- go
        refine wp_bipush (pc := 120) (y := (-3)) dX11_sheet_120 (by decide) ?_
        refine wp_goto (pc := 122) 139 dX11_sheet_122 (by decide) ?_
        exact wp_ir (pc := 139) dX11_sheet_139 rfl (by decide) (by decide) (by first | rfl | omega) ⟨⟨_, _, _, _, _, K⟩, O⟩
    ·
      first
      | (exfalso; omega)
      | skip
        refine wp_iload (pc := 56) dX11_sheet_56 rfl ?_
        first | refine wp_ifb_ne (pc := 58) 71 dX11_sheet_58 (by decide) (fun c58 => ?_) (fun c58 => ?_) | refine wp_if_ne (pc := 58) 71 dX11_sheet_58 (by decide) (by first | omega | exact TI.i5 (by assumption) | exact TI.i3 (by assumption) | exact TI.i2 (by assumption) | exact TI.i1 (by assumption) | exact TI.i0 (by assumption) | exact TI.i4 (by assumption) | exact TI.i6 (by assumption) | exact TI.i7 (by assumption)) (fun c58 => ?_) (fun c58 => ?_)
        ·
          first
          | (exfalso; omega)
          | skip
            refine wp_iconst (pc := 71) dX11_sheet_71 ?_
            refine wp_istore (pc := 72) dX11_sheet_72 (by decide) ?_
            refine wp_aload_n (pc := 74) dX11_sheet_74 rfl ?_
            refine wp_getf (pc := 75) dX11_sheet_75 gf_X11_26 K.ob (by rfl) ?_
            refine wp_getf (pc := 78) dX11_sheet_78 gf_X11_141 (by first | exact K.ob | exact K.to.1 | exact K.tr.1 | exact K.to.2.1 | exact K.to.2.2.1 | exact K.to.2.2.2.1 | exact K.to.2.2.2.2.1 | exact K.to.2.2.2.2.2.1 | exact K.to.2.2.2.2.2.2.1 | exact K.to.2.2.2.2.2.2.2 | exact K.tr.2.1 | exact K.tr.2.2.1 | exact K.tr.2.2.2.1 | exact K.tr.2.2.2.2.1 | exact K.tr.2.2.2.2.2.1 | exact K.tr.2.2.2.2.2.2.1 | exact K.tr.2.2.2.2.2.2.2) (by rfl) ?_
            refine wp_iload (pc := 81) dX11_sheet_81 rfl ?_
            refine wp_iload (pc := 83) dX11_sheet_83 rfl ?_
            first | refine wp_ifb_eq (pc := 85) 107 dX11_sheet_85 (by decide) (fun c85 => ?_) (fun c85 => ?_) | refine wp_if_eq (pc := 85) 107 dX11_sheet_85 (by decide) (by first | omega | exact TI.i5 (by assumption) | exact TI.i3 (by assumption) | exact TI.i2 (by assumption) | exact TI.i1 (by assumption) | exact TI.i0 (by assumption) | exact TI.i4 (by assumption) | exact TI.i6 (by assumption) | exact TI.i7 (by assumption)) (fun c85 => ?_) (fun c85 => ?_)
            ·
              first
              | (exfalso; omega)
              | skip
                refine wp_iconst (pc := 107) dX11_sheet_107 ?_
                have ew : (0 : Int) = shF x y f st (i : Int) := by unfold shF; rw [if_pos (by omega)]
                refine wd_ias (pc := 108) dX11_sheet_108 K O K.to.2.2.2.1 (by omega) (by omega) (by omega) (by decide) K.to.s2 (fun hp108 K O => ?_)
                rw [shT_up ew] at K
                refine wp_iinc (pc := 109) dX11_sheet_109 rfl (by decide) ?_
                refine wp_goto (pc := 112) 44 dX11_sheet_112 (by decide) ?_
                refine wp_ls ?_ (ih (i + 1) (by omega) (by omega) _ K O)
                repeat' (first | exact LE_0 | refine LE_s rfl ?_ | refine LE_s (I_c (by first | omega | (simp only [sm]; omega))) ?_ | refine LE_s (J_c (by first | omega | exact Int.pow_succ _ _ | exact (Int.pow_succ _ _).symm | exact (Int.pow_zero _).symm | (simp only [sm]; omega))) ?_ | refine LE_n ?_)
            ·
              first
              | (exfalso; omega)
              | skip
                refine wp_iload_n (pc := 88) dX11_sheet_88 rfl ?_
                refine wp_iload_n (pc := 89) dX11_sheet_89 rfl ?_
                refine wp_iload (pc := 90) dX11_sheet_90 rfl ?_
                refine wp_iload (pc := 92) dX11_sheet_92 rfl ?_
                refine wp_imul (pc := 94) dX11_sheet_94 ?_
                refine wp_iadd (pc := 95) dX11_sheet_95 ?_
                refine wp_Sp (pc := 96) dX11_sheet_96 cl_X11_183 (sp_D_entry rx) rfl rfl (by decide) (Nat.le_of_ble_eq_true rfl) ?_
                refine wp_bipush (pc := 99) (y := 99) dX11_sheet_99 (by decide) ?_
                refine wp_Sp (pc := 101) dX11_sheet_101 cl_X11_186 (sp_D_within hei (by omega)) rfl rfl (by decide) (Nat.le_of_ble_eq_true rfl) ?_
                have ew : mx 0 (mi 99 (entv x (f + i * st))) = shF x y f st (i : Int) := by unfold shF; rw [if_neg (by omega)]
                refine wp_goto (pc := 104) 108 dX11_sheet_104 (by decide) ?_
                refine wd_ias (pc := 108) dX11_sheet_108 K O K.to.2.2.2.1 (by omega) (by omega) (by omega) (by decide) K.to.s2 (fun hp108 K O => ?_)
                rw [shT_up ew] at K
                refine wp_iinc (pc := 109) dX11_sheet_109 rfl (by decide) ?_
                refine wp_goto (pc := 112) 44 dX11_sheet_112 (by decide) ?_
                refine wp_ls ?_ (ih (i + 1) (by omega) (by omega) _ K O)
                repeat' (first | exact LE_0 | refine LE_s rfl ?_ | refine LE_s (I_c (by first | omega | (simp only [sm]; omega))) ?_ | refine LE_s (J_c (by first | omega | exact Int.pow_succ _ _ | exact (Int.pow_succ _ _).symm | exact (Int.pow_zero _).symm | (simp only [sm]; omega))) ?_ | refine LE_n ?_)
        ·
          first
          | (exfalso; omega)
          | skip
            refine wp_iload (pc := 61) dX11_sheet_61 rfl ?_
            refine wp_iload_n (pc := 63) dX11_sheet_63 rfl ?_
            refine wp_icmp_ge (pc := 64) 71 dX11_sheet_64 (by decide) (by first | omega | exact TI.i5 (by assumption) | exact TI.i3 (by assumption) | exact TI.i2 (by assumption) | exact TI.i1 (by assumption) | exact TI.i0 (by assumption) | exact TI.i4 (by assumption) | exact TI.i6 (by assumption) | exact TI.i7 (by assumption)) (by first | omega | exact TI.i5 (by assumption) | exact TI.i3 (by assumption) | exact TI.i2 (by assumption) | exact TI.i1 (by assumption) | exact TI.i0 (by assumption) | exact TI.i4 (by assumption) | exact TI.i6 (by assumption) | exact TI.i7 (by assumption)) (fun c64 => ?_) (fun c64 => ?_)
            ·
              first
              | (exfalso; omega)
              | skip
                refine wp_iconst (pc := 71) dX11_sheet_71 ?_
                refine wp_istore (pc := 72) dX11_sheet_72 (by decide) ?_
                refine wp_aload_n (pc := 74) dX11_sheet_74 rfl ?_
                refine wp_getf (pc := 75) dX11_sheet_75 gf_X11_26 K.ob (by rfl) ?_
                refine wp_getf (pc := 78) dX11_sheet_78 gf_X11_141 (by first | exact K.ob | exact K.to.1 | exact K.tr.1 | exact K.to.2.1 | exact K.to.2.2.1 | exact K.to.2.2.2.1 | exact K.to.2.2.2.2.1 | exact K.to.2.2.2.2.2.1 | exact K.to.2.2.2.2.2.2.1 | exact K.to.2.2.2.2.2.2.2 | exact K.tr.2.1 | exact K.tr.2.2.1 | exact K.tr.2.2.2.1 | exact K.tr.2.2.2.2.1 | exact K.tr.2.2.2.2.2.1 | exact K.tr.2.2.2.2.2.2.1 | exact K.tr.2.2.2.2.2.2.2) (by rfl) ?_
                refine wp_iload (pc := 81) dX11_sheet_81 rfl ?_
                refine wp_iload (pc := 83) dX11_sheet_83 rfl ?_
                first | refine wp_ifb_eq (pc := 85) 107 dX11_sheet_85 (by decide) (fun c85 => ?_) (fun c85 => ?_) | refine wp_if_eq (pc := 85) 107 dX11_sheet_85 (by decide) (by first | omega | exact TI.i5 (by assumption) | exact TI.i3 (by assumption) | exact TI.i2 (by assumption) | exact TI.i1 (by assumption) | exact TI.i0 (by assumption) | exact TI.i4 (by assumption) | exact TI.i6 (by assumption) | exact TI.i7 (by assumption)) (fun c85 => ?_) (fun c85 => ?_)
                ·
                  first
                  | (exfalso; omega)
                  | skip
                    refine wp_iconst (pc := 107) dX11_sheet_107 ?_
                    have ew : (0 : Int) = shF x y f st (i : Int) := by unfold shF; rw [if_pos (by omega)]
                    refine wd_ias (pc := 108) dX11_sheet_108 K O K.to.2.2.2.1 (by omega) (by omega) (by omega) (by decide) K.to.s2 (fun hp108 K O => ?_)
                    rw [shT_up ew] at K
                    refine wp_iinc (pc := 109) dX11_sheet_109 rfl (by decide) ?_
                    refine wp_goto (pc := 112) 44 dX11_sheet_112 (by decide) ?_
                    refine wp_ls ?_ (ih (i + 1) (by omega) (by omega) _ K O)
                    repeat' (first | exact LE_0 | refine LE_s rfl ?_ | refine LE_s (I_c (by first | omega | (simp only [sm]; omega))) ?_ | refine LE_s (J_c (by first | omega | exact Int.pow_succ _ _ | exact (Int.pow_succ _ _).symm | exact (Int.pow_zero _).symm | (simp only [sm]; omega))) ?_ | refine LE_n ?_)
                ·
                  first
                  | (exfalso; omega)
                  | skip
                    refine wp_iload_n (pc := 88) dX11_sheet_88 rfl ?_
                    refine wp_iload_n (pc := 89) dX11_sheet_89 rfl ?_
                    refine wp_iload (pc := 90) dX11_sheet_90 rfl ?_
                    refine wp_iload (pc := 92) dX11_sheet_92 rfl ?_
                    refine wp_imul (pc := 94) dX11_sheet_94 ?_
                    refine wp_iadd (pc := 95) dX11_sheet_95 ?_
                    refine wp_Sp (pc := 96) dX11_sheet_96 cl_X11_183 (sp_D_entry rx) rfl rfl (by decide) (Nat.le_of_ble_eq_true rfl) ?_
                    refine wp_bipush (pc := 99) (y := 99) dX11_sheet_99 (by decide) ?_
                    refine wp_Sp (pc := 101) dX11_sheet_101 cl_X11_186 (sp_D_within hei (by omega)) rfl rfl (by decide) (Nat.le_of_ble_eq_true rfl) ?_
                    have ew : mx 0 (mi 99 (entv x (f + i * st))) = shF x y f st (i : Int) := by unfold shF; rw [if_neg (by omega)]
                    refine wp_goto (pc := 104) 108 dX11_sheet_104 (by decide) ?_
                    refine wd_ias (pc := 108) dX11_sheet_108 K O K.to.2.2.2.1 (by omega) (by omega) (by omega) (by decide) K.to.s2 (fun hp108 K O => ?_)
                    rw [shT_up ew] at K
                    refine wp_iinc (pc := 109) dX11_sheet_109 rfl (by decide) ?_
                    refine wp_goto (pc := 112) 44 dX11_sheet_112 (by decide) ?_
                    refine wp_ls ?_ (ih (i + 1) (by omega) (by omega) _ K O)
                    repeat' (first | exact LE_0 | refine LE_s rfl ?_ | refine LE_s (I_c (by first | omega | (simp only [sm]; omega))) ?_ | refine LE_s (J_c (by first | omega | exact Int.pow_succ _ _ | exact (Int.pow_succ _ _).symm | exact (Int.pow_zero _).symm | (simp only [sm]; omega))) ?_ | refine LE_n ?_)
            ·
              first
              | (exfalso; omega)
              | skip
                refine wp_iconst (pc := 67) dX11_sheet_67 ?_
                refine wp_goto (pc := 68) 72 dX11_sheet_68 (by decide) ?_
                refine wp_istore (pc := 72) dX11_sheet_72 (by decide) ?_
                refine wp_aload_n (pc := 74) dX11_sheet_74 rfl ?_
                refine wp_getf (pc := 75) dX11_sheet_75 gf_X11_26 K.ob (by rfl) ?_
                refine wp_getf (pc := 78) dX11_sheet_78 gf_X11_141 (by first | exact K.ob | exact K.to.1 | exact K.tr.1 | exact K.to.2.1 | exact K.to.2.2.1 | exact K.to.2.2.2.1 | exact K.to.2.2.2.2.1 | exact K.to.2.2.2.2.2.1 | exact K.to.2.2.2.2.2.2.1 | exact K.to.2.2.2.2.2.2.2 | exact K.tr.2.1 | exact K.tr.2.2.1 | exact K.tr.2.2.2.1 | exact K.tr.2.2.2.2.1 | exact K.tr.2.2.2.2.2.1 | exact K.tr.2.2.2.2.2.2.1 | exact K.tr.2.2.2.2.2.2.2) (by rfl) ?_
                refine wp_iload (pc := 81) dX11_sheet_81 rfl ?_
                refine wp_iload (pc := 83) dX11_sheet_83 rfl ?_
                first | refine wp_ifb_eq (pc := 85) 107 dX11_sheet_85 (by decide) (fun c85 => ?_) (fun c85 => ?_) | refine wp_if_eq (pc := 85) 107 dX11_sheet_85 (by decide) (by first | omega | exact TI.i5 (by assumption) | exact TI.i3 (by assumption) | exact TI.i2 (by assumption) | exact TI.i1 (by assumption) | exact TI.i0 (by assumption) | exact TI.i4 (by assumption) | exact TI.i6 (by assumption) | exact TI.i7 (by assumption)) (fun c85 => ?_) (fun c85 => ?_)
                ·
                  first
                  | (exfalso; omega)
                  | skip
                    refine wp_iconst (pc := 107) dX11_sheet_107 ?_
                    have ew : (0 : Int) = shF x y f st (i : Int) := by unfold shF; rw [if_pos (by omega)]
                    refine wd_ias (pc := 108) dX11_sheet_108 K O K.to.2.2.2.1 (by omega) (by omega) (by omega) (by decide) K.to.s2 (fun hp108 K O => ?_)
                    rw [shT_up ew] at K
                    refine wp_iinc (pc := 109) dX11_sheet_109 rfl (by decide) ?_
                    refine wp_goto (pc := 112) 44 dX11_sheet_112 (by decide) ?_
                    refine wp_ls ?_ (ih (i + 1) (by omega) (by omega) _ K O)
                    repeat' (first | exact LE_0 | refine LE_s rfl ?_ | refine LE_s (I_c (by first | omega | (simp only [sm]; omega))) ?_ | refine LE_s (J_c (by first | omega | exact Int.pow_succ _ _ | exact (Int.pow_succ _ _).symm | exact (Int.pow_zero _).symm | (simp only [sm]; omega))) ?_ | refine LE_n ?_)
                ·
                  first
                  | (exfalso; omega)
                  | skip
                    refine wp_iload_n (pc := 88) dX11_sheet_88 rfl ?_
                    refine wp_iload_n (pc := 89) dX11_sheet_89 rfl ?_
                    refine wp_iload (pc := 90) dX11_sheet_90 rfl ?_
                    refine wp_iload (pc := 92) dX11_sheet_92 rfl ?_
                    refine wp_imul (pc := 94) dX11_sheet_94 ?_
                    refine wp_iadd (pc := 95) dX11_sheet_95 ?_
                    refine wp_Sp (pc := 96) dX11_sheet_96 cl_X11_183 (sp_D_entry rx) rfl rfl (by decide) (Nat.le_of_ble_eq_true rfl) ?_
                    refine wp_bipush (pc := 99) (y := 99) dX11_sheet_99 (by decide) ?_
                    refine wp_Sp (pc := 101) dX11_sheet_101 cl_X11_186 (sp_D_within hei (by omega)) rfl rfl (by decide) (Nat.le_of_ble_eq_true rfl) ?_
                    have ew : mx 0 (mi 99 (entv x (f + i * st))) = shF x y f st (i : Int) := by unfold shF; rw [if_neg (by omega)]
                    refine wp_goto (pc := 104) 108 dX11_sheet_104 (by decide) ?_
                    refine wd_ias (pc := 108) dX11_sheet_108 K O K.to.2.2.2.1 (by omega) (by omega) (by omega) (by decide) K.to.s2 (fun hp108 K O => ?_)
                    rw [shT_up ew] at K
                    refine wp_iinc (pc := 109) dX11_sheet_109 rfl (by decide) ?_
                    refine wp_goto (pc := 112) 44 dX11_sheet_112 (by decide) ?_
                    refine wp_ls ?_ (ih (i + 1) (by omega) (by omega) _ K O)
                    repeat' (first | exact LE_0 | refine LE_s rfl ?_ | refine LE_s (I_c (by first | omega | (simp only [sm]; omega))) ?_ | refine LE_s (J_c (by first | omega | exact Int.pow_succ _ _ | exact (Int.pow_succ _ _).symm | exact (Int.pow_zero _).symm | (simp only [sm]; omega))) ?_ | refine LE_n ?_)
theorem sp_D_sheet {f st : Int} (K : DA hp D r s Tr z Z T U tx rw rt hs ss KT) (hI : TI T N) (rx : InR x) (ry : InR y) : Sp g MX11_sheet (rm 2 0 0) [.ref D, .int (I x), .int (I y), .int (I f), .int (I st)] hp (Eff (.int (I (shA T N x y f st))) (fun hp2 => DX hp2 D (if shO x y then shT T x y f st N else T) U tx rw rt hs ss KT ∧ SO hp hp2 D (D + 171))) := by
  have e0 : shT T x y f st 0 = T := by unfold shT; rw [upto_0, one_id]
  unfold shA
  refine Sp_mk rfl (Nat.le_of_ble_eq_true rfl) ?_
  show wp g _ _ _ 0 0 0 [some (.ref D), some (.int (I x)), some (.int (I y)), some (.int (I f)), some (.int (I st)), none, none, none] [] hp
  have O := SO.rf (hp := hp) (lo := D) (hi := D + 171)
  refine wp_iload_n (pc := 0) dX11_sheet_0 rfl ?_
  refine wp_if_lt (pc := 1) 15 dX11_sheet_1 (by decide) (by first | omega | exact TI.i5 (by assumption) | exact TI.i3 (by assumption) | exact TI.i2 (by assumption) | exact TI.i1 (by assumption) | exact TI.i0 (by assumption) | exact TI.i4 (by assumption) | exact TI.i6 (by assumption) | exact TI.i7 (by assumption)) (fun c1 => ?_) (fun c1 => ?_)
  ·
    first
    | (exfalso; omega)
    | skip
      rw [if_pos (show ¬ (0 ≤ x ∧ x ≤ 3) ∨ 6 < y by omega), if_neg (show ¬ shO x y by omega)]
      refine wp_iconst (pc := 15) dX11_sheet_15 ?_
      exact wp_ir (pc := 16) dX11_sheet_16 rfl (by decide) (by decide) (by first | rfl | omega) ⟨⟨_, _, _, _, _, K⟩, O⟩
  ·
    first
    | (exfalso; omega)
    | skip
      refine wp_iload_n (pc := 4) dX11_sheet_4 rfl ?_
      refine wp_iconst (pc := 5) dX11_sheet_5 ?_
      refine wp_icmp_gt (pc := 6) 15 dX11_sheet_6 (by decide) (by first | omega | exact TI.i5 (by assumption) | exact TI.i3 (by assumption) | exact TI.i2 (by assumption) | exact TI.i1 (by assumption) | exact TI.i0 (by assumption) | exact TI.i4 (by assumption) | exact TI.i6 (by assumption) | exact TI.i7 (by assumption)) (by first | omega | exact TI.i5 (by assumption) | exact TI.i3 (by assumption) | exact TI.i2 (by assumption) | exact TI.i1 (by assumption) | exact TI.i0 (by assumption) | exact TI.i4 (by assumption) | exact TI.i6 (by assumption) | exact TI.i7 (by assumption)) (fun c6 => ?_) (fun c6 => ?_)
      ·
        first
        | (exfalso; omega)
        | skip
          rw [if_pos (show ¬ (0 ≤ x ∧ x ≤ 3) ∨ 6 < y by omega), if_neg (show ¬ shO x y by omega)]
          refine wp_iconst (pc := 15) dX11_sheet_15 ?_
          exact wp_ir (pc := 16) dX11_sheet_16 rfl (by decide) (by decide) (by first | rfl | omega) ⟨⟨_, _, _, _, _, K⟩, O⟩
      ·
        first
        | (exfalso; omega)
        | skip
          refine wp_iload_n (pc := 9) dX11_sheet_9 rfl ?_
          refine wp_bipush (pc := 10) (y := 6) dX11_sheet_10 (by decide) ?_
          refine wp_icmp_le (pc := 12) 17 dX11_sheet_12 (by decide) (by first | omega | exact TI.i5 (by assumption) | exact TI.i3 (by assumption) | exact TI.i2 (by assumption) | exact TI.i1 (by assumption) | exact TI.i0 (by assumption) | exact TI.i4 (by assumption) | exact TI.i6 (by assumption) | exact TI.i7 (by assumption)) (by first | omega | exact TI.i5 (by assumption) | exact TI.i3 (by assumption) | exact TI.i2 (by assumption) | exact TI.i1 (by assumption) | exact TI.i0 (by assumption) | exact TI.i4 (by assumption) | exact TI.i6 (by assumption) | exact TI.i7 (by assumption)) (fun c12 => ?_) (fun c12 => ?_)
          ·
            first
            | (exfalso; omega)
            | skip
              rw [if_neg (show ¬ (¬ (0 ≤ x ∧ x ≤ 3) ∨ 6 < y) by omega)]
              refine wp_iload_n (pc := 17) dX11_sheet_17 rfl ?_
              refine wp_iconst (pc := 18) dX11_sheet_18 ?_
              refine wp_icmp_ne (pc := 19) 26 dX11_sheet_19 (by decide) (by first | omega | exact TI.i5 (by assumption) | exact TI.i3 (by assumption) | exact TI.i2 (by assumption) | exact TI.i1 (by assumption) | exact TI.i0 (by assumption) | exact TI.i4 (by assumption) | exact TI.i6 (by assumption) | exact TI.i7 (by assumption)) (by first | omega | exact TI.i5 (by assumption) | exact TI.i3 (by assumption) | exact TI.i2 (by assumption) | exact TI.i1 (by assumption) | exact TI.i0 (by assumption) | exact TI.i4 (by assumption) | exact TI.i6 (by assumption) | exact TI.i7 (by assumption)) (fun c19 => ?_) (fun c19 => ?_)
              ·
                first
                | (exfalso; omega)
                | skip
                  refine wp_iconst (pc := 26) dX11_sheet_26 ?_
                  refine wp_istore (pc := 27) dX11_sheet_27 (by decide) ?_
                  refine wp_iload (pc := 29) dX11_sheet_29 rfl ?_
                  first | refine wp_ifb_ne (pc := 31) 41 dX11_sheet_31 (by decide) (fun c31 => ?_) (fun c31 => ?_) | refine wp_if_ne (pc := 31) 41 dX11_sheet_31 (by decide) (by first | omega | exact TI.i5 (by assumption) | exact TI.i3 (by assumption) | exact TI.i2 (by assumption) | exact TI.i1 (by assumption) | exact TI.i0 (by assumption) | exact TI.i4 (by assumption) | exact TI.i6 (by assumption) | exact TI.i7 (by assumption)) (fun c31 => ?_) (fun c31 => ?_)
                  ·
                    first
                    | (exfalso; omega)
                    | skip
                      rw [if_neg (show ¬ (x < 3 ∧ y < 0) by omega), if_pos (show shO x y by omega)]
                      refine wp_iconst (pc := 41) dX11_sheet_41 ?_
                      refine wp_istore (pc := 42) dX11_sheet_42 (by decide) ?_
                      first
                      | refine wp_ls ?_ (lp_D_sheet (f := f) (st := st) (d := 1) hI (by omega) ry (.inl ⟨by omega, rfl⟩) (N + 1) 0 (by omega) (by omega) _ (by rw [show ((0 : Nat) : Int) = 0 from rfl, e0]; exact K) O)
                        repeat' (first | exact LE_0 | refine LE_s rfl ?_ | refine LE_s (I_c (by first | omega | (simp only [sm]; omega))) ?_ | refine LE_s (J_c (by first | omega | exact Int.pow_succ _ _ | exact (Int.pow_succ _ _).symm | exact (Int.pow_zero _).symm | (simp only [sm]; omega))) ?_ | refine LE_n ?_)
                      | refine wp_ls ?_ (lp_D_sheet (f := f) (st := st) (d := 0) hI (by omega) ry (.inr ⟨by omega, rfl⟩) (N + 1) 0 (by omega) (by omega) _ (by rw [show ((0 : Nat) : Int) = 0 from rfl, e0]; exact K) O)
                        repeat' (first | exact LE_0 | refine LE_s rfl ?_ | refine LE_s (I_c (by first | omega | (simp only [sm]; omega))) ?_ | refine LE_s (J_c (by first | omega | exact Int.pow_succ _ _ | exact (Int.pow_succ _ _).symm | exact (Int.pow_zero _).symm | (simp only [sm]; omega))) ?_ | refine LE_n ?_)
                  ·
                    first
                    | (exfalso; omega)
                    | skip
                      refine wp_iload_n (pc := 34) dX11_sheet_34 rfl ?_
                      refine wp_if_ge (pc := 35) 41 dX11_sheet_35 (by decide) (by first | omega | exact TI.i5 (by assumption) | exact TI.i3 (by assumption) | exact TI.i2 (by assumption) | exact TI.i1 (by assumption) | exact TI.i0 (by assumption) | exact TI.i4 (by assumption) | exact TI.i6 (by assumption) | exact TI.i7 (by assumption)) (fun c35 => ?_) (fun c35 => ?_)
                      ·
                        first
                        | (exfalso; omega)
                        | skip
                          rw [if_neg (show ¬ (x < 3 ∧ y < 0) by omega), if_pos (show shO x y by omega)]
                          refine wp_iconst (pc := 41) dX11_sheet_41 ?_
                          refine wp_istore (pc := 42) dX11_sheet_42 (by decide) ?_
                          first
                          | refine wp_ls ?_ (lp_D_sheet (f := f) (st := st) (d := 1) hI (by omega) ry (.inl ⟨by omega, rfl⟩) (N + 1) 0 (by omega) (by omega) _ (by rw [show ((0 : Nat) : Int) = 0 from rfl, e0]; exact K) O)
                            repeat' (first | exact LE_0 | refine LE_s rfl ?_ | refine LE_s (I_c (by first | omega | (simp only [sm]; omega))) ?_ | refine LE_s (J_c (by first | omega | exact Int.pow_succ _ _ | exact (Int.pow_succ _ _).symm | exact (Int.pow_zero _).symm | (simp only [sm]; omega))) ?_ | refine LE_n ?_)
                          | refine wp_ls ?_ (lp_D_sheet (f := f) (st := st) (d := 0) hI (by omega) ry (.inr ⟨by omega, rfl⟩) (N + 1) 0 (by omega) (by omega) _ (by rw [show ((0 : Nat) : Int) = 0 from rfl, e0]; exact K) O)
                            repeat' (first | exact LE_0 | refine LE_s rfl ?_ | refine LE_s (I_c (by first | omega | (simp only [sm]; omega))) ?_ | refine LE_s (J_c (by first | omega | exact Int.pow_succ _ _ | exact (Int.pow_succ _ _).symm | exact (Int.pow_zero _).symm | (simp only [sm]; omega))) ?_ | refine LE_n ?_)
                      ·
                        first
                        | (exfalso; omega)
                        | skip
                          rw [if_pos (show x < 3 ∧ y < 0 by omega), if_neg (show ¬ shO x y by omega)]
                          refine wp_bipush (pc := 38) (y := (-2)) dX11_sheet_38 (by decide) ?_
                          exact wp_ir (pc := 40) dX11_sheet_40 rfl (by decide) (by decide) (by first | rfl | omega) ⟨⟨_, _, _, _, _, K⟩, O⟩
              ·
                first
                | (exfalso; omega)
                | skip
                  refine wp_iconst (pc := 22) dX11_sheet_22 ?_
                  refine wp_goto (pc := 23) 27 dX11_sheet_23 (by decide) ?_
                  refine wp_istore (pc := 27) dX11_sheet_27 (by decide) ?_
                  refine wp_iload (pc := 29) dX11_sheet_29 rfl ?_
                  first | refine wp_ifb_ne (pc := 31) 41 dX11_sheet_31 (by decide) (fun c31 => ?_) (fun c31 => ?_) | refine wp_if_ne (pc := 31) 41 dX11_sheet_31 (by decide) (by first | omega | exact TI.i5 (by assumption) | exact TI.i3 (by assumption) | exact TI.i2 (by assumption) | exact TI.i1 (by assumption) | exact TI.i0 (by assumption) | exact TI.i4 (by assumption) | exact TI.i6 (by assumption) | exact TI.i7 (by assumption)) (fun c31 => ?_) (fun c31 => ?_)
                  ·
                    first
                    | (exfalso; omega)
                    | skip
                      rw [if_neg (show ¬ (x < 3 ∧ y < 0) by omega), if_pos (show shO x y by omega)]
                      refine wp_iconst (pc := 41) dX11_sheet_41 ?_
                      refine wp_istore (pc := 42) dX11_sheet_42 (by decide) ?_
                      first
                      | refine wp_ls ?_ (lp_D_sheet (f := f) (st := st) (d := 1) hI (by omega) ry (.inl ⟨by omega, rfl⟩) (N + 1) 0 (by omega) (by omega) _ (by rw [show ((0 : Nat) : Int) = 0 from rfl, e0]; exact K) O)
                        repeat' (first | exact LE_0 | refine LE_s rfl ?_ | refine LE_s (I_c (by first | omega | (simp only [sm]; omega))) ?_ | refine LE_s (J_c (by first | omega | exact Int.pow_succ _ _ | exact (Int.pow_succ _ _).symm | exact (Int.pow_zero _).symm | (simp only [sm]; omega))) ?_ | refine LE_n ?_)
                      | refine wp_ls ?_ (lp_D_sheet (f := f) (st := st) (d := 0) hI (by omega) ry (.inr ⟨by omega, rfl⟩) (N + 1) 0 (by omega) (by omega) _ (by rw [show ((0 : Nat) : Int) = 0 from rfl, e0]; exact K) O)
                        repeat' (first | exact LE_0 | refine LE_s rfl ?_ | refine LE_s (I_c (by first | omega | (simp only [sm]; omega))) ?_ | refine LE_s (J_c (by first | omega | exact Int.pow_succ _ _ | exact (Int.pow_succ _ _).symm | exact (Int.pow_zero _).symm | (simp only [sm]; omega))) ?_ | refine LE_n ?_)
                  ·
                    first
                    | (exfalso; omega)
                    | skip
                      refine wp_iload_n (pc := 34) dX11_sheet_34 rfl ?_
                      refine wp_if_ge (pc := 35) 41 dX11_sheet_35 (by decide) (by first | omega | exact TI.i5 (by assumption) | exact TI.i3 (by assumption) | exact TI.i2 (by assumption) | exact TI.i1 (by assumption) | exact TI.i0 (by assumption) | exact TI.i4 (by assumption) | exact TI.i6 (by assumption) | exact TI.i7 (by assumption)) (fun c35 => ?_) (fun c35 => ?_)
                      ·
                        first
                        | (exfalso; omega)
                        | skip
                          rw [if_neg (show ¬ (x < 3 ∧ y < 0) by omega), if_pos (show shO x y by omega)]
                          refine wp_iconst (pc := 41) dX11_sheet_41 ?_
                          refine wp_istore (pc := 42) dX11_sheet_42 (by decide) ?_
                          first
                          | refine wp_ls ?_ (lp_D_sheet (f := f) (st := st) (d := 1) hI (by omega) ry (.inl ⟨by omega, rfl⟩) (N + 1) 0 (by omega) (by omega) _ (by rw [show ((0 : Nat) : Int) = 0 from rfl, e0]; exact K) O)
                            repeat' (first | exact LE_0 | refine LE_s rfl ?_ | refine LE_s (I_c (by first | omega | (simp only [sm]; omega))) ?_ | refine LE_s (J_c (by first | omega | exact Int.pow_succ _ _ | exact (Int.pow_succ _ _).symm | exact (Int.pow_zero _).symm | (simp only [sm]; omega))) ?_ | refine LE_n ?_)
                          | refine wp_ls ?_ (lp_D_sheet (f := f) (st := st) (d := 0) hI (by omega) ry (.inr ⟨by omega, rfl⟩) (N + 1) 0 (by omega) (by omega) _ (by rw [show ((0 : Nat) : Int) = 0 from rfl, e0]; exact K) O)
                            repeat' (first | exact LE_0 | refine LE_s rfl ?_ | refine LE_s (I_c (by first | omega | (simp only [sm]; omega))) ?_ | refine LE_s (J_c (by first | omega | exact Int.pow_succ _ _ | exact (Int.pow_succ _ _).symm | exact (Int.pow_zero _).symm | (simp only [sm]; omega))) ?_ | refine LE_n ?_)
                      ·
                        first
                        | (exfalso; omega)
                        | skip
                          rw [if_pos (show x < 3 ∧ y < 0 by omega), if_neg (show ¬ shO x y by omega)]
                          refine wp_bipush (pc := 38) (y := (-2)) dX11_sheet_38 (by decide) ?_
                          exact wp_ir (pc := 40) dX11_sheet_40 rfl (by decide) (by decide) (by first | rfl | omega) ⟨⟨_, _, _, _, _, K⟩, O⟩
          ·
            first
            | (exfalso; omega)
            | skip
              rw [if_pos (show ¬ (0 ≤ x ∧ x ≤ 3) ∨ 6 < y by omega), if_neg (show ¬ shO x y by omega)]
              refine wp_iconst (pc := 15) dX11_sheet_15 ?_
              exact wp_ir (pc := 16) dX11_sheet_16 rfl (by decide) (by decide) (by first | rfl | omega) ⟨⟨_, _, _, _, _, K⟩, O⟩
end D7

