/-! the class: what is said, honours -/
section D2
variable {g : GT} {hp hp2 hp0 : Hp} {D r s N n k i : Nat} {T T2 Tr Z : Nat → Int → Int} {z x y a b c : Int} {U : List (Nat → Int → Int)} {tx rw rt : List Int} {hs : List (Int × Int)} {ss : List (Int × Int × Int)} {KT : Nat → Option (Nat → Int → Int)}
theorem lp_D_said (hI : TI T N) (hy : 0 ≤ y ∧ y < N) : ∀ (m i : Nat), N < i + m → i ≤ N → ∀ (hp2 : Hp) (K : DA hp2 D r s Tr z Z T U tx (sdl (stl rt) T y i) rt hs ss KT) (O : SO hp hp2 D (D + 171)), wp g MX11_said (rm 3 0 0) (Eff (.int (I (sds (stl rt) T y N))) (fun hp3 => DX hp3 D T U tx (sdl (stl rt) T y N) rt hs ss KT ∧ SO hp hp3 D (D + 171))) 0 0 24 [some (.ref D), some (.int (I y)), some (.int (I (sds (stl rt) T y i))), some (.int (I (i : Int))), none] [] hp2 := by
  intro m
  induction m with
  | zero => intro i h1 h2; exact absurd h1 (by omega)
  | succ m ih =>
    intro i h1 h2 hp2 K O
    obtain ⟨h8, hN⟩ := hI.men
    have hsl := sdl_len (stl rt) T y i
    have hw := wv_in (stl rt) T (i : Int) y
    refine wp_iload_n (pc := 24) dX11_said_24 rfl ?_
    refine wp_aload_n (pc := 25) dX11_said_25 rfl ?_
    refine wp_getf (pc := 26) dX11_said_26 gf_X11_26 K.ob (by rfl) ?_
    refine wp_getf (pc := 29) dX11_said_29 gf_X11_110 (by first | exact K.ob | exact K.to.1 | exact K.tr.1 | exact K.to.2.1 | exact K.to.2.2.1 | exact K.to.2.2.2.1 | exact K.to.2.2.2.2.1 | exact K.to.2.2.2.2.2.1 | exact K.to.2.2.2.2.2.2.1 | exact K.to.2.2.2.2.2.2.2 | exact K.tr.2.1 | exact K.tr.2.2.1 | exact K.tr.2.2.2.1 | exact K.tr.2.2.2.2.1 | exact K.tr.2.2.2.2.2.1 | exact K.tr.2.2.2.2.2.2.1 | exact K.tr.2.2.2.2.2.2.2) (by rfl) ?_
    refine wp_icmp_ge (pc := 32) 87 dX11_said_32 (by decide) (by first | omega | exact TI.i5 (by assumption) | exact TI.i3 (by assumption) | exact TI.i2 (by assumption) | exact TI.i1 (by assumption) | exact TI.i0 (by assumption) | exact TI.i4 (by assumption) | exact TI.i6 (by assumption) | exact TI.i7 (by assumption)) (by first | omega | exact TI.i5 (by assumption) | exact TI.i3 (by assumption) | exact TI.i2 (by assumption) | exact TI.i1 (by assumption) | exact TI.i0 (by assumption) | exact TI.i4 (by assumption) | exact TI.i6 (by assumption) | exact TI.i7 (by assumption)) (fun c32 => ?_) (fun c32 => ?_)
    ·
      have e : i = N := by omega
      subst e -- go
      refine wp_iload_n (pc := 87) dX11_said_87 rfl ?_
      exact wp_ir (pc := 88) dX11_said_88 rfl (by decide) (by decide) (by first | rfl | omega) ⟨⟨_, _, _, _, _, K⟩, O⟩
    ·
      refine wp_iload_n (pc := 35) dX11_said_35 rfl ?_
      refine wp_iload_n (pc := 36) dX11_said_36 rfl ?_
      refine wp_icmp_eq (pc := 37) 81 dX11_said_37 (by decide) (by first | omega | exact TI.i5 (by assumption) | exact TI.i3 (by assumption) | exact TI.i2 (by assumption) | exact TI.i1 (by assumption) | exact TI.i0 (by assumption) | exact TI.i4 (by assumption) | exact TI.i6 (by assumption) | exact TI.i7 (by assumption)) (by first | omega | exact TI.i5 (by assumption) | exact TI.i3 (by assumption) | exact TI.i2 (by assumption) | exact TI.i1 (by assumption) | exact TI.i0 (by assumption) | exact TI.i4 (by assumption) | exact TI.i6 (by assumption) | exact TI.i7 (by assumption)) (fun c37 => ?_) (fun c37 => ?_)
      ·
        have e1 : sdl (stl rt) T y (i + 1) = sdl (stl rt) T y i := if_neg (fun q => q.1 c37)
        have e2 : sds (stl rt) T y (i + 1) = sds (stl rt) T y i := if_neg (fun q => q.1 c37)
        rw [← e1] at K -- go
        refine wp_iinc (pc := 81) dX11_said_81 rfl (by decide) ?_
        refine wp_goto (pc := 84) 24 dX11_said_84 (by decide) ?_
        refine wp_ls ?_ (ih (i + 1) (by omega) (by omega) _ K O)
        repeat' (first | exact LE_0 | refine LE_s rfl ?_ | refine LE_s (I_c (by first | omega | (simp only [sm]; omega))) ?_ | refine LE_s (J_c (by first | omega | exact Int.pow_succ _ _ | exact (Int.pow_succ _ _).symm | exact (Int.pow_zero _).symm | (simp only [sm]; omega))) ?_ | refine LE_n ?_)
      ·
        refine wp_aload_n (pc := 40) dX11_said_40 rfl ?_
        refine wp_getf (pc := 41) dX11_said_41 gf_X11_26 K.ob (by rfl) ?_
        refine wp_iload_n (pc := 44) dX11_said_44 rfl ?_
        refine wd_Vp (pc := 45) dX11_said_45 cl_X11_244 (sp_Town_lives (by first | assumption | omega | exact K.to | exact K.tr | exact K.to.2.1 | exact K.to.2.2.1 | exact K.to.2.2.2.1 | exact K.to.2.2.2.2.1 | exact K.to.2.2.2.2.2.1 | exact K.to.2.2.2.2.2.2.1 | exact K.to.2.2.2.2.2.2.2 | exact K.tr.2.1 | exact K.tr.2.2.1 | exact K.tr.2.2.2.1 | exact K.tr.2.2.2.2.1 | exact K.tr.2.2.2.2.2.1 | exact K.tr.2.2.2.2.2.2.1 | exact K.tr.2.2.2.2.2.2.2) (by first | assumption | omega | exact K.to | exact K.tr | exact K.to.2.1 | exact K.to.2.2.1 | exact K.to.2.2.2.1 | exact K.to.2.2.2.2.1 | exact K.to.2.2.2.2.2.1 | exact K.to.2.2.2.2.2.2.1 | exact K.to.2.2.2.2.2.2.2 | exact K.tr.2.1 | exact K.tr.2.2.1 | exact K.tr.2.2.2.1 | exact K.tr.2.2.2.2.1 | exact K.tr.2.2.2.2.2.1 | exact K.tr.2.2.2.2.2.2.1 | exact K.tr.2.2.2.2.2.2.2) (by first | assumption | omega | exact K.to | exact K.tr | exact K.to.2.1 | exact K.to.2.2.1 | exact K.to.2.2.2.1 | exact K.to.2.2.2.2.1 | exact K.to.2.2.2.2.2.1 | exact K.to.2.2.2.2.2.2.1 | exact K.to.2.2.2.2.2.2.2 | exact K.tr.2.1 | exact K.tr.2.2.1 | exact K.tr.2.2.2.1 | exact K.tr.2.2.2.2.1 | exact K.tr.2.2.2.2.2.1 | exact K.tr.2.2.2.2.2.2.1 | exact K.tr.2.2.2.2.2.2.2) (by first | assumption | omega | exact K.to | exact K.tr | exact K.to.2.1 | exact K.to.2.2.1 | exact K.to.2.2.2.1 | exact K.to.2.2.2.2.1 | exact K.to.2.2.2.2.2.1 | exact K.to.2.2.2.2.2.2.1 | exact K.to.2.2.2.2.2.2.2 | exact K.tr.2.1 | exact K.tr.2.2.1 | exact K.tr.2.2.2.1 | exact K.tr.2.2.2.2.1 | exact K.tr.2.2.2.2.2.1 | exact K.tr.2.2.2.2.2.2.1 | exact K.tr.2.2.2.2.2.2.2)) rfl rfl (by first | exact K.to.o | exact K.tr.o | exact K.k0.o | exact K.k1.o) (by rfl) (by decide) (Nat.le_of_ble_eq_true rfl) ?_
        first | refine wp_ifb_eq (pc := 48) 81 dX11_said_48 (by decide) (fun c48 => ?_) (fun c48 => ?_) | refine wp_if_eq (pc := 48) 81 dX11_said_48 (by decide) (by first | omega | exact TI.i5 (by assumption) | exact TI.i3 (by assumption) | exact TI.i2 (by assumption) | exact TI.i1 (by assumption) | exact TI.i0 (by assumption) | exact TI.i4 (by assumption) | exact TI.i6 (by assumption) | exact TI.i7 (by assumption)) (fun c48 => ?_) (fun c48 => ?_)
        ·
          have e1 : sdl (stl rt) T y (i + 1) = sdl (stl rt) T y i := if_neg (fun q => c48 q.2)
          have e2 : sds (stl rt) T y (i + 1) = sds (stl rt) T y i := if_neg (fun q => c48 q.2)
          rw [← e1] at K -- go
          refine wp_iinc (pc := 81) dX11_said_81 rfl (by decide) ?_
          refine wp_goto (pc := 84) 24 dX11_said_84 (by decide) ?_
          refine wp_ls ?_ (ih (i + 1) (by omega) (by omega) _ K O)
          repeat' (first | exact LE_0 | refine LE_s rfl ?_ | refine LE_s (I_c (by first | omega | (simp only [sm]; omega))) ?_ | refine LE_s (J_c (by first | omega | exact Int.pow_succ _ _ | exact (Int.pow_succ _ _).symm | exact (Int.pow_zero _).symm | (simp only [sm]; omega))) ?_ | refine LE_n ?_)
        ·
          have e1 : sdl (stl rt) T y (i + 1) = sdl (stl rt) T y i ++ [wv (stl rt) T i y] := if_pos ⟨c37, c48⟩
          have e2 : sds (stl rt) T y (i + 1) = sds (stl rt) T y i + wv (stl rt) T i y := if_pos ⟨c37, c48⟩
          skip -- go
          refine wp_aload_n (pc := 51) dX11_said_51 rfl ?_
          refine wp_getf (pc := 52) dX11_said_52 gf_X11_91 K.ob (by rfl) ?_
          refine wp_aload_n (pc := 55) dX11_said_55 rfl ?_
          refine wp_getf (pc := 56) dX11_said_56 gf_X11_26 K.ob (by rfl) ?_
          refine wp_iload_n (pc := 59) dX11_said_59 rfl ?_
          refine wp_iload_n (pc := 60) dX11_said_60 rfl ?_
          refine wd_Vs (pc := 61) dX11_said_61 cl_X11_176 (sp_Rule_words K.ru (by first | exact K.to | exact K.tr) (by first | assumption | omega) (by first | assumption | omega) (by first | assumption | omega) (by have := K.rs; omega)) rfl rfl (by first | exact K.ru.o | exact K.sp.o) (by rfl) (by decide) (Nat.le_of_ble_eq_true rfl) (fun hp61 e61 => ?_)
          obtain ⟨h61, o61⟩ := e61
          replace O := O.inn o61 (by have := K.rs; omega) (by have := K.rs; omega)
          replace K := K.uRu h61 o61
          refine wp_istore (pc := 64) dX11_said_64 (by decide) ?_
          refine wp_aload_n (pc := 66) dX11_said_66 rfl ?_
          refine wp_getf (pc := 67) dX11_said_67 gf_X11_19 K.ob (by rfl) ?_
          refine wp_iload (pc := 70) dX11_said_70 rfl ?_
          refine wp_i2l (pc := 72) dX11_said_72 (by first | omega | exact TI.i5 (by assumption) | exact TI.i3 (by assumption) | exact TI.i2 (by assumption) | exact TI.i1 (by assumption) | exact TI.i0 (by assumption) | exact TI.i4 (by assumption) | exact TI.i6 (by assumption) | exact TI.i7 (by assumption)) ?_
          refine wd_Vn (pc := 73) dX11_said_73 cl_X11_247 (sp_Row_add K.ro (by first | assumption | omega | (simp; omega) | simp)) rfl rfl K.ro.o (by rfl) (by decide) (Nat.le_of_ble_eq_true rfl) (fun hp73 e73 => ?_)
          obtain ⟨h73, o73⟩ := e73
          replace O := O.inn o73 (by omega) (by omega)
          replace K := K.uRo h73 o73
          rw [← e1] at K
          refine wp_iload_n (pc := 76) dX11_said_76 rfl ?_
          refine wp_iload (pc := 77) dX11_said_77 rfl ?_
          refine wp_iadd (pc := 79) dX11_said_79 ?_
          refine wp_istore_n (pc := 80) dX11_said_80 (by decide) ?_
          refine wp_iinc (pc := 81) dX11_said_81 rfl (by decide) ?_
          refine wp_goto (pc := 84) 24 dX11_said_84 (by decide) ?_
          refine wp_ls ?_ (ih (i + 1) (by omega) (by omega) _ K O)
          repeat' (first | exact LE_0 | refine LE_s rfl ?_ | refine LE_s (I_c (by first | omega | (simp only [sm]; omega))) ?_ | refine LE_s (J_c (by first | omega | exact Int.pow_succ _ _ | exact (Int.pow_succ _ _).symm | exact (Int.pow_zero _).symm | (simp only [sm]; omega))) ?_ | refine LE_n ?_)
theorem sp_D_said (K : DA hp D r s Tr z Z T U tx rw rt hs ss KT) (hI : TI T N) (ry : InR y) : Sp g MX11_said (rm 3 0 0) [.ref D, .int (I y)] hp (Eff (.int (I (if 0 ≤ y ∧ y < N then sds (stl rt) T y N else -1))) (fun hp2 => DX hp2 D T U tx (if 0 ≤ y ∧ y < N then sdl (stl rt) T y N else rw) rt hs ss KT ∧ SO hp hp2 D (D + 171))) := by
  refine Sp_mk rfl (Nat.le_of_ble_eq_true rfl) ?_
  show wp g _ _ _ 0 0 0 [some (.ref D), some (.int (I y)), none, none, none] [] hp
  have O := SO.rf (hp := hp) (lo := D) (hi := D + 171)
  refine wp_aload_n (pc := 0) dX11_said_0 rfl ?_
  refine wp_getf (pc := 1) dX11_said_1 gf_X11_26 K.ob (by rfl) ?_
  refine wp_iload_n (pc := 4) dX11_said_4 rfl ?_
  refine wd_Vp (pc := 5) dX11_said_5 cl_X11_148 (sp_Town_has (by first | assumption | omega | exact K.to | exact K.tr | exact K.to.2.1 | exact K.to.2.2.1 | exact K.to.2.2.2.1 | exact K.to.2.2.2.2.1 | exact K.to.2.2.2.2.2.1 | exact K.to.2.2.2.2.2.2.1 | exact K.to.2.2.2.2.2.2.2 | exact K.tr.2.1 | exact K.tr.2.2.1 | exact K.tr.2.2.2.1 | exact K.tr.2.2.2.2.1 | exact K.tr.2.2.2.2.2.1 | exact K.tr.2.2.2.2.2.2.1 | exact K.tr.2.2.2.2.2.2.2) (by first | assumption | omega | exact K.to | exact K.tr | exact K.to.2.1 | exact K.to.2.2.1 | exact K.to.2.2.2.1 | exact K.to.2.2.2.2.1 | exact K.to.2.2.2.2.2.1 | exact K.to.2.2.2.2.2.2.1 | exact K.to.2.2.2.2.2.2.2 | exact K.tr.2.1 | exact K.tr.2.2.1 | exact K.tr.2.2.2.1 | exact K.tr.2.2.2.2.1 | exact K.tr.2.2.2.2.2.1 | exact K.tr.2.2.2.2.2.2.1 | exact K.tr.2.2.2.2.2.2.2) (by first | assumption | omega | exact K.to | exact K.tr | exact K.to.2.1 | exact K.to.2.2.1 | exact K.to.2.2.2.1 | exact K.to.2.2.2.2.1 | exact K.to.2.2.2.2.2.1 | exact K.to.2.2.2.2.2.2.1 | exact K.to.2.2.2.2.2.2.2 | exact K.tr.2.1 | exact K.tr.2.2.1 | exact K.tr.2.2.2.1 | exact K.tr.2.2.2.2.1 | exact K.tr.2.2.2.2.2.1 | exact K.tr.2.2.2.2.2.2.1 | exact K.tr.2.2.2.2.2.2.2)) rfl rfl (by first | exact K.to.o | exact K.tr.o | exact K.k0.o | exact K.k1.o) (by rfl) (by decide) (Nat.le_of_ble_eq_true rfl) ?_
  first | refine wp_ifb_ne (pc := 8) 13 dX11_said_8 (by decide) (fun c8 => ?_) (fun c8 => ?_) | refine wp_if_ne (pc := 8) 13 dX11_said_8 (by decide) (by first | omega | exact TI.i5 (by assumption) | exact TI.i3 (by assumption) | exact TI.i2 (by assumption) | exact TI.i1 (by assumption) | exact TI.i0 (by assumption) | exact TI.i4 (by assumption) | exact TI.i6 (by assumption) | exact TI.i7 (by assumption)) (fun c8 => ?_) (fun c8 => ?_)
  ·
    rw [if_pos c8, if_pos c8] -- go
    refine wp_aload_n (pc := 13) dX11_said_13 rfl ?_
    refine wp_getf (pc := 14) dX11_said_14 gf_X11_19 K.ob (by rfl) ?_
    refine wd_Vn (pc := 17) dX11_said_17 cl_X11_243 (sp_Row_clear K.ro) rfl rfl K.ro.o (by rfl) (by decide) (Nat.le_of_ble_eq_true rfl) (fun hp17 e17 => ?_)
    obtain ⟨h17, o17⟩ := e17
    replace O := O.inn o17 (by omega) (by omega)
    replace K := K.uRo h17 o17
    refine wp_iconst (pc := 20) dX11_said_20 ?_
    refine wp_istore_n (pc := 21) dX11_said_21 (by decide) ?_
    refine wp_iconst (pc := 22) dX11_said_22 ?_
    refine wp_istore_n (pc := 23) dX11_said_23 (by decide) ?_
    refine wp_ls ?_ (lp_D_said hI c8 (N + 1) 0 (by omega) (by omega) _ K O)
    repeat' (first | exact LE_0 | refine LE_s rfl ?_ | refine LE_s (I_c (by first | omega | (simp only [sm]; omega))) ?_ | refine LE_s (J_c (by first | omega | exact Int.pow_succ _ _ | exact (Int.pow_succ _ _).symm | exact (Int.pow_zero _).symm | (simp only [sm]; omega))) ?_ | refine LE_n ?_)
  ·
    rw [if_neg c8, if_neg c8] -- go
    refine wp_iconst (pc := 11) dX11_said_11 ?_
    exact wp_ir (pc := 12) dX11_said_12 rfl (by decide) (by decide) (by first | rfl | omega) ⟨⟨_, _, _, _, _, K⟩, O⟩
theorem lp_D_later (hI : TI T2 N) (hx : 0 ≤ x ∧ x < N) : ∀ (m i : Nat), N < i + m → i ≤ N → ∀ (hp2 : Hp) (K : DA hp2 D r s T2 z Z T U tx (tab (T2 3) i) rt hs ss KT) (O : SO hp hp2 D (D + 171)), wp g MX11_later (rm 7 0 0) (Eff (.int (I (T2 3 x))) (fun hp3 => DX hp3 D T U tx (tab (T2 3) N) rt hs ss KT ∧ SO hp hp3 D (D + 171))) 0 0 34 [some (.ref D), some (.int (I x)), none, some (.int (I (i : Int)))] [] hp2 := by
  intro m
  induction m with
  | zero => intro i h1 h2; exact absurd h1 (by omega)
  | succ m ih =>
    intro i h1 h2 hp2 K O
    obtain ⟨h8, hN⟩ := hI.men
    have htl := tab_len (T2 3) i
    refine wp_iload_n (pc := 34) dX11_later_34 rfl ?_
    refine wp_aload_n (pc := 35) dX11_later_35 rfl ?_
    refine wp_getf (pc := 36) dX11_later_36 gf_X11_30 K.ob (by rfl) ?_
    refine wp_getf (pc := 39) dX11_later_39 gf_X11_110 (by first | exact K.ob | exact K.to.1 | exact K.tr.1 | exact K.to.2.1 | exact K.to.2.2.1 | exact K.to.2.2.2.1 | exact K.to.2.2.2.2.1 | exact K.to.2.2.2.2.2.1 | exact K.to.2.2.2.2.2.2.1 | exact K.to.2.2.2.2.2.2.2 | exact K.tr.2.1 | exact K.tr.2.2.1 | exact K.tr.2.2.2.1 | exact K.tr.2.2.2.2.1 | exact K.tr.2.2.2.2.2.1 | exact K.tr.2.2.2.2.2.2.1 | exact K.tr.2.2.2.2.2.2.2) (by rfl) ?_
    refine wp_icmp_ge (pc := 42) 68 dX11_later_42 (by decide) (by first | omega | exact TI.i5 (by assumption) | exact TI.i3 (by assumption) | exact TI.i2 (by assumption) | exact TI.i1 (by assumption) | exact TI.i0 (by assumption) | exact TI.i4 (by assumption) | exact TI.i6 (by assumption) | exact TI.i7 (by assumption)) (by first | omega | exact TI.i5 (by assumption) | exact TI.i3 (by assumption) | exact TI.i2 (by assumption) | exact TI.i1 (by assumption) | exact TI.i0 (by assumption) | exact TI.i4 (by assumption) | exact TI.i6 (by assumption) | exact TI.i7 (by assumption)) (fun c42 => ?_) (fun c42 => ?_)
    ·
      have e : i = N := by omega
      subst e -- go
      refine wp_aload_n (pc := 68) dX11_later_68 rfl ?_
      refine wp_getf (pc := 69) dX11_later_69 gf_X11_30 K.ob (by rfl) ?_
      refine wp_getf (pc := 72) dX11_later_72 gf_X11_154 (by first | exact K.ob | exact K.to.1 | exact K.tr.1 | exact K.to.2.1 | exact K.to.2.2.1 | exact K.to.2.2.2.1 | exact K.to.2.2.2.2.1 | exact K.to.2.2.2.2.2.1 | exact K.to.2.2.2.2.2.2.1 | exact K.to.2.2.2.2.2.2.2 | exact K.tr.2.1 | exact K.tr.2.2.1 | exact K.tr.2.2.2.1 | exact K.tr.2.2.2.2.1 | exact K.tr.2.2.2.2.2.1 | exact K.tr.2.2.2.2.2.2.1 | exact K.tr.2.2.2.2.2.2.2) (by rfl) ?_
      refine wp_iload_n (pc := 75) dX11_later_75 rfl ?_
      refine wp_iald (pc := 76) dX11_later_76 (by first | exact K.ob | exact K.to.1 | exact K.tr.1 | exact K.to.2.1 | exact K.to.2.2.1 | exact K.to.2.2.2.1 | exact K.to.2.2.2.2.1 | exact K.to.2.2.2.2.2.1 | exact K.to.2.2.2.2.2.2.1 | exact K.to.2.2.2.2.2.2.2 | exact K.tr.2.1 | exact K.tr.2.2.1 | exact K.tr.2.2.2.1 | exact K.tr.2.2.2.2.1 | exact K.tr.2.2.2.2.2.1 | exact K.tr.2.2.2.2.2.2.1 | exact K.tr.2.2.2.2.2.2.2) (by omega) (by omega) (by decide) ?_
      exact wp_ir (pc := 77) dX11_later_77 rfl (by decide) (by decide) (by first | rfl | omega) ⟨⟨_, _, _, _, _, K⟩, O⟩
    ·
      refine wp_aload_n (pc := 45) dX11_later_45 rfl ?_
      refine wp_getf (pc := 46) dX11_later_46 gf_X11_19 K.ob (by rfl) ?_
      refine wp_aload_n (pc := 49) dX11_later_49 rfl ?_
      refine wp_getf (pc := 50) dX11_later_50 gf_X11_30 K.ob (by rfl) ?_
      refine wp_getf (pc := 53) dX11_later_53 gf_X11_154 (by first | exact K.ob | exact K.to.1 | exact K.tr.1 | exact K.to.2.1 | exact K.to.2.2.1 | exact K.to.2.2.2.1 | exact K.to.2.2.2.2.1 | exact K.to.2.2.2.2.2.1 | exact K.to.2.2.2.2.2.2.1 | exact K.to.2.2.2.2.2.2.2 | exact K.tr.2.1 | exact K.tr.2.2.1 | exact K.tr.2.2.2.1 | exact K.tr.2.2.2.2.1 | exact K.tr.2.2.2.2.2.1 | exact K.tr.2.2.2.2.2.2.1 | exact K.tr.2.2.2.2.2.2.2) (by rfl) ?_
      refine wp_iload_n (pc := 56) dX11_later_56 rfl ?_
      refine wp_iald (pc := 57) dX11_later_57 (by first | exact K.ob | exact K.to.1 | exact K.tr.1 | exact K.to.2.1 | exact K.to.2.2.1 | exact K.to.2.2.2.1 | exact K.to.2.2.2.2.1 | exact K.to.2.2.2.2.2.1 | exact K.to.2.2.2.2.2.2.1 | exact K.to.2.2.2.2.2.2.2 | exact K.tr.2.1 | exact K.tr.2.2.1 | exact K.tr.2.2.2.1 | exact K.tr.2.2.2.2.1 | exact K.tr.2.2.2.2.2.1 | exact K.tr.2.2.2.2.2.2.1 | exact K.tr.2.2.2.2.2.2.2) (by omega) (by omega) (by decide) ?_
      refine wp_i2l (pc := 58) dX11_later_58 (by first | omega | exact TI.i5 (by assumption) | exact TI.i3 (by assumption) | exact TI.i2 (by assumption) | exact TI.i1 (by assumption) | exact TI.i0 (by assumption) | exact TI.i4 (by assumption) | exact TI.i6 (by assumption) | exact TI.i7 (by assumption)) ?_
      refine wd_Vn (pc := 59) dX11_later_59 cl_X11_247 (sp_Row_add K.ro (by first | assumption | omega | (simp; omega) | simp)) rfl rfl K.ro.o (by rfl) (by decide) (Nat.le_of_ble_eq_true rfl) (fun hp59 e59 => ?_)
      obtain ⟨h59, o59⟩ := e59
      replace O := O.inn o59 (by omega) (by omega)
      replace K := K.uRo h59 o59
      refine wp_iinc (pc := 62) dX11_later_62 rfl (by decide) ?_
      refine wp_goto (pc := 65) 34 dX11_later_65 (by decide) ?_
      refine wp_ls ?_ (ih (i + 1) (by omega) (by omega) _ K O)
      repeat' (first | exact LE_0 | refine LE_s rfl ?_ | refine LE_s (I_c (by first | omega | (simp only [sm]; omega))) ?_ | refine LE_s (J_c (by first | omega | exact Int.pow_succ _ _ | exact (Int.pow_succ _ _).symm | exact (Int.pow_zero _).symm | (simp only [sm]; omega))) ?_ | refine LE_n ?_)
theorem sp_D_later (K : DA hp D r s Tr z Z T U tx rw rt hs ss KT) (hI : TI T N) (hH : HS T) (hb : T 7 0 < 1900000000) (rx : InR x) (ry : InR y) : Sp g MX11_later (rm 7 0 0) [.ref D, .int (I x), .int (I y)] hp (Eff (.int (I (if laO N x y then runT (stl rt) T N y.toNat 3 x else -1))) (fun hp2 => DX hp2 D T U tx (if laO N x y then tab (runT (stl rt) T N y.toNat 3) N else rw) rt hs ss KT ∧ SO hp hp2 D (D + 171))) := by
  refine Sp_mk rfl (Nat.le_of_ble_eq_true rfl) ?_
  show wp g _ _ _ 0 0 0 [some (.ref D), some (.int (I x)), some (.int (I y)), none] [] hp
  have O := SO.rf (hp := hp) (lo := D) (hi := D + 171)
  refine wp_aload_n (pc := 0) dX11_later_0 rfl ?_
  refine wp_getf (pc := 1) dX11_later_1 gf_X11_26 K.ob (by rfl) ?_
  refine wp_iload_n (pc := 4) dX11_later_4 rfl ?_
  refine wd_Vp (pc := 5) dX11_later_5 cl_X11_148 (sp_Town_has (by first | assumption | omega | exact K.to | exact K.tr | exact K.to.2.1 | exact K.to.2.2.1 | exact K.to.2.2.2.1 | exact K.to.2.2.2.2.1 | exact K.to.2.2.2.2.2.1 | exact K.to.2.2.2.2.2.2.1 | exact K.to.2.2.2.2.2.2.2 | exact K.tr.2.1 | exact K.tr.2.2.1 | exact K.tr.2.2.2.1 | exact K.tr.2.2.2.2.1 | exact K.tr.2.2.2.2.2.1 | exact K.tr.2.2.2.2.2.2.1 | exact K.tr.2.2.2.2.2.2.2) (by first | assumption | omega | exact K.to | exact K.tr | exact K.to.2.1 | exact K.to.2.2.1 | exact K.to.2.2.2.1 | exact K.to.2.2.2.2.1 | exact K.to.2.2.2.2.2.1 | exact K.to.2.2.2.2.2.2.1 | exact K.to.2.2.2.2.2.2.2 | exact K.tr.2.1 | exact K.tr.2.2.1 | exact K.tr.2.2.2.1 | exact K.tr.2.2.2.2.1 | exact K.tr.2.2.2.2.2.1 | exact K.tr.2.2.2.2.2.2.1 | exact K.tr.2.2.2.2.2.2.2) (by first | assumption | omega | exact K.to | exact K.tr | exact K.to.2.1 | exact K.to.2.2.1 | exact K.to.2.2.2.1 | exact K.to.2.2.2.2.1 | exact K.to.2.2.2.2.2.1 | exact K.to.2.2.2.2.2.2.1 | exact K.to.2.2.2.2.2.2.2 | exact K.tr.2.1 | exact K.tr.2.2.1 | exact K.tr.2.2.2.1 | exact K.tr.2.2.2.2.1 | exact K.tr.2.2.2.2.2.1 | exact K.tr.2.2.2.2.2.2.1 | exact K.tr.2.2.2.2.2.2.2)) rfl rfl (by first | exact K.to.o | exact K.tr.o | exact K.k0.o | exact K.k1.o) (by rfl) (by decide) (Nat.le_of_ble_eq_true rfl) ?_
  first | refine wp_ifb_eq (pc := 8) 18 dX11_later_8 (by decide) (fun c8 => ?_) (fun c8 => ?_) | refine wp_if_eq (pc := 8) 18 dX11_later_8 (by decide) (by first | omega | exact TI.i5 (by assumption) | exact TI.i3 (by assumption) | exact TI.i2 (by assumption) | exact TI.i1 (by assumption) | exact TI.i0 (by assumption) | exact TI.i4 (by assumption) | exact TI.i6 (by assumption) | exact TI.i7 (by assumption)) (fun c8 => ?_) (fun c8 => ?_)
  ·
    rw [if_neg (show ¬ laO N x y by omega), if_neg (show ¬ laO N x y by omega)]
    refine wp_iconst (pc := 18) dX11_later_18 ?_
    exact wp_ir (pc := 19) dX11_later_19 rfl (by decide) (by decide) (by first | rfl | omega) ⟨⟨_, _, _, _, _, K⟩, O⟩
  ·
    refine wp_iload_n (pc := 11) dX11_later_11 rfl ?_
    refine wp_Sp (pc := 12) dX11_later_12 cl_X11_253 (sp_D_isAhead (by first | assumption | omega | exact K.to | exact K.tr | exact K.to.2.1 | exact K.to.2.2.1 | exact K.to.2.2.2.1 | exact K.to.2.2.2.2.1 | exact K.to.2.2.2.2.2.1 | exact K.to.2.2.2.2.2.2.1 | exact K.to.2.2.2.2.2.2.2 | exact K.tr.2.1 | exact K.tr.2.2.1 | exact K.tr.2.2.2.1 | exact K.tr.2.2.2.2.1 | exact K.tr.2.2.2.2.2.1 | exact K.tr.2.2.2.2.2.2.1 | exact K.tr.2.2.2.2.2.2.2)) rfl rfl (by decide) (Nat.le_of_ble_eq_true rfl) ?_
    first | refine wp_ifb_ne (pc := 15) 20 dX11_later_15 (by decide) (fun c15 => ?_) (fun c15 => ?_) | refine wp_if_ne (pc := 15) 20 dX11_later_15 (by decide) (by first | omega | exact TI.i5 (by assumption) | exact TI.i3 (by assumption) | exact TI.i2 (by assumption) | exact TI.i1 (by assumption) | exact TI.i0 (by assumption) | exact TI.i4 (by assumption) | exact TI.i6 (by assumption) | exact TI.i7 (by assumption)) (fun c15 => ?_) (fun c15 => ?_)
    ·
      rw [if_pos (show laO N x y by omega), if_pos (show laO N x y by omega)]
      obtain ⟨n, rfl⟩ := Int.eq_ofNat_of_zero_le (show 0 ≤ y by omega)
      have hI2 := runT_I (cs := stl rt) hI n (by omega)
      refine wp_aload_n (pc := 20) dX11_later_20 rfl ?_
      refine wp_iload_n (pc := 21) dX11_later_21 rfl ?_
      refine wd_Vn (pc := 22) dX11_later_22 cl_X11_256 (sp_D_lookAhead K (by assumption) (by assumption) (by assumption) (by omega)) rfl rfl K.o (by rfl) (by decide) (Nat.le_of_ble_eq_true rfl) (fun hp22 e22 => ?_)
      obtain ⟨K, O1⟩ := e22; replace O := SO.tr O O1
      refine wp_aload_n (pc := 25) dX11_later_25 rfl ?_
      refine wp_getf (pc := 26) dX11_later_26 gf_X11_19 K.ob (by rfl) ?_
      refine wd_Vn (pc := 29) dX11_later_29 cl_X11_243 (sp_Row_clear K.ro) rfl rfl K.ro.o (by rfl) (by decide) (Nat.le_of_ble_eq_true rfl) (fun hp29 e29 => ?_)
      obtain ⟨h29, o29⟩ := e29
      replace O := O.inn o29 (by omega) (by omega)
      replace K := K.uRo h29 o29
      refine wp_iconst (pc := 32) dX11_later_32 ?_
      refine wp_istore_n (pc := 33) dX11_later_33 (by decide) ?_
      refine wp_ls ?_ (lp_D_later hI2 (by omega) (N + 1) 0 (by omega) (by omega) _ K O)
      repeat' (first | exact LE_0 | refine LE_s rfl ?_ | refine LE_s (I_c (by first | omega | (simp only [sm]; omega))) ?_ | refine LE_s (J_c (by first | omega | exact Int.pow_succ _ _ | exact (Int.pow_succ _ _).symm | exact (Int.pow_zero _).symm | (simp only [sm]; omega))) ?_ | refine LE_n ?_)
    ·
      rw [if_neg (show ¬ laO N x y by omega), if_neg (show ¬ laO N x y by omega)]
      refine wp_iconst (pc := 18) dX11_later_18 ?_
      exact wp_ir (pc := 19) dX11_later_19 rfl (by decide) (by decide) (by first | rfl | omega) ⟨⟨_, _, _, _, _, K⟩, O⟩
theorem lp_D_most (hI : TI T2 N) (h1N : 1 ≤ N) (K : DA hp D r s T2 z Z T U tx rw rt hs ss KT) (O : SO hp0 hp D (D + 171)) : ∀ (m i : Nat), (N - 1) < i + m → i ≤ (N - 1) → wp g MX11_most (rm 7 0 0) (Eff (.int (I ((mxi (T2 3) (N - 1) : Nat) : Int))) (fun hp3 => DX hp3 D T U tx [T2 3 (mxi (T2 3) (N - 1) : Nat), ((mni (T2 3) (N - 1) : Nat) : Int)] rt hs ss KT ∧ SO hp0 hp3 D (D + 171))) 0 0 34 [some (.ref D), some (.int (I y)), some (.int (I ((mxi (T2 3) i : Nat) : Int))), some (.int (I ((mni (T2 3) i : Nat) : Int))), some (.int (I ((i + 1 : Nat) : Int)))] [] hp := by
  intro m
  induction m with
  | zero => intro i h1 h2; exact absurd h1 (by omega)
  | succ m ih =>
    intro i h1 h2
    obtain ⟨h8, hN⟩ := hI.men
    have q1 := mxi_le (T2 3) i
    have q2 := mni_le (T2 3) i
    refine wp_iload (pc := 34) dX11_most_34 rfl ?_
    refine wp_aload_n (pc := 36) dX11_most_36 rfl ?_
    refine wp_getf (pc := 37) dX11_most_37 gf_X11_30 K.ob (by rfl) ?_
    refine wp_getf (pc := 40) dX11_most_40 gf_X11_110 (by first | exact K.ob | exact K.to.1 | exact K.tr.1 | exact K.to.2.1 | exact K.to.2.2.1 | exact K.to.2.2.2.1 | exact K.to.2.2.2.2.1 | exact K.to.2.2.2.2.2.1 | exact K.to.2.2.2.2.2.2.1 | exact K.to.2.2.2.2.2.2.2 | exact K.tr.2.1 | exact K.tr.2.2.1 | exact K.tr.2.2.2.1 | exact K.tr.2.2.2.2.1 | exact K.tr.2.2.2.2.2.1 | exact K.tr.2.2.2.2.2.2.1 | exact K.tr.2.2.2.2.2.2.2) (by rfl) ?_
    refine wp_icmp_ge (pc := 43) 102 dX11_most_43 (by decide) (by first | omega | exact TI.i5 (by assumption) | exact TI.i3 (by assumption) | exact TI.i2 (by assumption) | exact TI.i1 (by assumption) | exact TI.i0 (by assumption) | exact TI.i4 (by assumption) | exact TI.i6 (by assumption) | exact TI.i7 (by assumption)) (by first | omega | exact TI.i5 (by assumption) | exact TI.i3 (by assumption) | exact TI.i2 (by assumption) | exact TI.i1 (by assumption) | exact TI.i0 (by assumption) | exact TI.i4 (by assumption) | exact TI.i6 (by assumption) | exact TI.i7 (by assumption)) (fun c43 => ?_) (fun c43 => ?_)
    ·
      have e : i = N - 1 := by omega
      subst e -- go
      refine wp_aload_n (pc := 102) dX11_most_102 rfl ?_
      refine wp_getf (pc := 103) dX11_most_103 gf_X11_19 K.ob (by rfl) ?_
      refine wp_aload_n (pc := 106) dX11_most_106 rfl ?_
      refine wp_getf (pc := 107) dX11_most_107 gf_X11_30 K.ob (by rfl) ?_
      refine wp_getf (pc := 110) dX11_most_110 gf_X11_154 (by first | exact K.ob | exact K.to.1 | exact K.tr.1 | exact K.to.2.1 | exact K.to.2.2.1 | exact K.to.2.2.2.1 | exact K.to.2.2.2.2.1 | exact K.to.2.2.2.2.2.1 | exact K.to.2.2.2.2.2.2.1 | exact K.to.2.2.2.2.2.2.2 | exact K.tr.2.1 | exact K.tr.2.2.1 | exact K.tr.2.2.2.1 | exact K.tr.2.2.2.2.1 | exact K.tr.2.2.2.2.2.1 | exact K.tr.2.2.2.2.2.2.1 | exact K.tr.2.2.2.2.2.2.2) (by rfl) ?_
      refine wp_iload_n (pc := 113) dX11_most_113 rfl ?_
      refine wp_iald (pc := 114) dX11_most_114 (by first | exact K.ob | exact K.to.1 | exact K.tr.1 | exact K.to.2.1 | exact K.to.2.2.1 | exact K.to.2.2.2.1 | exact K.to.2.2.2.2.1 | exact K.to.2.2.2.2.2.1 | exact K.to.2.2.2.2.2.2.1 | exact K.to.2.2.2.2.2.2.2 | exact K.tr.2.1 | exact K.tr.2.2.1 | exact K.tr.2.2.2.1 | exact K.tr.2.2.2.2.1 | exact K.tr.2.2.2.2.2.1 | exact K.tr.2.2.2.2.2.2.1 | exact K.tr.2.2.2.2.2.2.2) (by omega) (by omega) (by decide) ?_
      refine wp_i2l (pc := 115) dX11_most_115 (by first | omega | exact TI.i5 (by assumption) | exact TI.i3 (by assumption) | exact TI.i2 (by assumption) | exact TI.i1 (by assumption) | exact TI.i0 (by assumption) | exact TI.i4 (by assumption) | exact TI.i6 (by assumption) | exact TI.i7 (by assumption)) ?_
      refine wp_iload_n (pc := 116) dX11_most_116 rfl ?_
      refine wp_i2l (pc := 117) dX11_most_117 (by first | omega | exact TI.i5 (by assumption) | exact TI.i3 (by assumption) | exact TI.i2 (by assumption) | exact TI.i1 (by assumption) | exact TI.i0 (by assumption) | exact TI.i4 (by assumption) | exact TI.i6 (by assumption) | exact TI.i7 (by assumption)) ?_
      refine wd_Vn (pc := 118) dX11_most_118 cl_X11_204 (sp_Row_tell_ K.ro) rfl rfl K.ro.o (by rfl) (by decide) (Nat.le_of_ble_eq_true rfl) (fun hp118 e118 => ?_)
      obtain ⟨h118, o118⟩ := e118
      replace O := O.inn o118 (by omega) (by omega)
      replace K := K.uRo h118 o118
      refine wp_iload_n (pc := 121) dX11_most_121 rfl ?_
      exact wp_ir (pc := 122) dX11_most_122 rfl (by decide) (by decide) (by first | rfl | omega) ⟨⟨_, _, _, _, _, K⟩, O⟩
    ·
      refine wp_aload_n (pc := 46) dX11_most_46 rfl ?_
      refine wp_getf (pc := 47) dX11_most_47 gf_X11_30 K.ob (by rfl) ?_
      refine wp_getf (pc := 50) dX11_most_50 gf_X11_154 (by first | exact K.ob | exact K.to.1 | exact K.tr.1 | exact K.to.2.1 | exact K.to.2.2.1 | exact K.to.2.2.2.1 | exact K.to.2.2.2.2.1 | exact K.to.2.2.2.2.2.1 | exact K.to.2.2.2.2.2.2.1 | exact K.to.2.2.2.2.2.2.2 | exact K.tr.2.1 | exact K.tr.2.2.1 | exact K.tr.2.2.2.1 | exact K.tr.2.2.2.2.1 | exact K.tr.2.2.2.2.2.1 | exact K.tr.2.2.2.2.2.2.1 | exact K.tr.2.2.2.2.2.2.2) (by rfl) ?_
      refine wp_iload (pc := 53) dX11_most_53 rfl ?_
      refine wp_iald (pc := 55) dX11_most_55 (by first | exact K.ob | exact K.to.1 | exact K.tr.1 | exact K.to.2.1 | exact K.to.2.2.1 | exact K.to.2.2.2.1 | exact K.to.2.2.2.2.1 | exact K.to.2.2.2.2.2.1 | exact K.to.2.2.2.2.2.2.1 | exact K.to.2.2.2.2.2.2.2 | exact K.tr.2.1 | exact K.tr.2.2.1 | exact K.tr.2.2.2.1 | exact K.tr.2.2.2.2.1 | exact K.tr.2.2.2.2.2.1 | exact K.tr.2.2.2.2.2.2.1 | exact K.tr.2.2.2.2.2.2.2) (by omega) (by omega) (by decide) ?_
      refine wp_aload_n (pc := 56) dX11_most_56 rfl ?_
      refine wp_getf (pc := 57) dX11_most_57 gf_X11_30 K.ob (by rfl) ?_
      refine wp_getf (pc := 60) dX11_most_60 gf_X11_154 (by first | exact K.ob | exact K.to.1 | exact K.tr.1 | exact K.to.2.1 | exact K.to.2.2.1 | exact K.to.2.2.2.1 | exact K.to.2.2.2.2.1 | exact K.to.2.2.2.2.2.1 | exact K.to.2.2.2.2.2.2.1 | exact K.to.2.2.2.2.2.2.2 | exact K.tr.2.1 | exact K.tr.2.2.1 | exact K.tr.2.2.2.1 | exact K.tr.2.2.2.2.1 | exact K.tr.2.2.2.2.2.1 | exact K.tr.2.2.2.2.2.2.1 | exact K.tr.2.2.2.2.2.2.2) (by rfl) ?_
      refine wp_iload_n (pc := 63) dX11_most_63 rfl ?_
      refine wp_iald (pc := 64) dX11_most_64 (by first | exact K.ob | exact K.to.1 | exact K.tr.1 | exact K.to.2.1 | exact K.to.2.2.1 | exact K.to.2.2.2.1 | exact K.to.2.2.2.2.1 | exact K.to.2.2.2.2.2.1 | exact K.to.2.2.2.2.2.2.1 | exact K.to.2.2.2.2.2.2.2 | exact K.tr.2.1 | exact K.tr.2.2.1 | exact K.tr.2.2.2.1 | exact K.tr.2.2.2.2.1 | exact K.tr.2.2.2.2.2.1 | exact K.tr.2.2.2.2.2.2.1 | exact K.tr.2.2.2.2.2.2.2) (by omega) (by omega) (by decide) ?_
      refine wp_icmp_le (pc := 65) 71 dX11_most_65 (by decide) (by first | omega | exact TI.i5 (by assumption) | exact TI.i3 (by assumption) | exact TI.i2 (by assumption) | exact TI.i1 (by assumption) | exact TI.i0 (by assumption) | exact TI.i4 (by assumption) | exact TI.i6 (by assumption) | exact TI.i7 (by assumption)) (by first | omega | exact TI.i5 (by assumption) | exact TI.i3 (by assumption) | exact TI.i2 (by assumption) | exact TI.i1 (by assumption) | exact TI.i0 (by assumption) | exact TI.i4 (by assumption) | exact TI.i6 (by assumption) | exact TI.i7 (by assumption)) (fun c65 => ?_) (fun c65 => ?_)
      ·
        have e1 : mxi (T2 3) (i + 1) = mxi (T2 3) i := if_neg (by omega)
        skip -- go
        refine wp_aload_n (pc := 71) dX11_most_71 rfl ?_
        refine wp_getf (pc := 72) dX11_most_72 gf_X11_30 K.ob (by rfl) ?_
        refine wp_getf (pc := 75) dX11_most_75 gf_X11_154 (by first | exact K.ob | exact K.to.1 | exact K.tr.1 | exact K.to.2.1 | exact K.to.2.2.1 | exact K.to.2.2.2.1 | exact K.to.2.2.2.2.1 | exact K.to.2.2.2.2.2.1 | exact K.to.2.2.2.2.2.2.1 | exact K.to.2.2.2.2.2.2.2 | exact K.tr.2.1 | exact K.tr.2.2.1 | exact K.tr.2.2.2.1 | exact K.tr.2.2.2.2.1 | exact K.tr.2.2.2.2.2.1 | exact K.tr.2.2.2.2.2.2.1 | exact K.tr.2.2.2.2.2.2.2) (by rfl) ?_
        refine wp_iload (pc := 78) dX11_most_78 rfl ?_
        refine wp_iald (pc := 80) dX11_most_80 (by first | exact K.ob | exact K.to.1 | exact K.tr.1 | exact K.to.2.1 | exact K.to.2.2.1 | exact K.to.2.2.2.1 | exact K.to.2.2.2.2.1 | exact K.to.2.2.2.2.2.1 | exact K.to.2.2.2.2.2.2.1 | exact K.to.2.2.2.2.2.2.2 | exact K.tr.2.1 | exact K.tr.2.2.1 | exact K.tr.2.2.2.1 | exact K.tr.2.2.2.2.1 | exact K.tr.2.2.2.2.2.1 | exact K.tr.2.2.2.2.2.2.1 | exact K.tr.2.2.2.2.2.2.2) (by omega) (by omega) (by decide) ?_
        refine wp_aload_n (pc := 81) dX11_most_81 rfl ?_
        refine wp_getf (pc := 82) dX11_most_82 gf_X11_30 K.ob (by rfl) ?_
        refine wp_getf (pc := 85) dX11_most_85 gf_X11_154 (by first | exact K.ob | exact K.to.1 | exact K.tr.1 | exact K.to.2.1 | exact K.to.2.2.1 | exact K.to.2.2.2.1 | exact K.to.2.2.2.2.1 | exact K.to.2.2.2.2.2.1 | exact K.to.2.2.2.2.2.2.1 | exact K.to.2.2.2.2.2.2.2 | exact K.tr.2.1 | exact K.tr.2.2.1 | exact K.tr.2.2.2.1 | exact K.tr.2.2.2.2.1 | exact K.tr.2.2.2.2.2.1 | exact K.tr.2.2.2.2.2.2.1 | exact K.tr.2.2.2.2.2.2.2) (by rfl) ?_
        refine wp_iload_n (pc := 88) dX11_most_88 rfl ?_
        refine wp_iald (pc := 89) dX11_most_89 (by first | exact K.ob | exact K.to.1 | exact K.tr.1 | exact K.to.2.1 | exact K.to.2.2.1 | exact K.to.2.2.2.1 | exact K.to.2.2.2.2.1 | exact K.to.2.2.2.2.2.1 | exact K.to.2.2.2.2.2.2.1 | exact K.to.2.2.2.2.2.2.2 | exact K.tr.2.1 | exact K.tr.2.2.1 | exact K.tr.2.2.2.1 | exact K.tr.2.2.2.2.1 | exact K.tr.2.2.2.2.2.1 | exact K.tr.2.2.2.2.2.2.1 | exact K.tr.2.2.2.2.2.2.2) (by omega) (by omega) (by decide) ?_
        refine wp_icmp_ge (pc := 90) 96 dX11_most_90 (by decide) (by first | omega | exact TI.i5 (by assumption) | exact TI.i3 (by assumption) | exact TI.i2 (by assumption) | exact TI.i1 (by assumption) | exact TI.i0 (by assumption) | exact TI.i4 (by assumption) | exact TI.i6 (by assumption) | exact TI.i7 (by assumption)) (by first | omega | exact TI.i5 (by assumption) | exact TI.i3 (by assumption) | exact TI.i2 (by assumption) | exact TI.i1 (by assumption) | exact TI.i0 (by assumption) | exact TI.i4 (by assumption) | exact TI.i6 (by assumption) | exact TI.i7 (by assumption)) (fun c90 => ?_) (fun c90 => ?_)
        ·
          have e2 : mni (T2 3) (i + 1) = mni (T2 3) i := if_neg (by omega)
          skip -- go
          refine wp_iinc (pc := 96) dX11_most_96 rfl (by decide) ?_
          refine wp_goto (pc := 99) 34 dX11_most_99 (by decide) ?_
          refine wp_ls ?_ (ih (i + 1) (by omega) (by omega))
          rw [e1, e2]
          repeat' (first | exact LE_0 | refine LE_s rfl ?_ | refine LE_s (I_c (by first | omega | (simp only [sm]; omega))) ?_ | refine LE_s (J_c (by first | omega | exact Int.pow_succ _ _ | exact (Int.pow_succ _ _).symm | exact (Int.pow_zero _).symm | (simp only [sm]; omega))) ?_ | refine LE_n ?_)
        ·
          have e2 : mni (T2 3) (i + 1) = i + 1 := if_pos (by omega)
          skip -- go
          refine wp_iload (pc := 93) dX11_most_93 rfl ?_
          refine wp_istore_n (pc := 95) dX11_most_95 (by decide) ?_
          refine wp_iinc (pc := 96) dX11_most_96 rfl (by decide) ?_
          refine wp_goto (pc := 99) 34 dX11_most_99 (by decide) ?_
          refine wp_ls ?_ (ih (i + 1) (by omega) (by omega))
          rw [e1, e2]
          repeat' (first | exact LE_0 | refine LE_s rfl ?_ | refine LE_s (I_c (by first | omega | (simp only [sm]; omega))) ?_ | refine LE_s (J_c (by first | omega | exact Int.pow_succ _ _ | exact (Int.pow_succ _ _).symm | exact (Int.pow_zero _).symm | (simp only [sm]; omega))) ?_ | refine LE_n ?_)
      ·
        have e1 : mxi (T2 3) (i + 1) = i + 1 := if_pos (by omega)
        skip -- go
        refine wp_iload (pc := 68) dX11_most_68 rfl ?_
        refine wp_istore_n (pc := 70) dX11_most_70 (by decide) ?_
        refine wp_aload_n (pc := 71) dX11_most_71 rfl ?_
        refine wp_getf (pc := 72) dX11_most_72 gf_X11_30 K.ob (by rfl) ?_
        refine wp_getf (pc := 75) dX11_most_75 gf_X11_154 (by first | exact K.ob | exact K.to.1 | exact K.tr.1 | exact K.to.2.1 | exact K.to.2.2.1 | exact K.to.2.2.2.1 | exact K.to.2.2.2.2.1 | exact K.to.2.2.2.2.2.1 | exact K.to.2.2.2.2.2.2.1 | exact K.to.2.2.2.2.2.2.2 | exact K.tr.2.1 | exact K.tr.2.2.1 | exact K.tr.2.2.2.1 | exact K.tr.2.2.2.2.1 | exact K.tr.2.2.2.2.2.1 | exact K.tr.2.2.2.2.2.2.1 | exact K.tr.2.2.2.2.2.2.2) (by rfl) ?_
        refine wp_iload (pc := 78) dX11_most_78 rfl ?_
        refine wp_iald (pc := 80) dX11_most_80 (by first | exact K.ob | exact K.to.1 | exact K.tr.1 | exact K.to.2.1 | exact K.to.2.2.1 | exact K.to.2.2.2.1 | exact K.to.2.2.2.2.1 | exact K.to.2.2.2.2.2.1 | exact K.to.2.2.2.2.2.2.1 | exact K.to.2.2.2.2.2.2.2 | exact K.tr.2.1 | exact K.tr.2.2.1 | exact K.tr.2.2.2.1 | exact K.tr.2.2.2.2.1 | exact K.tr.2.2.2.2.2.1 | exact K.tr.2.2.2.2.2.2.1 | exact K.tr.2.2.2.2.2.2.2) (by omega) (by omega) (by decide) ?_
        refine wp_aload_n (pc := 81) dX11_most_81 rfl ?_
        refine wp_getf (pc := 82) dX11_most_82 gf_X11_30 K.ob (by rfl) ?_
        refine wp_getf (pc := 85) dX11_most_85 gf_X11_154 (by first | exact K.ob | exact K.to.1 | exact K.tr.1 | exact K.to.2.1 | exact K.to.2.2.1 | exact K.to.2.2.2.1 | exact K.to.2.2.2.2.1 | exact K.to.2.2.2.2.2.1 | exact K.to.2.2.2.2.2.2.1 | exact K.to.2.2.2.2.2.2.2 | exact K.tr.2.1 | exact K.tr.2.2.1 | exact K.tr.2.2.2.1 | exact K.tr.2.2.2.2.1 | exact K.tr.2.2.2.2.2.1 | exact K.tr.2.2.2.2.2.2.1 | exact K.tr.2.2.2.2.2.2.2) (by rfl) ?_
        refine wp_iload_n (pc := 88) dX11_most_88 rfl ?_
        refine wp_iald (pc := 89) dX11_most_89 (by first | exact K.ob | exact K.to.1 | exact K.tr.1 | exact K.to.2.1 | exact K.to.2.2.1 | exact K.to.2.2.2.1 | exact K.to.2.2.2.2.1 | exact K.to.2.2.2.2.2.1 | exact K.to.2.2.2.2.2.2.1 | exact K.to.2.2.2.2.2.2.2 | exact K.tr.2.1 | exact K.tr.2.2.1 | exact K.tr.2.2.2.1 | exact K.tr.2.2.2.2.1 | exact K.tr.2.2.2.2.2.1 | exact K.tr.2.2.2.2.2.2.1 | exact K.tr.2.2.2.2.2.2.2) (by omega) (by omega) (by decide) ?_
        refine wp_icmp_ge (pc := 90) 96 dX11_most_90 (by decide) (by first | omega | exact TI.i5 (by assumption) | exact TI.i3 (by assumption) | exact TI.i2 (by assumption) | exact TI.i1 (by assumption) | exact TI.i0 (by assumption) | exact TI.i4 (by assumption) | exact TI.i6 (by assumption) | exact TI.i7 (by assumption)) (by first | omega | exact TI.i5 (by assumption) | exact TI.i3 (by assumption) | exact TI.i2 (by assumption) | exact TI.i1 (by assumption) | exact TI.i0 (by assumption) | exact TI.i4 (by assumption) | exact TI.i6 (by assumption) | exact TI.i7 (by assumption)) (fun c90 => ?_) (fun c90 => ?_)
        ·
          have e2 : mni (T2 3) (i + 1) = mni (T2 3) i := if_neg (by omega)
          skip -- go
          refine wp_iinc (pc := 96) dX11_most_96 rfl (by decide) ?_
          refine wp_goto (pc := 99) 34 dX11_most_99 (by decide) ?_
          refine wp_ls ?_ (ih (i + 1) (by omega) (by omega))
          rw [e1, e2]
          repeat' (first | exact LE_0 | refine LE_s rfl ?_ | refine LE_s (I_c (by first | omega | (simp only [sm]; omega))) ?_ | refine LE_s (J_c (by first | omega | exact Int.pow_succ _ _ | exact (Int.pow_succ _ _).symm | exact (Int.pow_zero _).symm | (simp only [sm]; omega))) ?_ | refine LE_n ?_)
        ·
          have e2 : mni (T2 3) (i + 1) = i + 1 := if_pos (by omega)
          skip -- go
          refine wp_iload (pc := 93) dX11_most_93 rfl ?_
          refine wp_istore_n (pc := 95) dX11_most_95 (by decide) ?_
          refine wp_iinc (pc := 96) dX11_most_96 rfl (by decide) ?_
          refine wp_goto (pc := 99) 34 dX11_most_99 (by decide) ?_
          refine wp_ls ?_ (ih (i + 1) (by omega) (by omega))
          rw [e1, e2]
          repeat' (first | exact LE_0 | refine LE_s rfl ?_ | refine LE_s (I_c (by first | omega | (simp only [sm]; omega))) ?_ | refine LE_s (J_c (by first | omega | exact Int.pow_succ _ _ | exact (Int.pow_succ _ _).symm | exact (Int.pow_zero _).symm | (simp only [sm]; omega))) ?_ | refine LE_n ?_)
theorem sp_D_most (K : DA hp D r s Tr z Z T U tx rw rt hs ss KT) (hI : TI T N) (hH : HS T) (hb : T 7 0 < 1900000000) (ry : InR y) : Sp g MX11_most (rm 7 0 0) [.ref D, .int (I y)] hp (Eff (.int (I (if 0 ≤ y ∧ y ≤ 99 then (if N = 0 then -2 else ((mxi (runT (stl rt) T N y.toNat 3) (N - 1) : Nat) : Int)) else -1))) (fun hp2 => DX hp2 D T U tx (if (0 ≤ y ∧ y ≤ 99) ∧ ¬ N = 0 then [runT (stl rt) T N y.toNat 3 (mxi (runT (stl rt) T N y.toNat 3) (N - 1) : Nat), ((mni (runT (stl rt) T N y.toNat 3) (N - 1) : Nat) : Int)] else rw) rt hs ss KT ∧ SO hp hp2 D (D + 171))) := by
  obtain ⟨h8, hN⟩ := hI.men
  refine Sp_mk rfl (Nat.le_of_ble_eq_true rfl) ?_
  show wp g _ _ _ 0 0 0 [some (.ref D), some (.int (I y)), none, none, none] [] hp
  have O := SO.rf (hp := hp) (lo := D) (hi := D + 171)
  refine wp_iload_n (pc := 0) dX11_most_0 rfl ?_
  refine wp_Sp (pc := 1) dX11_most_1 cl_X11_253 (sp_D_isAhead (by first | assumption | omega | exact K.to | exact K.tr | exact K.to.2.1 | exact K.to.2.2.1 | exact K.to.2.2.2.1 | exact K.to.2.2.2.2.1 | exact K.to.2.2.2.2.2.1 | exact K.to.2.2.2.2.2.2.1 | exact K.to.2.2.2.2.2.2.2 | exact K.tr.2.1 | exact K.tr.2.2.1 | exact K.tr.2.2.2.1 | exact K.tr.2.2.2.2.1 | exact K.tr.2.2.2.2.2.1 | exact K.tr.2.2.2.2.2.2.1 | exact K.tr.2.2.2.2.2.2.2)) rfl rfl (by decide) (Nat.le_of_ble_eq_true rfl) ?_
  first | refine wp_ifb_ne (pc := 4) 9 dX11_most_4 (by decide) (fun c4 => ?_) (fun c4 => ?_) | refine wp_if_ne (pc := 4) 9 dX11_most_4 (by decide) (by first | omega | exact TI.i5 (by assumption) | exact TI.i3 (by assumption) | exact TI.i2 (by assumption) | exact TI.i1 (by assumption) | exact TI.i0 (by assumption) | exact TI.i4 (by assumption) | exact TI.i6 (by assumption) | exact TI.i7 (by assumption)) (fun c4 => ?_) (fun c4 => ?_)
  ·
    rw [if_pos c4] -- go
    refine wp_aload_n (pc := 9) dX11_most_9 rfl ?_
    refine wp_getf (pc := 10) dX11_most_10 gf_X11_26 K.ob (by rfl) ?_
    refine wp_getf (pc := 13) dX11_most_13 gf_X11_110 (by first | exact K.ob | exact K.to.1 | exact K.tr.1 | exact K.to.2.1 | exact K.to.2.2.1 | exact K.to.2.2.2.1 | exact K.to.2.2.2.2.1 | exact K.to.2.2.2.2.2.1 | exact K.to.2.2.2.2.2.2.1 | exact K.to.2.2.2.2.2.2.2 | exact K.tr.2.1 | exact K.tr.2.2.1 | exact K.tr.2.2.2.1 | exact K.tr.2.2.2.2.1 | exact K.tr.2.2.2.2.2.1 | exact K.tr.2.2.2.2.2.2.1 | exact K.tr.2.2.2.2.2.2.2) (by rfl) ?_
    first | refine wp_ifb_ne (pc := 16) 22 dX11_most_16 (by decide) (fun c16 => ?_) (fun c16 => ?_) | refine wp_if_ne (pc := 16) 22 dX11_most_16 (by decide) (by first | omega | exact TI.i5 (by assumption) | exact TI.i3 (by assumption) | exact TI.i2 (by assumption) | exact TI.i1 (by assumption) | exact TI.i0 (by assumption) | exact TI.i4 (by assumption) | exact TI.i6 (by assumption) | exact TI.i7 (by assumption)) (fun c16 => ?_) (fun c16 => ?_)
    ·
      rw [if_neg (show ¬ N = 0 by omega), if_pos (by omega)]
      obtain ⟨n, rfl⟩ := Int.eq_ofNat_of_zero_le c4.1
      have hI2 := runT_I (cs := stl rt) hI n (by omega) -- go
      refine wp_aload_n (pc := 22) dX11_most_22 rfl ?_
      refine wp_iload_n (pc := 23) dX11_most_23 rfl ?_
      refine wd_Vn (pc := 24) dX11_most_24 cl_X11_256 (sp_D_lookAhead K (by assumption) (by assumption) (by assumption) (by omega)) rfl rfl K.o (by rfl) (by decide) (Nat.le_of_ble_eq_true rfl) (fun hp24 e24 => ?_)
      obtain ⟨K, O1⟩ := e24; replace O := SO.tr O O1
      refine wp_iconst (pc := 27) dX11_most_27 ?_
      refine wp_istore_n (pc := 28) dX11_most_28 (by decide) ?_
      refine wp_iconst (pc := 29) dX11_most_29 ?_
      refine wp_istore_n (pc := 30) dX11_most_30 (by decide) ?_
      refine wp_iconst (pc := 31) dX11_most_31 ?_
      refine wp_istore (pc := 32) dX11_most_32 (by decide) ?_
      refine wp_ls ?_ (lp_D_most (y := (n : Int)) hI2 (by omega) K O N 0 (by omega) (by omega))
      repeat' (first | exact LE_0 | refine LE_s rfl ?_ | refine LE_s (I_c (by first | omega | (simp only [sm]; omega))) ?_ | refine LE_s (J_c (by first | omega | exact Int.pow_succ _ _ | exact (Int.pow_succ _ _).symm | exact (Int.pow_zero _).symm | (simp only [sm]; omega))) ?_ | refine LE_n ?_)
    ·
      rw [if_pos (show N = 0 by omega), if_neg (by omega)] -- go
      refine wp_bipush (pc := 19) (y := (-2)) dX11_most_19 (by decide) ?_
      exact wp_ir (pc := 21) dX11_most_21 rfl (by decide) (by decide) (by first | rfl | omega) ⟨⟨_, _, _, _, _, K⟩, O⟩
  ·
    rw [if_neg c4, if_neg (by omega)] -- go
    refine wp_iconst (pc := 7) dX11_most_7 ?_
    exact wp_ir (pc := 8) dX11_most_8 rfl (by decide) (by decide) (by first | rfl | omega) ⟨⟨_, _, _, _, _, K⟩, O⟩
theorem lp_D_longest (hI : TI T N) (hH : HS T) (hb : T 7 0 < 1900000000) (hx : 0 ≤ x ∧ x < N) : ∀ (m i : Nat), 9 < i + m → i ≤ 9 → ∀ (hp2 : Hp) (Tr2 : Nat → Int → Int) (K : DA hp2 D r s Tr2 z Z T U tx rw rt hs ss KT) (O : SO hp hp2 D (D + 171)), wp g MX11_longest (rm 7 0 0) (Eff (.int (I ((lgb (lgf (stl rt) T N x) 9).1 : Int))) (fun hp3 => DX hp3 D T U tx [(lgb (lgf (stl rt) T N x) 9).2, runT (stl rt) T N 12 3 x] rt hs ss KT ∧ SO hp hp3 D (D + 171))) 0 0 34 [some (.ref D), some (.int (I x)), some (.int (I (((lgb (lgf (stl rt) T N x) i).1 : Nat) : Int))), some (.int (I (lgb (lgf (stl rt) T N x) i).2)), some (.int (I ((i + 1 : Nat) : Int)))] [] hp2 := by
  intro m
  induction m with
  | zero => intro i h1 h2; exact absurd h1 (by omega)
  | succ m ih =>
    intro i h1 h2 hp2 Tr2 K O
    obtain ⟨h8, hN⟩ := hI.men
    have hf := lgf_in (cs := stl rt) (x := x) hI hb
    have hf1 := hf (i + 1)
    have q1 := lgb_in _ hf i
    have ef : lgf (stl rt) T N x (i + 1) = runT (stl rt) (dieT T N x ((i + 1 : Nat) : Int)) N 12 3 x := rfl
    have hI2 := runT_I (cs := stl rt) hI 12 (by omega)
    refine wp_iload (pc := 34) dX11_longest_34 rfl ?_
    refine wp_bipush (pc := 36) (y := 9) dX11_longest_36 (by decide) ?_
    refine wp_icmp_gt (pc := 38) 82 dX11_longest_38 (by decide) (by first | omega | exact TI.i5 (by assumption) | exact TI.i3 (by assumption) | exact TI.i2 (by assumption) | exact TI.i1 (by assumption) | exact TI.i0 (by assumption) | exact TI.i4 (by assumption) | exact TI.i6 (by assumption) | exact TI.i7 (by assumption)) (by first | omega | exact TI.i5 (by assumption) | exact TI.i3 (by assumption) | exact TI.i2 (by assumption) | exact TI.i1 (by assumption) | exact TI.i0 (by assumption) | exact TI.i4 (by assumption) | exact TI.i6 (by assumption) | exact TI.i7 (by assumption)) (fun c38 => ?_) (fun c38 => ?_)
    ·
      have e : i = 9 := by omega
      subst e -- go
      refine wp_aload_n (pc := 82) dX11_longest_82 rfl ?_
      refine wp_bipush (pc := 83) (y := 12) dX11_longest_83 (by decide) ?_
      refine wd_Vn (pc := 85) dX11_longest_85 cl_X11_256 (sp_D_lookAhead (n := 12) K hI hH hb (by omega)) rfl rfl K.o (by rfl) (by decide) (Nat.le_of_ble_eq_true rfl) (fun hp85 e85 => ?_)
      obtain ⟨K, O1⟩ := e85; replace O := SO.tr O O1
      refine wp_aload_n (pc := 88) dX11_longest_88 rfl ?_
      refine wp_getf (pc := 89) dX11_longest_89 gf_X11_19 K.ob (by rfl) ?_
      refine wp_iload_n (pc := 92) dX11_longest_92 rfl ?_
      refine wp_i2l (pc := 93) dX11_longest_93 (by first | omega | exact TI.i5 (by assumption) | exact TI.i3 (by assumption) | exact TI.i2 (by assumption) | exact TI.i1 (by assumption) | exact TI.i0 (by assumption) | exact TI.i4 (by assumption) | exact TI.i6 (by assumption) | exact TI.i7 (by assumption)) ?_
      refine wp_aload_n (pc := 94) dX11_longest_94 rfl ?_
      refine wp_getf (pc := 95) dX11_longest_95 gf_X11_30 K.ob (by rfl) ?_
      refine wp_getf (pc := 98) dX11_longest_98 gf_X11_154 (by first | exact K.ob | exact K.to.1 | exact K.tr.1 | exact K.to.2.1 | exact K.to.2.2.1 | exact K.to.2.2.2.1 | exact K.to.2.2.2.2.1 | exact K.to.2.2.2.2.2.1 | exact K.to.2.2.2.2.2.2.1 | exact K.to.2.2.2.2.2.2.2 | exact K.tr.2.1 | exact K.tr.2.2.1 | exact K.tr.2.2.2.1 | exact K.tr.2.2.2.2.1 | exact K.tr.2.2.2.2.2.1 | exact K.tr.2.2.2.2.2.2.1 | exact K.tr.2.2.2.2.2.2.2) (by rfl) ?_
      refine wp_iload_n (pc := 101) dX11_longest_101 rfl ?_
      refine wp_iald (pc := 102) dX11_longest_102 (by first | exact K.ob | exact K.to.1 | exact K.tr.1 | exact K.to.2.1 | exact K.to.2.2.1 | exact K.to.2.2.2.1 | exact K.to.2.2.2.2.1 | exact K.to.2.2.2.2.2.1 | exact K.to.2.2.2.2.2.2.1 | exact K.to.2.2.2.2.2.2.2 | exact K.tr.2.1 | exact K.tr.2.2.1 | exact K.tr.2.2.2.1 | exact K.tr.2.2.2.2.1 | exact K.tr.2.2.2.2.2.1 | exact K.tr.2.2.2.2.2.2.1 | exact K.tr.2.2.2.2.2.2.2) (by omega) (by omega) (by decide) ?_
      refine wp_i2l (pc := 103) dX11_longest_103 (by first | omega | exact TI.i5 (by assumption) | exact TI.i3 (by assumption) | exact TI.i2 (by assumption) | exact TI.i1 (by assumption) | exact TI.i0 (by assumption) | exact TI.i4 (by assumption) | exact TI.i6 (by assumption) | exact TI.i7 (by assumption)) ?_
      refine wd_Vn (pc := 104) dX11_longest_104 cl_X11_204 (sp_Row_tell_ K.ro) rfl rfl K.ro.o (by rfl) (by decide) (Nat.le_of_ble_eq_true rfl) (fun hp104 e104 => ?_)
      obtain ⟨h104, o104⟩ := e104
      replace O := O.inn o104 (by omega) (by omega)
      replace K := K.uRo h104 o104
      refine wp_iload_n (pc := 107) dX11_longest_107 rfl ?_
      exact wp_ir (pc := 108) dX11_longest_108 rfl (by decide) (by decide) (by first | rfl | omega) ⟨⟨_, _, _, _, _, K⟩, O⟩
    ·
      refine wp_aload_n (pc := 41) dX11_longest_41 rfl ?_
      refine wp_iload_n (pc := 42) dX11_longest_42 rfl ?_
      refine wp_iload (pc := 43) dX11_longest_43 rfl ?_
      refine wp_bipush (pc := 45) (y := 12) dX11_longest_45 (by decide) ?_
      refine wd_Vn (pc := 47) dX11_longest_47 cl_X11_259 (sp_D_lookAheadWithDeath (n := 12) K hI hH hb (by omega) (by omega) (by omega)) rfl rfl K.o (by rfl) (by decide) (Nat.le_of_ble_eq_true rfl) (fun hp47 e47 => ?_)
      obtain ⟨K, O1⟩ := e47; replace O := SO.tr O O1
      refine wp_aload_n (pc := 50) dX11_longest_50 rfl ?_
      refine wp_getf (pc := 51) dX11_longest_51 gf_X11_30 K.ob (by rfl) ?_
      refine wp_getf (pc := 54) dX11_longest_54 gf_X11_154 (by first | exact K.ob | exact K.to.1 | exact K.tr.1 | exact K.to.2.1 | exact K.to.2.2.1 | exact K.to.2.2.2.1 | exact K.to.2.2.2.2.1 | exact K.to.2.2.2.2.2.1 | exact K.to.2.2.2.2.2.2.1 | exact K.to.2.2.2.2.2.2.2 | exact K.tr.2.1 | exact K.tr.2.2.1 | exact K.tr.2.2.2.1 | exact K.tr.2.2.2.2.1 | exact K.tr.2.2.2.2.2.1 | exact K.tr.2.2.2.2.2.2.1 | exact K.tr.2.2.2.2.2.2.2) (by rfl) ?_
      refine wp_iload_n (pc := 57) dX11_longest_57 rfl ?_
      refine wp_iald (pc := 58) dX11_longest_58 (by first | exact K.ob | exact K.to.1 | exact K.tr.1 | exact K.to.2.1 | exact K.to.2.2.1 | exact K.to.2.2.2.1 | exact K.to.2.2.2.2.1 | exact K.to.2.2.2.2.2.1 | exact K.to.2.2.2.2.2.2.1 | exact K.to.2.2.2.2.2.2.2 | exact K.tr.2.1 | exact K.tr.2.2.1 | exact K.tr.2.2.2.1 | exact K.tr.2.2.2.2.1 | exact K.tr.2.2.2.2.2.1 | exact K.tr.2.2.2.2.2.2.1 | exact K.tr.2.2.2.2.2.2.2) (by omega) (by omega) (by decide) ?_
      refine wp_iload_n (pc := 59) dX11_longest_59 rfl ?_
      refine wp_icmp_le (pc := 60) 76 dX11_longest_60 (by decide) (by first | omega | exact TI.i5 (by assumption) | exact TI.i3 (by assumption) | exact TI.i2 (by assumption) | exact TI.i1 (by assumption) | exact TI.i0 (by assumption) | exact TI.i4 (by assumption) | exact TI.i6 (by assumption) | exact TI.i7 (by assumption)) (by first | omega | exact TI.i5 (by assumption) | exact TI.i3 (by assumption) | exact TI.i2 (by assumption) | exact TI.i1 (by assumption) | exact TI.i0 (by assumption) | exact TI.i4 (by assumption) | exact TI.i6 (by assumption) | exact TI.i7 (by assumption)) (fun c60 => ?_) (fun c60 => ?_)
      ·
        have e1 : lgb (lgf (stl rt) T N x) (i + 1) = lgb (lgf (stl rt) T N x) i := if_neg (by omega)
        skip -- go
        refine wp_iinc (pc := 76) dX11_longest_76 rfl (by decide) ?_
        refine wp_goto (pc := 79) 34 dX11_longest_79 (by decide) ?_
        refine wp_ls ?_ (ih (i + 1) (by omega) (by omega) _ _ K O)
        rw [e1]
        repeat' (first | exact LE_0 | refine LE_s rfl ?_ | refine LE_s (I_c (by first | omega | (simp only [sm]; omega))) ?_ | refine LE_s (J_c (by first | omega | exact Int.pow_succ _ _ | exact (Int.pow_succ _ _).symm | exact (Int.pow_zero _).symm | (simp only [sm]; omega))) ?_ | refine LE_n ?_)
      ·
        have e1 : lgb (lgf (stl rt) T N x) (i + 1) = (i + 1, lgf (stl rt) T N x (i + 1)) := if_pos (by omega)
        skip -- go
        refine wp_iload (pc := 63) dX11_longest_63 rfl ?_
        refine wp_istore_n (pc := 65) dX11_longest_65 (by decide) ?_
        refine wp_aload_n (pc := 66) dX11_longest_66 rfl ?_
        refine wp_getf (pc := 67) dX11_longest_67 gf_X11_30 K.ob (by rfl) ?_
        refine wp_getf (pc := 70) dX11_longest_70 gf_X11_154 (by first | exact K.ob | exact K.to.1 | exact K.tr.1 | exact K.to.2.1 | exact K.to.2.2.1 | exact K.to.2.2.2.1 | exact K.to.2.2.2.2.1 | exact K.to.2.2.2.2.2.1 | exact K.to.2.2.2.2.2.2.1 | exact K.to.2.2.2.2.2.2.2 | exact K.tr.2.1 | exact K.tr.2.2.1 | exact K.tr.2.2.2.1 | exact K.tr.2.2.2.2.1 | exact K.tr.2.2.2.2.2.1 | exact K.tr.2.2.2.2.2.2.1 | exact K.tr.2.2.2.2.2.2.2) (by rfl) ?_
        refine wp_iload_n (pc := 73) dX11_longest_73 rfl ?_
        refine wp_iald (pc := 74) dX11_longest_74 (by first | exact K.ob | exact K.to.1 | exact K.tr.1 | exact K.to.2.1 | exact K.to.2.2.1 | exact K.to.2.2.2.1 | exact K.to.2.2.2.2.1 | exact K.to.2.2.2.2.2.1 | exact K.to.2.2.2.2.2.2.1 | exact K.to.2.2.2.2.2.2.2 | exact K.tr.2.1 | exact K.tr.2.2.1 | exact K.tr.2.2.2.1 | exact K.tr.2.2.2.2.1 | exact K.tr.2.2.2.2.2.1 | exact K.tr.2.2.2.2.2.2.1 | exact K.tr.2.2.2.2.2.2.2) (by omega) (by omega) (by decide) ?_
        refine wp_istore_n (pc := 75) dX11_longest_75 (by decide) ?_
        refine wp_iinc (pc := 76) dX11_longest_76 rfl (by decide) ?_
        refine wp_goto (pc := 79) 34 dX11_longest_79 (by decide) ?_
        refine wp_ls ?_ (ih (i + 1) (by omega) (by omega) _ _ K O)
        rw [e1]
        repeat' (first | exact LE_0 | refine LE_s rfl ?_ | refine LE_s (I_c (by first | omega | (simp only [sm]; omega))) ?_ | refine LE_s (J_c (by first | omega | exact Int.pow_succ _ _ | exact (Int.pow_succ _ _).symm | exact (Int.pow_zero _).symm | (simp only [sm]; omega))) ?_ | refine LE_n ?_)
theorem sp_D_longest (K : DA hp D r s Tr z Z T U tx rw rt hs ss KT) (hI : TI T N) (hH : HS T) (hb : T 7 0 < 1900000000) (rx : InR x) : Sp g MX11_longest (rm 7 0 0) [.ref D, .int (I x)] hp (Eff (.int (I (if 0 ≤ x ∧ x < N then (if T 5 x = 0 then ((lgb (lgf (stl rt) T N x) 9).1 : Int) else -2) else -1))) (fun hp2 => DX hp2 D T U tx (if 0 ≤ x ∧ x < N ∧ T 5 x = 0 then [(lgb (lgf (stl rt) T N x) 9).2, runT (stl rt) T N 12 3 x] else rw) rt hs ss KT ∧ SO hp hp2 D (D + 171))) := by
  obtain ⟨h8, hN⟩ := hI.men
  refine Sp_mk rfl (Nat.le_of_ble_eq_true rfl) ?_
  show wp g _ _ _ 0 0 0 [some (.ref D), some (.int (I x)), none, none, none] [] hp
  have O := SO.rf (hp := hp) (lo := D) (hi := D + 171)
  refine wp_aload_n (pc := 0) dX11_longest_0 rfl ?_
  refine wp_getf (pc := 1) dX11_longest_1 gf_X11_26 K.ob (by rfl) ?_
  refine wp_iload_n (pc := 4) dX11_longest_4 rfl ?_
  refine wd_Vp (pc := 5) dX11_longest_5 cl_X11_148 (sp_Town_has (by first | assumption | omega | exact K.to | exact K.tr | exact K.to.2.1 | exact K.to.2.2.1 | exact K.to.2.2.2.1 | exact K.to.2.2.2.2.1 | exact K.to.2.2.2.2.2.1 | exact K.to.2.2.2.2.2.2.1 | exact K.to.2.2.2.2.2.2.2 | exact K.tr.2.1 | exact K.tr.2.2.1 | exact K.tr.2.2.2.1 | exact K.tr.2.2.2.2.1 | exact K.tr.2.2.2.2.2.1 | exact K.tr.2.2.2.2.2.2.1 | exact K.tr.2.2.2.2.2.2.2) (by first | assumption | omega | exact K.to | exact K.tr | exact K.to.2.1 | exact K.to.2.2.1 | exact K.to.2.2.2.1 | exact K.to.2.2.2.2.1 | exact K.to.2.2.2.2.2.1 | exact K.to.2.2.2.2.2.2.1 | exact K.to.2.2.2.2.2.2.2 | exact K.tr.2.1 | exact K.tr.2.2.1 | exact K.tr.2.2.2.1 | exact K.tr.2.2.2.2.1 | exact K.tr.2.2.2.2.2.1 | exact K.tr.2.2.2.2.2.2.1 | exact K.tr.2.2.2.2.2.2.2) (by first | assumption | omega | exact K.to | exact K.tr | exact K.to.2.1 | exact K.to.2.2.1 | exact K.to.2.2.2.1 | exact K.to.2.2.2.2.1 | exact K.to.2.2.2.2.2.1 | exact K.to.2.2.2.2.2.2.1 | exact K.to.2.2.2.2.2.2.2 | exact K.tr.2.1 | exact K.tr.2.2.1 | exact K.tr.2.2.2.1 | exact K.tr.2.2.2.2.1 | exact K.tr.2.2.2.2.2.1 | exact K.tr.2.2.2.2.2.2.1 | exact K.tr.2.2.2.2.2.2.2)) rfl rfl (by first | exact K.to.o | exact K.tr.o | exact K.k0.o | exact K.k1.o) (by rfl) (by decide) (Nat.le_of_ble_eq_true rfl) ?_
  first | refine wp_ifb_ne (pc := 8) 13 dX11_longest_8 (by decide) (fun c8 => ?_) (fun c8 => ?_) | refine wp_if_ne (pc := 8) 13 dX11_longest_8 (by decide) (by first | omega | exact TI.i5 (by assumption) | exact TI.i3 (by assumption) | exact TI.i2 (by assumption) | exact TI.i1 (by assumption) | exact TI.i0 (by assumption) | exact TI.i4 (by assumption) | exact TI.i6 (by assumption) | exact TI.i7 (by assumption)) (fun c8 => ?_) (fun c8 => ?_)
  ·
    rw [if_pos c8] -- go
    refine wp_aload_n (pc := 13) dX11_longest_13 rfl ?_
    refine wp_getf (pc := 14) dX11_longest_14 gf_X11_26 K.ob (by rfl) ?_
    refine wp_iload_n (pc := 17) dX11_longest_17 rfl ?_
    refine wd_Vp (pc := 18) dX11_longest_18 cl_X11_244 (sp_Town_lives (by first | assumption | omega | exact K.to | exact K.tr | exact K.to.2.1 | exact K.to.2.2.1 | exact K.to.2.2.2.1 | exact K.to.2.2.2.2.1 | exact K.to.2.2.2.2.2.1 | exact K.to.2.2.2.2.2.2.1 | exact K.to.2.2.2.2.2.2.2 | exact K.tr.2.1 | exact K.tr.2.2.1 | exact K.tr.2.2.2.1 | exact K.tr.2.2.2.2.1 | exact K.tr.2.2.2.2.2.1 | exact K.tr.2.2.2.2.2.2.1 | exact K.tr.2.2.2.2.2.2.2) (by first | assumption | omega | exact K.to | exact K.tr | exact K.to.2.1 | exact K.to.2.2.1 | exact K.to.2.2.2.1 | exact K.to.2.2.2.2.1 | exact K.to.2.2.2.2.2.1 | exact K.to.2.2.2.2.2.2.1 | exact K.to.2.2.2.2.2.2.2 | exact K.tr.2.1 | exact K.tr.2.2.1 | exact K.tr.2.2.2.1 | exact K.tr.2.2.2.2.1 | exact K.tr.2.2.2.2.2.1 | exact K.tr.2.2.2.2.2.2.1 | exact K.tr.2.2.2.2.2.2.2) (by first | assumption | omega | exact K.to | exact K.tr | exact K.to.2.1 | exact K.to.2.2.1 | exact K.to.2.2.2.1 | exact K.to.2.2.2.2.1 | exact K.to.2.2.2.2.2.1 | exact K.to.2.2.2.2.2.2.1 | exact K.to.2.2.2.2.2.2.2 | exact K.tr.2.1 | exact K.tr.2.2.1 | exact K.tr.2.2.2.1 | exact K.tr.2.2.2.2.1 | exact K.tr.2.2.2.2.2.1 | exact K.tr.2.2.2.2.2.2.1 | exact K.tr.2.2.2.2.2.2.2) (by first | assumption | omega | exact K.to | exact K.tr | exact K.to.2.1 | exact K.to.2.2.1 | exact K.to.2.2.2.1 | exact K.to.2.2.2.2.1 | exact K.to.2.2.2.2.2.1 | exact K.to.2.2.2.2.2.2.1 | exact K.to.2.2.2.2.2.2.2 | exact K.tr.2.1 | exact K.tr.2.2.1 | exact K.tr.2.2.2.1 | exact K.tr.2.2.2.2.1 | exact K.tr.2.2.2.2.2.1 | exact K.tr.2.2.2.2.2.2.1 | exact K.tr.2.2.2.2.2.2.2)) rfl rfl (by first | exact K.to.o | exact K.tr.o | exact K.k0.o | exact K.k1.o) (by rfl) (by decide) (Nat.le_of_ble_eq_true rfl) ?_
    first | refine wp_ifb_ne (pc := 21) 27 dX11_longest_21 (by decide) (fun c21 => ?_) (fun c21 => ?_) | refine wp_if_ne (pc := 21) 27 dX11_longest_21 (by decide) (by first | omega | exact TI.i5 (by assumption) | exact TI.i3 (by assumption) | exact TI.i2 (by assumption) | exact TI.i1 (by assumption) | exact TI.i0 (by assumption) | exact TI.i4 (by assumption) | exact TI.i6 (by assumption) | exact TI.i7 (by assumption)) (fun c21 => ?_) (fun c21 => ?_)
    ·
      rw [if_pos c21, if_pos (by omega)] -- go
      refine wp_iconst (pc := 27) dX11_longest_27 ?_
      refine wp_istore_n (pc := 28) dX11_longest_28 (by decide) ?_
      refine wp_iconst (pc := 29) dX11_longest_29 ?_
      refine wp_istore_n (pc := 30) dX11_longest_30 (by decide) ?_
      refine wp_iconst (pc := 31) dX11_longest_31 ?_
      refine wp_istore (pc := 32) dX11_longest_32 (by decide) ?_
      refine wp_ls ?_ (lp_D_longest hI hH hb c8 10 0 (by omega) (by omega) _ _ K O)
      repeat' (first | exact LE_0 | refine LE_s rfl ?_ | refine LE_s (I_c (by first | omega | (simp only [sm]; omega))) ?_ | refine LE_s (J_c (by first | omega | exact Int.pow_succ _ _ | exact (Int.pow_succ _ _).symm | exact (Int.pow_zero _).symm | (simp only [sm]; omega))) ?_ | refine LE_n ?_)
    ·
      rw [if_neg c21, if_neg (by omega)] -- go
      refine wp_bipush (pc := 24) (y := (-2)) dX11_longest_24 (by decide) ?_
      exact wp_ir (pc := 26) dX11_longest_26 rfl (by decide) (by decide) (by first | rfl | omega) ⟨⟨_, _, _, _, _, K⟩, O⟩
  ·
    rw [if_neg c8, if_neg (by omega)] -- go
    refine wp_iconst (pc := 11) dX11_longest_11 ?_
    exact wp_ir (pc := 12) dX11_longest_12 rfl (by decide) (by decide) (by first | rfl | omega) ⟨⟨_, _, _, _, _, K⟩, O⟩
/-! together -/
theorem lp_D_hon (hI : TI T N) (hH : HS T) (hb : T 7 0 < 1900000000) (hn : 1 ≤ n ∧ n ≤ 9) (hk : k < 64) : ∀ (m i : Nat), N < i + m → i ≤ N → ∀ (hp2 : Hp) (K : DA hp2 D r s (dieS T N k (n : Int) i) z Z T U tx rw rt hs ss KT) (O : SO hp hp2 D (D + 171)), wp g MX11_honourIfDead (rm 6 0 0) (Eff (.int (I (tgf (stl rt) T N (n : Int) k))) (fun hp3 => DX hp3 D T U tx rw rt hs ss KT ∧ SO hp hp3 D (D + 171))) 0 0 13 [some (.ref D), some (.int (I (k : Int))), some (.int (I (n : Int))), some (.int (I (i : Int)))] [] hp2 := by
  intro m
  induction m with
  | zero => intro i h1 h2; exact absurd h1 (by omega)
  | succ m ih =>
    intro i h1 h2 hp2 K O
    obtain ⟨h8, hN⟩ := hI.men
    have hI2 := dieS_I (s := k) (y := (n : Int)) hI i
    have hH2 := dieS_HS (N := N) (s := k) (y := (n : Int)) hH i
    have h82 := hI2.men.1
    have h72 : dieS T N k (n : Int) i 7 0 = T 7 0 := by rw [dieS_7]
    have hI3 := runT_I (cs := stl rt) hI2 n (by omega)
    refine wp_iload_n (pc := 13) dX11_honourIfDead_13 rfl ?_
    refine wp_aload_n (pc := 14) dX11_honourIfDead_14 rfl ?_
    refine wp_getf (pc := 15) dX11_honourIfDead_15 gf_X11_30 K.ob (by rfl) ?_
    refine wp_getf (pc := 18) dX11_honourIfDead_18 gf_X11_110 (by first | exact K.ob | exact K.to.1 | exact K.tr.1 | exact K.to.2.1 | exact K.to.2.2.1 | exact K.to.2.2.2.1 | exact K.to.2.2.2.2.1 | exact K.to.2.2.2.2.2.1 | exact K.to.2.2.2.2.2.2.1 | exact K.to.2.2.2.2.2.2.2 | exact K.tr.2.1 | exact K.tr.2.2.1 | exact K.tr.2.2.2.1 | exact K.tr.2.2.2.2.1 | exact K.tr.2.2.2.2.2.1 | exact K.tr.2.2.2.2.2.2.1 | exact K.tr.2.2.2.2.2.2.2) (by rfl) ?_
    refine wp_icmp_ge (pc := 21) 48 dX11_honourIfDead_21 (by decide) (by first | omega | exact TI.i5 (by assumption) | exact TI.i3 (by assumption) | exact TI.i2 (by assumption) | exact TI.i1 (by assumption) | exact TI.i0 (by assumption) | exact TI.i4 (by assumption) | exact TI.i6 (by assumption) | exact TI.i7 (by assumption)) (by first | omega | exact TI.i5 (by assumption) | exact TI.i3 (by assumption) | exact TI.i2 (by assumption) | exact TI.i1 (by assumption) | exact TI.i0 (by assumption) | exact TI.i4 (by assumption) | exact TI.i6 (by assumption) | exact TI.i7 (by assumption)) (fun c21 => ?_) (fun c21 => ?_)
    ·
      have e : i = N := by omega
      subst e -- go
      refine wp_aload_n (pc := 48) dX11_honourIfDead_48 rfl ?_
      refine wp_getf (pc := 49) dX11_honourIfDead_49 gf_X11_36 K.ob (by rfl) ?_
      refine wp_aload_n (pc := 52) dX11_honourIfDead_52 rfl ?_
      refine wp_getf (pc := 53) dX11_honourIfDead_53 gf_X11_30 K.ob (by rfl) ?_
      refine wp_aload_n (pc := 56) dX11_honourIfDead_56 rfl ?_
      refine wp_getf (pc := 57) dX11_honourIfDead_57 gf_X11_91 K.ob (by rfl) ?_
      refine wp_iload_n (pc := 60) dX11_honourIfDead_60 rfl ?_
      refine wd_Vs (pc := 61) dX11_honourIfDead_61 cl_X11_197 (sp_Clock_run (by first | exact K.to | exact K.tr) (by first | assumption | omega) (by first | assumption | omega) (by first | assumption | omega) (by first | assumption | omega) K.cl K.ru (by omega) (by have := K.rs; omega) (by have := K.rs; omega)) rfl rfl K.cl.o (by rfl) (by decide) (Nat.le_of_ble_eq_true rfl) (fun hp61 e61 => ?_)
      obtain ⟨t61, c61, u61, e1, o61⟩ := e61
      replace O := O.cr e1 o61 (by have := K.rs; omega) (by omega) (by omega)
      first | replace K := K.cTo t61 c61 u61 o61 | replace K := K.cTr t61 c61 u61 o61
      refine wp_pop (pc := 64) dX11_honourIfDead_64 rfl ?_
      refine wp_aload_n (pc := 65) dX11_honourIfDead_65 rfl ?_
      refine wp_getf (pc := 66) dX11_honourIfDead_66 gf_X11_30 K.ob (by rfl) ?_
      refine wp_aload_n (pc := 69) dX11_honourIfDead_69 rfl ?_
      refine wp_getf (pc := 70) dX11_honourIfDead_70 gf_X11_30 K.ob (by rfl) ?_
      refine wp_getf (pc := 73) dX11_honourIfDead_73 gf_X11_154 (by first | exact K.ob | exact K.to.1 | exact K.tr.1 | exact K.to.2.1 | exact K.to.2.2.1 | exact K.to.2.2.2.1 | exact K.to.2.2.2.2.1 | exact K.to.2.2.2.2.2.1 | exact K.to.2.2.2.2.2.2.1 | exact K.to.2.2.2.2.2.2.2 | exact K.tr.2.1 | exact K.tr.2.2.1 | exact K.tr.2.2.2.1 | exact K.tr.2.2.2.2.1 | exact K.tr.2.2.2.2.2.1 | exact K.tr.2.2.2.2.2.2.1 | exact K.tr.2.2.2.2.2.2.2) (by rfl) ?_
      refine wd_Vp (pc := 76) dX11_honourIfDead_76 cl_X11_189 (sp_Town_sum (by first | assumption | omega | exact K.to | exact K.tr | exact K.to.2.1 | exact K.to.2.2.1 | exact K.to.2.2.2.1 | exact K.to.2.2.2.2.1 | exact K.to.2.2.2.2.2.1 | exact K.to.2.2.2.2.2.2.1 | exact K.to.2.2.2.2.2.2.2 | exact K.tr.2.1 | exact K.tr.2.2.1 | exact K.tr.2.2.2.1 | exact K.tr.2.2.2.2.1 | exact K.tr.2.2.2.2.2.1 | exact K.tr.2.2.2.2.2.2.1 | exact K.tr.2.2.2.2.2.2.2) (by first | assumption | omega | exact K.to | exact K.tr | exact K.to.2.1 | exact K.to.2.2.1 | exact K.to.2.2.2.1 | exact K.to.2.2.2.2.1 | exact K.to.2.2.2.2.2.1 | exact K.to.2.2.2.2.2.2.1 | exact K.to.2.2.2.2.2.2.2 | exact K.tr.2.1 | exact K.tr.2.2.1 | exact K.tr.2.2.2.1 | exact K.tr.2.2.2.2.1 | exact K.tr.2.2.2.2.2.1 | exact K.tr.2.2.2.2.2.2.1 | exact K.tr.2.2.2.2.2.2.2) (by first | assumption | omega | exact K.to | exact K.tr | exact K.to.2.1 | exact K.to.2.2.1 | exact K.to.2.2.2.1 | exact K.to.2.2.2.2.1 | exact K.to.2.2.2.2.2.1 | exact K.to.2.2.2.2.2.2.1 | exact K.to.2.2.2.2.2.2.2 | exact K.tr.2.1 | exact K.tr.2.2.1 | exact K.tr.2.2.2.1 | exact K.tr.2.2.2.2.1 | exact K.tr.2.2.2.2.2.1 | exact K.tr.2.2.2.2.2.2.1 | exact K.tr.2.2.2.2.2.2.2) (by first | assumption | omega | exact K.to | exact K.tr | exact K.to.2.1 | exact K.to.2.2.1 | exact K.to.2.2.2.1 | exact K.to.2.2.2.2.1 | exact K.to.2.2.2.2.2.1 | exact K.to.2.2.2.2.2.2.1 | exact K.to.2.2.2.2.2.2.2 | exact K.tr.2.1 | exact K.tr.2.2.1 | exact K.tr.2.2.2.1 | exact K.tr.2.2.2.2.1 | exact K.tr.2.2.2.2.2.1 | exact K.tr.2.2.2.2.2.2.1 | exact K.tr.2.2.2.2.2.2.2) (by first | assumption | omega | exact K.to | exact K.tr | exact K.to.2.1 | exact K.to.2.2.1 | exact K.to.2.2.2.1 | exact K.to.2.2.2.2.1 | exact K.to.2.2.2.2.2.1 | exact K.to.2.2.2.2.2.2.1 | exact K.to.2.2.2.2.2.2.2 | exact K.tr.2.1 | exact K.tr.2.2.1 | exact K.tr.2.2.2.1 | exact K.tr.2.2.2.2.1 | exact K.tr.2.2.2.2.2.1 | exact K.tr.2.2.2.2.2.2.1 | exact K.tr.2.2.2.2.2.2.2)) rfl rfl (by first | exact K.to.o | exact K.tr.o | exact K.k0.o | exact K.k1.o) (by rfl) (by decide) (Nat.le_of_ble_eq_true rfl) ?_
      exact wp_ir (pc := 79) dX11_honourIfDead_79 rfl (by decide) (by decide) (by first | rfl | omega) ⟨⟨_, _, _, _, _, K⟩, O⟩
    ·
      refine wp_iload_n (pc := 24) dX11_honourIfDead_24 rfl ?_
      refine wp_iload_n (pc := 25) dX11_honourIfDead_25 rfl ?_
      refine wp_Sp (pc := 26) dX11_honourIfDead_26 cl_X11_274 (sp_D_isIn (by omega) (by omega)) rfl rfl (by decide) (Nat.le_of_ble_eq_true rfl) ?_
      first | refine wp_ifb_eq (pc := 29) 42 dX11_honourIfDead_29 (by decide) (fun c29 => ?_) (fun c29 => ?_) | refine wp_if_eq (pc := 29) 42 dX11_honourIfDead_29 (by decide) (by first | omega | exact TI.i5 (by assumption) | exact TI.i3 (by assumption) | exact TI.i2 (by assumption) | exact TI.i1 (by assumption) | exact TI.i0 (by assumption) | exact TI.i4 (by assumption) | exact TI.i6 (by assumption) | exact TI.i7 (by assumption)) (fun c29 => ?_) (fun c29 => ?_)
      ·
        have e1 : dieS T N k (n : Int) (i + 1) = dieS T N k (n : Int) i := if_neg (by simpa using c29)
        rw [← e1] at K -- go
        refine wp_iinc (pc := 42) dX11_honourIfDead_42 rfl (by decide) ?_
        refine wp_goto (pc := 45) 13 dX11_honourIfDead_45 (by decide) ?_
        refine wp_ls ?_ (ih (i + 1) (by omega) (by omega) _ K O)
        repeat' (first | exact LE_0 | refine LE_s rfl ?_ | refine LE_s (I_c (by first | omega | (simp only [sm]; omega))) ?_ | refine LE_s (J_c (by first | omega | exact Int.pow_succ _ _ | exact (Int.pow_succ _ _).symm | exact (Int.pow_zero _).symm | (simp only [sm]; omega))) ?_ | refine LE_n ?_)
      ·
        have e1 : dieS T N k (n : Int) (i + 1) = dieT (dieS T N k (n : Int) i) N (i : Int) (n : Int) := if_pos c29
        skip -- go
        refine wp_aload_n (pc := 32) dX11_honourIfDead_32 rfl ?_
        refine wp_getf (pc := 33) dX11_honourIfDead_33 gf_X11_30 K.ob (by rfl) ?_
        refine wp_iload_n (pc := 36) dX11_honourIfDead_36 rfl ?_
        refine wp_iload_n (pc := 37) dX11_honourIfDead_37 rfl ?_
        refine wd_Vs (pc := 38) dX11_honourIfDead_38 cl_X11_211 (sp_Town_letDie (by first | exact K.to | exact K.tr) (by first | assumption | omega) (by first | assumption | omega) (by first | assumption | omega)) rfl rfl (by first | exact K.to.o | exact K.tr.o | exact K.k0.o | exact K.k1.o) (by rfl) (by decide) (Nat.le_of_ble_eq_true rfl) (fun hp38 e38 => ?_)
        obtain ⟨h38, o38⟩ := e38
        replace O := O.inn o38 (by omega) (by omega)
        first | replace K := K.uTo h38 o38 | replace K := K.uTr h38 o38
        rw [← e1] at K
        refine wp_pop (pc := 41) dX11_honourIfDead_41 rfl ?_
        refine wp_iinc (pc := 42) dX11_honourIfDead_42 rfl (by decide) ?_
        refine wp_goto (pc := 45) 13 dX11_honourIfDead_45 (by decide) ?_
        refine wp_ls ?_ (ih (i + 1) (by omega) (by omega) _ K O)
        repeat' (first | exact LE_0 | refine LE_s rfl ?_ | refine LE_s (I_c (by first | omega | (simp only [sm]; omega))) ?_ | refine LE_s (J_c (by first | omega | exact Int.pow_succ _ _ | exact (Int.pow_succ _ _).symm | exact (Int.pow_zero _).symm | (simp only [sm]; omega))) ?_ | refine LE_n ?_)
theorem sp_D_honourIfDead (K : DA hp D r s Tr z Z T U tx rw rt hs ss KT) (hI : TI T N) (hH : HS T) (hb : T 7 0 < 1900000000) (hn : 1 ≤ n ∧ n ≤ 9) (hk : k < 64) : Sp g MX11_honourIfDead (rm 6 0 0) [.ref D, .int (I (k : Int)), .int (I (n : Int))] hp (Eff (.int (I (tgf (stl rt) T N (n : Int) k))) (fun hp2 => DX hp2 D T U tx rw rt hs ss KT ∧ SO hp hp2 D (D + 171))) := by
  refine Sp_mk rfl (Nat.le_of_ble_eq_true rfl) ?_
  show wp g _ _ _ 0 0 0 [some (.ref D), some (.int (I (k : Int))), some (.int (I (n : Int))), none] [] hp
  have O := SO.rf (hp := hp) (lo := D) (hi := D + 171)
  refine wp_aload_n (pc := 0) dX11_honourIfDead_0 rfl ?_
  refine wp_getf (pc := 1) dX11_honourIfDead_1 gf_X11_30 K.ob (by rfl) ?_
  refine wp_aload_n (pc := 4) dX11_honourIfDead_4 rfl ?_
  refine wp_getf (pc := 5) dX11_honourIfDead_5 gf_X11_26 K.ob (by rfl) ?_
  refine wd_Vn (pc := 8) dX11_honourIfDead_8 cl_X11_250 (sp_Town_copy K.tr K.to (by omega)) rfl rfl (by first | exact K.to.o | exact K.tr.o | exact K.k0.o | exact K.k1.o) (by rfl) (by decide) (Nat.le_of_ble_eq_true rfl) (fun hp8 e8 => ?_)
  obtain ⟨h8, o8⟩ := e8
  replace O := O.inn o8 (by omega) (by omega)
  replace K := K.uTr h8 o8
  refine wp_iconst (pc := 11) dX11_honourIfDead_11 ?_
  refine wp_istore_n (pc := 12) dX11_honourIfDead_12 (by decide) ?_
  refine wp_ls ?_ (lp_D_hon hI hH hb hn hk (N + 1) 0 (by omega) (by omega) _ K O)
  repeat' (first | exact LE_0 | refine LE_s rfl ?_ | refine LE_s (I_c (by first | omega | (simp only [sm]; omega))) ?_ | refine LE_s (J_c (by first | omega | exact Int.pow_succ _ _ | exact (Int.pow_succ _ _).symm | exact (Int.pow_zero _).symm | (simp only [sm]; omega))) ?_ | refine LE_n ?_)
theorem lv_dd (hN : N ≤ 6) {m : Nat} (hm : m < 64) (hm2 : m < 2 ^ N) : andn m (bits (lv T) N) = 0 ↔ m &&& bits (ddb T) N = 0 := by
  have h : ∀ i, (andn m (bits (lv T) N)).testBit i = (m &&& bits (ddb T) N).testBit i := by
    intro i
    unfold andn
    rw [Nat.testBit_and, Nat.testBit_and, Nat.testBit_xor, bits_test, bits_test]
    by_cases c : i < N
    · have : (63 : Nat).testBit i = true := by
        have h6 : ∀ i : Fin 6, (63 : Nat).testBit i.val = true := by decide
        exact h6 ⟨i, by omega⟩
      rw [this]
      simp [c, ddb]
    · have : m.testBit i = false := Nat.testBit_lt_two_pow (Nat.lt_of_lt_of_le hm2 (Nat.pow_le_pow_right (by decide) (by omega)))
      rw [this]
      rfl
  rw [Nat.eq_of_testBit_eq h]
theorem tgb_up {f : Nat → Int} {E : Nat} {a : Nat} : ∀ b : Nat, a ≤ b → (∀ m, a ≤ m → m < b → ¬ m &&& E = 0) → tgb f E b = tgb f E a
  | 0, h, _ => by rw [show a = 0 by omega]
  | b + 1, h, q => by
    by_cases c : a = b + 1
    · rw [c]
    · have e : tgb f E (b + 1) = tgb f E b := if_neg (fun p => q b (by omega) (by omega) p.1)
      rw [e, tgb_up b (by omega) (fun m h1 h2 => q m h1 (by omega))]
theorem lv_big (hN : N ≤ 6) {m : Nat} (h1 : bits (lv T) N + 1 ≤ m) (h2 : m < 2 ^ N) : ¬ m &&& bits (ddb T) N = 0 := by
  intro h
  have h64 : 2 ^ N ≤ 64 := Nat.pow_le_pow_right (n := 2) (by decide) hN
  have e : m &&& bits (lv T) N = m := by
    apply Nat.eq_of_testBit_eq
    intro i
    rw [Nat.testBit_and, bits_test]
    have hi : (m &&& bits (ddb T) N).testBit i = false := by rw [h]; simp
    rw [Nat.testBit_and, bits_test] at hi
    by_cases c : i < N
    · simp only [c, decide_true, Bool.true_and, ddb] at hi ⊢
      cases q : m.testBit i <;> cases q2 : lv T i <;> simp_all
    · have : m.testBit i = false := Nat.testBit_lt_two_pow (Nat.lt_of_lt_of_le h2 (Nat.pow_le_pow_right (by decide) (by omega)))
      rw [this]
      rfl
  have : m &&& bits (lv T) N ≤ bits (lv T) N := Nat.and_le_right
  omega
theorem lp_D_tog (hI : TI T N) (hH : HS T) (hb : T 7 0 < 1900000000) (hn : 1 ≤ n ∧ n ≤ 9) : ∀ (m i : Nat), (bits (lv T) N + 1) < i + m → i ≤ (bits (lv T) N + 1) → ∀ (hp2 : Hp) (r s : Nat) (Tr : Nat → Int → Int) (z : Int) (Z : Nat → Int → Int) (K : DA hp2 D r s Tr z Z T U tx rw rt hs ss KT) (O : SO hp hp2 D (D + 171)), wp g MX11_together (rm 7 0 0) (Eff (.int (I (tgb (tgf (stl rt) T N (n : Int)) (bits (ddb T) N) (2 ^ N)).2)) (fun hp3 => DX hp3 D T U tx [((tgb (tgf (stl rt) T N (n : Int)) (bits (ddb T) N) (2 ^ N)).1 : Int)] rt hs ss KT ∧ SO hp hp3 D (D + 171))) 0 0 25 [some (.ref D), some (.int (I (n : Int))), some (.int (I ((bits (lv T) N : Nat) : Int))), some (.int (I (tgb (tgf (stl rt) T N (n : Int)) (bits (ddb T) N) i).2)), some (.int (I (((tgb (tgf (stl rt) T N (n : Int)) (bits (ddb T) N) i).1 : Nat) : Int))), some (.int (I (i : Int))), none] [] hp2 := by
  intro m
  induction m with
  | zero => intro i h1 h2; exact absurd h1 (by omega)
  | succ m ih =>
    intro i h1 h2 hp2 r s Tr z Z K O
    obtain ⟨h8, hN⟩ := hI.men
    have hf := tgf_in (cs := stl rt) (y := (n : Int)) hI hb (by omega)
    have hf1 := hf i
    have q1 := tgb_in _ (bits (ddb T) N) hf i
    have hlt := bits_lt (lv T) N
    have h64 : 2 ^ N ≤ 64 := Nat.pow_le_pow_right (n := 2) (by decide) hN
    have eu := tgb_up (f := tgf (stl rt) T N (n : Int)) (E := bits (ddb T) N) (a := bits (lv T) N + 1) (2 ^ N) (by omega) (fun m a b => lv_big hN a b)
    refine wp_iload (pc := 25) dX11_together_25 rfl ?_
    refine wp_iload_n (pc := 27) dX11_together_27 rfl ?_
    refine wp_icmp_gt (pc := 28) 68 dX11_together_28 (by decide) (by first | omega | exact TI.i5 (by assumption) | exact TI.i3 (by assumption) | exact TI.i2 (by assumption) | exact TI.i1 (by assumption) | exact TI.i0 (by assumption) | exact TI.i4 (by assumption) | exact TI.i6 (by assumption) | exact TI.i7 (by assumption)) (by first | omega | exact TI.i5 (by assumption) | exact TI.i3 (by assumption) | exact TI.i2 (by assumption) | exact TI.i1 (by assumption) | exact TI.i0 (by assumption) | exact TI.i4 (by assumption) | exact TI.i6 (by assumption) | exact TI.i7 (by assumption)) (fun c28 => ?_) (fun c28 => ?_)
    ·
      have e : i = bits (lv T) N + 1 := by omega
      rw [eu, ← e] -- go
      refine wp_aload_n (pc := 68) dX11_together_68 rfl ?_
      refine wp_getf (pc := 69) dX11_together_69 gf_X11_19 K.ob (by rfl) ?_
      refine wp_iload (pc := 72) dX11_together_72 rfl ?_
      refine wp_i2l (pc := 74) dX11_together_74 (by first | omega | exact TI.i5 (by assumption) | exact TI.i3 (by assumption) | exact TI.i2 (by assumption) | exact TI.i1 (by assumption) | exact TI.i0 (by assumption) | exact TI.i4 (by assumption) | exact TI.i6 (by assumption) | exact TI.i7 (by assumption)) ?_
      refine wd_Vn (pc := 75) dX11_together_75 cl_X11_272 (sp_Row_tell K.ro) rfl rfl K.ro.o (by rfl) (by decide) (Nat.le_of_ble_eq_true rfl) (fun hp75 e75 => ?_)
      obtain ⟨h75, o75⟩ := e75
      replace O := O.inn o75 (by omega) (by omega)
      replace K := K.uRo h75 o75
      refine wp_iload_n (pc := 78) dX11_together_78 rfl ?_
      exact wp_ir (pc := 79) dX11_together_79 rfl (by decide) (by decide) (by first | rfl | omega) ⟨⟨_, _, _, _, _, K⟩, O⟩
    ·
      refine wp_iload (pc := 31) dX11_together_31 rfl ?_
      refine wp_iload_n (pc := 33) dX11_together_33 rfl ?_
      refine wp_iconst (pc := 34) dX11_together_34 ?_
      refine wp_ixor (pc := 35) dX11_together_35 rfl ?_
      refine wp_iand (pc := 36) dX11_together_36 (I_andn (by omega) (by omega)) ?_
      have hla := lv_dd (T := T) hN (m := i) (by omega) (by omega)
      have han := andn_le (a := i) (b := bits (lv T) N) (by omega)
      first | refine wp_ifb_ne (pc := 37) 62 dX11_together_37 (by decide) (fun c37 => ?_) (fun c37 => ?_) | refine wp_if_ne (pc := 37) 62 dX11_together_37 (by decide) (by first | omega | exact TI.i5 (by assumption) | exact TI.i3 (by assumption) | exact TI.i2 (by assumption) | exact TI.i1 (by assumption) | exact TI.i0 (by assumption) | exact TI.i4 (by assumption) | exact TI.i6 (by assumption) | exact TI.i7 (by assumption)) (fun c37 => ?_) (fun c37 => ?_)
      ·
        have e1 : tgb (tgf (stl rt) T N (n : Int)) (bits (ddb T) N) (i + 1) = tgb (tgf (stl rt) T N (n : Int)) (bits (ddb T) N) i := if_neg (fun p => by have := hla.2 p.1; omega)
        skip -- go
        refine wp_iinc (pc := 62) dX11_together_62 rfl (by decide) ?_
        refine wp_goto (pc := 65) 25 dX11_together_65 (by decide) ?_
        refine wp_ls ?_ (ih (i + 1) (by omega) (by omega) _ _ _ _ _ _ K O)
        rw [e1]
        repeat' (first | exact LE_0 | refine LE_s rfl ?_ | refine LE_s (I_c (by first | omega | (simp only [sm]; omega))) ?_ | refine LE_s (J_c (by first | omega | exact Int.pow_succ _ _ | exact (Int.pow_succ _ _).symm | exact (Int.pow_zero _).symm | (simp only [sm]; omega))) ?_ | refine LE_n ?_)
      ·
        have hz := hla.1 (by omega)
        skip -- go
        refine wp_aload_n (pc := 40) dX11_together_40 rfl ?_
        refine wp_iload (pc := 41) dX11_together_41 rfl ?_
        refine wp_iload_n (pc := 43) dX11_together_43 rfl ?_
        refine wd_Vs (pc := 44) dX11_together_44 cl_X11_269 (sp_D_honourIfDead K (by assumption) (by assumption) (by assumption) (by omega) (by omega)) rfl rfl K.o (by rfl) (by decide) (Nat.le_of_ble_eq_true rfl) (fun hp44 e44 => ?_)
        obtain ⟨⟨r44, s44, Tr44, z44, Z44, K⟩, O1⟩ := e44; replace O := SO.tr O O1
        refine wp_istore (pc := 47) dX11_together_47 (by decide) ?_
        refine wp_iload (pc := 49) dX11_together_49 rfl ?_
        refine wp_iload_n (pc := 51) dX11_together_51 rfl ?_
        refine wp_icmp_le (pc := 52) 62 dX11_together_52 (by decide) (by first | omega | exact TI.i5 (by assumption) | exact TI.i3 (by assumption) | exact TI.i2 (by assumption) | exact TI.i1 (by assumption) | exact TI.i0 (by assumption) | exact TI.i4 (by assumption) | exact TI.i6 (by assumption) | exact TI.i7 (by assumption)) (by first | omega | exact TI.i5 (by assumption) | exact TI.i3 (by assumption) | exact TI.i2 (by assumption) | exact TI.i1 (by assumption) | exact TI.i0 (by assumption) | exact TI.i4 (by assumption) | exact TI.i6 (by assumption) | exact TI.i7 (by assumption)) (fun c52 => ?_) (fun c52 => ?_)
        ·
          have e1 : tgb (tgf (stl rt) T N (n : Int)) (bits (ddb T) N) (i + 1) = tgb (tgf (stl rt) T N (n : Int)) (bits (ddb T) N) i := if_neg (fun p => by have := p.2; omega)
          skip -- go
          refine wp_iinc (pc := 62) dX11_together_62 rfl (by decide) ?_
          refine wp_goto (pc := 65) 25 dX11_together_65 (by decide) ?_
          refine wp_ls ?_ (ih (i + 1) (by omega) (by omega) _ _ _ _ _ _ K O)
          rw [e1]
          repeat' (first | exact LE_0 | refine LE_s rfl ?_ | refine LE_s (I_c (by first | omega | (simp only [sm]; omega))) ?_ | refine LE_s (J_c (by first | omega | exact Int.pow_succ _ _ | exact (Int.pow_succ _ _).symm | exact (Int.pow_zero _).symm | (simp only [sm]; omega))) ?_ | refine LE_n ?_)
        ·
          have e1 : tgb (tgf (stl rt) T N (n : Int)) (bits (ddb T) N) (i + 1) = (i, tgf (stl rt) T N (n : Int) i) := if_pos ⟨hz, by omega⟩
          skip -- go
          refine wp_iload (pc := 55) dX11_together_55 rfl ?_
          refine wp_istore_n (pc := 57) dX11_together_57 (by decide) ?_
          refine wp_iload (pc := 58) dX11_together_58 rfl ?_
          refine wp_istore (pc := 60) dX11_together_60 (by decide) ?_
          refine wp_iinc (pc := 62) dX11_together_62 rfl (by decide) ?_
          refine wp_goto (pc := 65) 25 dX11_together_65 (by decide) ?_
          refine wp_ls ?_ (ih (i + 1) (by omega) (by omega) _ _ _ _ _ _ K O)
          rw [e1]
          repeat' (first | exact LE_0 | refine LE_s rfl ?_ | refine LE_s (I_c (by first | omega | (simp only [sm]; omega))) ?_ | refine LE_s (J_c (by first | omega | exact Int.pow_succ _ _ | exact (Int.pow_succ _ _).symm | exact (Int.pow_zero _).symm | (simp only [sm]; omega))) ?_ | refine LE_n ?_)
theorem sp_D_together (K : DA hp D r s Tr z Z T U tx rw rt hs ss KT) (hI : TI T N) (hH : HS T) (hb : T 7 0 < 1900000000) (ry : InR y) : Sp g MX11_together (rm 7 0 0) [.ref D, .int (I y)] hp (Eff (.int (I (if 1 ≤ y ∧ y ≤ 9 then (tgb (tgf (stl rt) T N y) (bits (ddb T) N) (2 ^ N)).2 else -1))) (fun hp2 => DX hp2 D T U tx (if 1 ≤ y ∧ y ≤ 9 then [((tgb (tgf (stl rt) T N y) (bits (ddb T) N) (2 ^ N)).1 : Int)] else rw) rt hs ss KT ∧ SO hp hp2 D (D + 171))) := by
  refine Sp_mk rfl (Nat.le_of_ble_eq_true rfl) ?_
  show wp g _ _ _ 0 0 0 [some (.ref D), some (.int (I y)), none, none, none, none, none] [] hp
  have O := SO.rf (hp := hp) (lo := D) (hi := D + 171)
  refine wp_iload_n (pc := 0) dX11_together_0 rfl ?_
  refine wp_Sp (pc := 1) dX11_together_1 cl_X11_263 (sp_D_isDeath (by first | assumption | omega | exact K.to | exact K.tr | exact K.to.2.1 | exact K.to.2.2.1 | exact K.to.2.2.2.1 | exact K.to.2.2.2.2.1 | exact K.to.2.2.2.2.2.1 | exact K.to.2.2.2.2.2.2.1 | exact K.to.2.2.2.2.2.2.2 | exact K.tr.2.1 | exact K.tr.2.2.1 | exact K.tr.2.2.2.1 | exact K.tr.2.2.2.2.1 | exact K.tr.2.2.2.2.2.1 | exact K.tr.2.2.2.2.2.2.1 | exact K.tr.2.2.2.2.2.2.2)) rfl rfl (by decide) (Nat.le_of_ble_eq_true rfl) ?_
  first | refine wp_ifb_ne (pc := 4) 9 dX11_together_4 (by decide) (fun c4 => ?_) (fun c4 => ?_) | refine wp_if_ne (pc := 4) 9 dX11_together_4 (by decide) (by first | omega | exact TI.i5 (by assumption) | exact TI.i3 (by assumption) | exact TI.i2 (by assumption) | exact TI.i1 (by assumption) | exact TI.i0 (by assumption) | exact TI.i4 (by assumption) | exact TI.i6 (by assumption) | exact TI.i7 (by assumption)) (fun c4 => ?_) (fun c4 => ?_)
  ·
    rw [if_pos c4, if_pos c4]
    obtain ⟨n, rfl⟩ := Int.eq_ofNat_of_zero_le (show 0 ≤ y by omega) -- go
    refine wp_aload_n (pc := 9) dX11_together_9 rfl ?_
    refine wp_getf (pc := 10) dX11_together_10 gf_X11_26 K.ob (by rfl) ?_
    refine wd_Vp (pc := 13) dX11_together_13 cl_X11_266 (sp_Town_livingSet (by first | assumption | omega | exact K.to | exact K.tr | exact K.to.2.1 | exact K.to.2.2.1 | exact K.to.2.2.2.1 | exact K.to.2.2.2.2.1 | exact K.to.2.2.2.2.2.1 | exact K.to.2.2.2.2.2.2.1 | exact K.to.2.2.2.2.2.2.2 | exact K.tr.2.1 | exact K.tr.2.2.1 | exact K.tr.2.2.2.1 | exact K.tr.2.2.2.2.1 | exact K.tr.2.2.2.2.2.1 | exact K.tr.2.2.2.2.2.2.1 | exact K.tr.2.2.2.2.2.2.2) (by first | assumption | omega | exact K.to | exact K.tr | exact K.to.2.1 | exact K.to.2.2.1 | exact K.to.2.2.2.1 | exact K.to.2.2.2.2.1 | exact K.to.2.2.2.2.2.1 | exact K.to.2.2.2.2.2.2.1 | exact K.to.2.2.2.2.2.2.2 | exact K.tr.2.1 | exact K.tr.2.2.1 | exact K.tr.2.2.2.1 | exact K.tr.2.2.2.2.1 | exact K.tr.2.2.2.2.2.1 | exact K.tr.2.2.2.2.2.2.1 | exact K.tr.2.2.2.2.2.2.2)) rfl rfl (by first | exact K.to.o | exact K.tr.o | exact K.k0.o | exact K.k1.o) (by rfl) (by decide) (Nat.le_of_ble_eq_true rfl) ?_
    refine wp_istore_n (pc := 16) dX11_together_16 (by decide) ?_
    refine wp_iconst (pc := 17) dX11_together_17 ?_
    refine wp_istore_n (pc := 18) dX11_together_18 (by decide) ?_
    refine wp_iconst (pc := 19) dX11_together_19 ?_
    refine wp_istore (pc := 20) dX11_together_20 (by decide) ?_
    refine wp_iconst (pc := 22) dX11_together_22 ?_
    refine wp_istore (pc := 23) dX11_together_23 (by decide) ?_
    refine wp_ls ?_ (lp_D_tog hI hH hb (by omega) (bits (lv T) N + 2) 0 (by omega) (by omega) _ _ _ _ _ _ K O)
    repeat' (first | exact LE_0 | refine LE_s rfl ?_ | refine LE_s (I_c (by first | omega | (simp only [sm]; omega))) ?_ | refine LE_s (J_c (by first | omega | exact Int.pow_succ _ _ | exact (Int.pow_succ _ _).symm | exact (Int.pow_zero _).symm | (simp only [sm]; omega))) ?_ | refine LE_n ?_)
  ·
    rw [if_neg c4, if_neg c4] -- go
    refine wp_iconst (pc := 7) dX11_together_7 ?_
    exact wp_ir (pc := 8) dX11_together_8 rfl (by decide) (by decide) (by first | rfl | omega) ⟨⟨_, _, _, _, _, K⟩, O⟩
end D2

