/-! the class: flattery, wakes, echo, settles, groups, streets -/
section D4
variable {g : GT} {hp hp2 hp0 : Hp} {D r s N n k i : Nat} {T T2 Tr Z : Nat → Int → Int} {z x y a b c : Int} {U : List (Nat → Int → Int)} {tx rw rt : List Int} {hs : List (Int × Int)} {ss : List (Int × Int × Int)} {KT : Nat → Option (Nat → Int → Int)}
theorem flj_mo {v : Nat → Nat → Int} {i : Nat} {s : Int × Int × Int} : ∀ j : Nat, s.1 ≤ (flj v i s j).1
  | 0 => Int.le_refl _
  | j + 1 => by
    have := flj_mo (v := v) (i := i) (s := s) j
    by_cases c : i ≠ j ∧ (flj v i s j).1 < v i j
    · have e : flj v i s (j + 1) = (v i j, (i : Int), (j : Int)) := if_pos c
      rw [e]
      show s.1 ≤ v i j
      omega
    · have e : flj v i s (j + 1) = flj v i s j := if_neg c
      rw [e]
      exact this
theorem fli_mo {v : Nat → Nat → Int} {N : Nat} : ∀ i : Nat, (fli v N 1).1 ≤ (fli v N (i + 1)).1
  | 0 => Int.le_refl _
  | i + 1 => Int.le_trans (fli_mo i) (flj_mo (v := v) (i := i + 1) (s := fli v N (i + 1)) N)
theorem fl_2 {v : Nat → Nat → Int} (hv : ∀ i j, 0 ≤ v i j ∧ v i j ≤ 9) (h : 2 ≤ N) : 0 ≤ (fli v N N).1 := by
  have e : ∀ j : Nat, 2 ≤ j → 0 ≤ (flj v 0 (-1, -1, -1) j).1 := by
    intro j
    induction j with
    | zero => intro h; omega
    | succ j ih =>
      intro h
      by_cases c : (0 : Nat) ≠ j ∧ (flj v 0 (-1, -1, -1) j).1 < v 0 j
      · have e : flj v 0 (-1, -1, -1) (j + 1) = (v 0 j, ((0 : Nat) : Int), (j : Int)) := if_pos c
        rw [e]
        exact (hv 0 j).1
      · have e : flj v 0 (-1, -1, -1) (j + 1) = flj v 0 (-1, -1, -1) j := if_neg c
        rw [e]
        have := hv 0 j
        omega
  obtain ⟨m, rfl⟩ : ∃ m, N = m + 1 := ⟨N - 1, by omega⟩
  exact Int.le_trans (e (m + 1) h) (fli_mo (v := v) (N := m + 1) m)
theorem fl_1 {v : Nat → Nat → Int} (h : N < 2) : (fli v N N).1 = -1 := by
  match N, h with
  | 0, _ => rfl
  | 1, _ => simp [fli, flj]
/-- the row while it is looked for -/
def flw (cs : List Int) (T : Nat → Int → Int) (p : Int × Int × Int) : List Int := if p.1 = -1 then [] else [p.2.1, p.2.2, if T 0 (p.2.1 * 6 + p.2.2) < wv cs T p.2.1 p.2.2 then 1 else 0]
theorem lp_D_fl2 (hI : TI T N) (hn : n < N) {p : Int × Int × Int} (hp9 : flR N p) {Q : Option Value → Hp → Prop} (Kn : ∀ hp3, DA hp3 D r s Tr z Z T U tx (flw (stl rt) T (flj (flv (stl rt) T) n p N)) rt hs ss KT → SO hp hp3 D (D + 171) → wp g MX11_flattery (rm 4 0 0) Q 0 0 25 [some (.ref D), some (.int (I (flj (flv (stl rt) T) n p N).1)), some (.int (I ((n : Int) + 1))), none, none] [] hp3) : ∀ (m i : Nat), N < i + m → i ≤ N → ∀ (hp2 : Hp) (K : DA hp2 D r s Tr z Z T U tx (flw (stl rt) T (flj (flv (stl rt) T) n p i)) rt hs ss KT) (O : SO hp hp2 D (D + 171)), wp g MX11_flattery (rm 4 0 0) Q 0 0 38 [some (.ref D), some (.int (I (flj (flv (stl rt) T) n p i).1)), some (.int (I (n : Int))), some (.int (I (i : Int))), none] [] hp2 := by
  intro m
  induction m with
  | zero => intro i h1 h2; exact absurd h1 (by omega)
  | succ m ih =>
    intro i h1 h2 hp2 K O
    obtain ⟨h8, hN⟩ := hI.men
    have hw := wv_in (stl rt) T (n : Int) (i : Int)
    have h0 := hI.r0 ((n : Int) * 6 + (i : Int))
    have hv := flv_in (cs := stl rt) hI
    have hv1 := hv n i
    have q1 := flR_in (flj_in hv hn hp9 i h2) hN
    have q2 := q1.1
    have ea : ab (wv (stl rt) T (n : Int) (i : Int) - T 0 ((n : Int) * 6 + (i : Int))) = flv (stl rt) T n i := by
      unfold flv ab
      split <;> split <;> omega
    refine wp_iload_n (pc := 38) dX11_flattery_38 rfl ?_
    refine wp_aload_n (pc := 39) dX11_flattery_39 rfl ?_
    refine wp_getf (pc := 40) dX11_flattery_40 gf_X11_26 K.ob (by rfl) ?_
    refine wp_getf (pc := 43) dX11_flattery_43 gf_X11_110 (by first | exact K.ob | exact K.to.1 | exact K.tr.1 | exact K.to.2.1 | exact K.to.2.2.1 | exact K.to.2.2.2.1 | exact K.to.2.2.2.2.1 | exact K.to.2.2.2.2.2.1 | exact K.to.2.2.2.2.2.2.1 | exact K.to.2.2.2.2.2.2.2 | exact K.tr.2.1 | exact K.tr.2.2.1 | exact K.tr.2.2.2.1 | exact K.tr.2.2.2.2.1 | exact K.tr.2.2.2.2.2.1 | exact K.tr.2.2.2.2.2.2.1 | exact K.tr.2.2.2.2.2.2.2) (by rfl) ?_
    refine wp_icmp_ge (pc := 46) 134 dX11_flattery_46 (by decide) (by first | omega | exact TI.i5 (by assumption) | exact TI.i3 (by assumption) | exact TI.i2 (by assumption) | exact TI.i1 (by assumption) | exact TI.i0 (by assumption) | exact TI.i4 (by assumption) | exact TI.i6 (by assumption) | exact TI.i7 (by assumption)) (by first | omega | exact TI.i5 (by assumption) | exact TI.i3 (by assumption) | exact TI.i2 (by assumption) | exact TI.i1 (by assumption) | exact TI.i0 (by assumption) | exact TI.i4 (by assumption) | exact TI.i6 (by assumption) | exact TI.i7 (by assumption)) (fun c46 => ?_) (fun c46 => ?_)
    ·
      have e : i = N := by omega
      subst e -- go
      refine wp_iinc (pc := 134) dX11_flattery_134 rfl (by decide) ?_
      refine wp_goto (pc := 137) 25 dX11_flattery_137 (by decide) ?_
      refine wp_ls ?_ (Kn _ K O)
      repeat' (first | exact LE_0 | refine LE_s rfl ?_ | refine LE_s (I_c (by first | omega | (simp only [sm]; omega))) ?_ | refine LE_s (J_c (by first | omega | exact Int.pow_succ _ _ | exact (Int.pow_succ _ _).symm | exact (Int.pow_zero _).symm | (simp only [sm]; omega))) ?_ | refine LE_n ?_)
    ·
      first
      | (exfalso; omega)
      | skip
        refine wp_iload_n (pc := 49) dX11_flattery_49 rfl ?_
        refine wp_iload_n (pc := 50) dX11_flattery_50 rfl ?_
        refine wp_icmp_ne (pc := 51) 58 dX11_flattery_51 (by decide) (by first | omega | exact TI.i5 (by assumption) | exact TI.i3 (by assumption) | exact TI.i2 (by assumption) | exact TI.i1 (by assumption) | exact TI.i0 (by assumption) | exact TI.i4 (by assumption) | exact TI.i6 (by assumption) | exact TI.i7 (by assumption)) (by first | omega | exact TI.i5 (by assumption) | exact TI.i3 (by assumption) | exact TI.i2 (by assumption) | exact TI.i1 (by assumption) | exact TI.i0 (by assumption) | exact TI.i4 (by assumption) | exact TI.i6 (by assumption) | exact TI.i7 (by assumption)) (fun c51 => ?_) (fun c51 => ?_)
        ·
          skip -- go
          refine wp_aload_n (pc := 58) dX11_flattery_58 rfl ?_
          refine wp_getf (pc := 59) dX11_flattery_59 gf_X11_91 K.ob (by rfl) ?_
          refine wp_aload_n (pc := 62) dX11_flattery_62 rfl ?_
          refine wp_getf (pc := 63) dX11_flattery_63 gf_X11_26 K.ob (by rfl) ?_
          refine wp_iload_n (pc := 66) dX11_flattery_66 rfl ?_
          refine wp_iload_n (pc := 67) dX11_flattery_67 rfl ?_
          refine wd_Vs (pc := 68) dX11_flattery_68 cl_X11_176 (sp_Rule_words K.ru (by first | exact K.to | exact K.tr) (by first | assumption | omega) (by first | assumption | omega) (by first | assumption | omega) (by have := K.rs; omega)) rfl rfl (by first | exact K.ru.o | exact K.sp.o) (by rfl) (by decide) (Nat.le_of_ble_eq_true rfl) (fun hp68 e68 => ?_)
          obtain ⟨h68, o68⟩ := e68
          replace O := O.inn o68 (by have := K.rs; omega) (by have := K.rs; omega)
          replace K := K.uRu h68 o68
          refine wp_aload_n (pc := 71) dX11_flattery_71 rfl ?_
          refine wp_getf (pc := 72) dX11_flattery_72 gf_X11_26 K.ob (by rfl) ?_
          refine wp_getf (pc := 75) dX11_flattery_75 gf_X11_133 (by first | exact K.ob | exact K.to.1 | exact K.tr.1 | exact K.to.2.1 | exact K.to.2.2.1 | exact K.to.2.2.2.1 | exact K.to.2.2.2.2.1 | exact K.to.2.2.2.2.2.1 | exact K.to.2.2.2.2.2.2.1 | exact K.to.2.2.2.2.2.2.2 | exact K.tr.2.1 | exact K.tr.2.2.1 | exact K.tr.2.2.2.1 | exact K.tr.2.2.2.2.1 | exact K.tr.2.2.2.2.2.1 | exact K.tr.2.2.2.2.2.2.1 | exact K.tr.2.2.2.2.2.2.2) (by rfl) ?_
          refine wp_iload_n (pc := 78) dX11_flattery_78 rfl ?_
          refine wp_iload_n (pc := 79) dX11_flattery_79 rfl ?_
          refine wp_Sp (pc := 80) dX11_flattery_80 cl_X11_137 sp_D_pair rfl rfl (by decide) (Nat.le_of_ble_eq_true rfl) ?_
          refine wp_iald (pc := 83) dX11_flattery_83 (by first | exact K.ob | exact K.to.1 | exact K.tr.1 | exact K.to.2.1 | exact K.to.2.2.1 | exact K.to.2.2.2.1 | exact K.to.2.2.2.2.1 | exact K.to.2.2.2.2.2.1 | exact K.to.2.2.2.2.2.2.1 | exact K.to.2.2.2.2.2.2.2 | exact K.tr.2.1 | exact K.tr.2.2.1 | exact K.tr.2.2.2.1 | exact K.tr.2.2.2.2.1 | exact K.tr.2.2.2.2.2.1 | exact K.tr.2.2.2.2.2.2.1 | exact K.tr.2.2.2.2.2.2.2) (by omega) (by omega) (by decide) ?_
          refine wp_isub (pc := 84) dX11_flattery_84 ?_
          refine wp_istore (pc := 85) dX11_flattery_85 (by decide) ?_
          refine wp_iload_n (pc := 87) dX11_flattery_87 rfl ?_
          refine wp_iload_n (pc := 88) dX11_flattery_88 rfl ?_
          refine wp_icmp_eq (pc := 89) 128 dX11_flattery_89 (by decide) (by first | omega | exact TI.i5 (by assumption) | exact TI.i3 (by assumption) | exact TI.i2 (by assumption) | exact TI.i1 (by assumption) | exact TI.i0 (by assumption) | exact TI.i4 (by assumption) | exact TI.i6 (by assumption) | exact TI.i7 (by assumption)) (by first | omega | exact TI.i5 (by assumption) | exact TI.i3 (by assumption) | exact TI.i2 (by assumption) | exact TI.i1 (by assumption) | exact TI.i0 (by assumption) | exact TI.i4 (by assumption) | exact TI.i6 (by assumption) | exact TI.i7 (by assumption)) (fun c89 => ?_) (fun c89 => ?_)
          ·
            have e1 : flj (flv (stl rt) T) n p (i + 1) = flj (flv (stl rt) T) n p i := if_neg (fun q => q.1 (by omega))
            rw [← e1] at K -- go
            refine wp_iinc (pc := 128) dX11_flattery_128 rfl (by decide) ?_
            refine wp_goto (pc := 131) 38 dX11_flattery_131 (by decide) ?_
            refine wp_ls ?_ (ih (i + 1) (by omega) (by omega) _ K O)
            rw [e1]
            repeat' (first | exact LE_0 | refine LE_s rfl ?_ | refine LE_s (I_c (by first | omega | (simp only [sm]; omega))) ?_ | refine LE_s (J_c (by first | omega | exact Int.pow_succ _ _ | exact (Int.pow_succ _ _).symm | exact (Int.pow_zero _).symm | (simp only [sm]; omega))) ?_ | refine LE_n ?_)
          ·
            first
            | (exfalso; omega)
            | skip
              refine wp_iload (pc := 92) dX11_flattery_92 rfl ?_
              refine wp_abs (pc := 94) dX11_flattery_94 ml_X11_284 ma_abs_s ma_ini ma_abs_c (by decide) (by decide) (by decide) (by decide) (Nat.le_of_ble_eq_true rfl) (by first | omega | exact TI.i5 (by assumption) | exact TI.i3 (by assumption) | exact TI.i2 (by assumption) | exact TI.i1 (by assumption) | exact TI.i0 (by assumption) | exact TI.i4 (by assumption) | exact TI.i6 (by assumption) | exact TI.i7 (by assumption)) ?_
              refine wp_topE ea ?_
              refine wp_iload_n (pc := 97) dX11_flattery_97 rfl ?_
              refine wp_icmp_le (pc := 98) 128 dX11_flattery_98 (by decide) (by first | omega | exact TI.i5 (by assumption) | exact TI.i3 (by assumption) | exact TI.i2 (by assumption) | exact TI.i1 (by assumption) | exact TI.i0 (by assumption) | exact TI.i4 (by assumption) | exact TI.i6 (by assumption) | exact TI.i7 (by assumption)) (by first | omega | exact TI.i5 (by assumption) | exact TI.i3 (by assumption) | exact TI.i2 (by assumption) | exact TI.i1 (by assumption) | exact TI.i0 (by assumption) | exact TI.i4 (by assumption) | exact TI.i6 (by assumption) | exact TI.i7 (by assumption)) (fun c98 => ?_) (fun c98 => ?_)
              ·
                have e1 : flj (flv (stl rt) T) n p (i + 1) = flj (flv (stl rt) T) n p i := if_neg (fun q => by have := q.2; omega)
                rw [← e1] at K -- go
                refine wp_iinc (pc := 128) dX11_flattery_128 rfl (by decide) ?_
                refine wp_goto (pc := 131) 38 dX11_flattery_131 (by decide) ?_
                refine wp_ls ?_ (ih (i + 1) (by omega) (by omega) _ K O)
                rw [e1]
                repeat' (first | exact LE_0 | refine LE_s rfl ?_ | refine LE_s (I_c (by first | omega | (simp only [sm]; omega))) ?_ | refine LE_s (J_c (by first | omega | exact Int.pow_succ _ _ | exact (Int.pow_succ _ _).symm | exact (Int.pow_zero _).symm | (simp only [sm]; omega))) ?_ | refine LE_n ?_)
              ·
                have e1 : flj (flv (stl rt) T) n p (i + 1) = (flv (stl rt) T n i, (n : Int), (i : Int)) := if_pos ⟨by omega, by omega⟩
                have ef : flw (stl rt) T (flj (flv (stl rt) T) n p (i + 1)) = [(n : Int), (i : Int), if T 0 ((n : Int) * 6 + (i : Int)) < wv (stl rt) T (n : Int) (i : Int) then 1 else 0] := by rw [e1]; exact if_neg (show ¬ flv (stl rt) T n i = -1 by omega)
                skip -- go
                refine wp_iload (pc := 101) dX11_flattery_101 rfl ?_
                refine wp_abs (pc := 103) dX11_flattery_103 ml_X11_284 ma_abs_s ma_ini ma_abs_c (by decide) (by decide) (by decide) (by decide) (Nat.le_of_ble_eq_true rfl) (by first | omega | exact TI.i5 (by assumption) | exact TI.i3 (by assumption) | exact TI.i2 (by assumption) | exact TI.i1 (by assumption) | exact TI.i0 (by assumption) | exact TI.i4 (by assumption) | exact TI.i6 (by assumption) | exact TI.i7 (by assumption)) ?_
                refine wp_topE ea ?_
                refine wp_istore_n (pc := 106) dX11_flattery_106 (by decide) ?_
                refine wp_aload_n (pc := 107) dX11_flattery_107 rfl ?_
                refine wp_getf (pc := 108) dX11_flattery_108 gf_X11_19 K.ob (by rfl) ?_
                refine wp_iload_n (pc := 111) dX11_flattery_111 rfl ?_
                refine wp_i2l (pc := 112) dX11_flattery_112 (by first | omega | exact TI.i5 (by assumption) | exact TI.i3 (by assumption) | exact TI.i2 (by assumption) | exact TI.i1 (by assumption) | exact TI.i0 (by assumption) | exact TI.i4 (by assumption) | exact TI.i6 (by assumption) | exact TI.i7 (by assumption)) ?_
                refine wp_iload_n (pc := 113) dX11_flattery_113 rfl ?_
                refine wp_i2l (pc := 114) dX11_flattery_114 (by first | omega | exact TI.i5 (by assumption) | exact TI.i3 (by assumption) | exact TI.i2 (by assumption) | exact TI.i1 (by assumption) | exact TI.i0 (by assumption) | exact TI.i4 (by assumption) | exact TI.i6 (by assumption) | exact TI.i7 (by assumption)) ?_
                refine wp_iload (pc := 115) dX11_flattery_115 rfl ?_
                refine wp_if_le (pc := 117) 124 dX11_flattery_117 (by decide) (by first | omega | exact TI.i5 (by assumption) | exact TI.i3 (by assumption) | exact TI.i2 (by assumption) | exact TI.i1 (by assumption) | exact TI.i0 (by assumption) | exact TI.i4 (by assumption) | exact TI.i6 (by assumption) | exact TI.i7 (by assumption)) (fun c117 => ?_) (fun c117 => ?_)
                ·
                  rw [if_neg (by omega)] at ef -- go
                  refine wp_lcst (pc := 124) (y := 0) dX11_flattery_124 rfl ?_
                  refine wd_Vn (pc := 125) dX11_flattery_125 cl_X11_289 (sp_Row_tell__ K.ro) rfl rfl K.ro.o (by rfl) (by decide) (Nat.le_of_ble_eq_true rfl) (fun hp125 e125 => ?_)
                  obtain ⟨h125, o125⟩ := e125
                  replace O := O.inn o125 (by omega) (by omega)
                  replace K := K.uRo h125 o125
                  rw [← ef] at K
                  refine wp_iinc (pc := 128) dX11_flattery_128 rfl (by decide) ?_
                  refine wp_goto (pc := 131) 38 dX11_flattery_131 (by decide) ?_
                  refine wp_ls ?_ (ih (i + 1) (by omega) (by omega) _ K O)
                  rw [e1]
                  repeat' (first | exact LE_0 | refine LE_s rfl ?_ | refine LE_s (I_c (by first | omega | (simp only [sm]; omega))) ?_ | refine LE_s (J_c (by first | omega | exact Int.pow_succ _ _ | exact (Int.pow_succ _ _).symm | exact (Int.pow_zero _).symm | (simp only [sm]; omega))) ?_ | refine LE_n ?_)
                ·
                  rw [if_pos (by omega)] at ef -- go
                  refine wp_lcst (pc := 120) (y := 1) dX11_flattery_120 rfl ?_
                  refine wp_goto (pc := 121) 125 dX11_flattery_121 (by decide) ?_
                  refine wd_Vn (pc := 125) dX11_flattery_125 cl_X11_289 (sp_Row_tell__ K.ro) rfl rfl K.ro.o (by rfl) (by decide) (Nat.le_of_ble_eq_true rfl) (fun hp125 e125 => ?_)
                  obtain ⟨h125, o125⟩ := e125
                  replace O := O.inn o125 (by omega) (by omega)
                  replace K := K.uRo h125 o125
                  rw [← ef] at K
                  refine wp_iinc (pc := 128) dX11_flattery_128 rfl (by decide) ?_
                  refine wp_goto (pc := 131) 38 dX11_flattery_131 (by decide) ?_
                  refine wp_ls ?_ (ih (i + 1) (by omega) (by omega) _ K O)
                  rw [e1]
                  repeat' (first | exact LE_0 | refine LE_s rfl ?_ | refine LE_s (I_c (by first | omega | (simp only [sm]; omega))) ?_ | refine LE_s (J_c (by first | omega | exact Int.pow_succ _ _ | exact (Int.pow_succ _ _).symm | exact (Int.pow_zero _).symm | (simp only [sm]; omega))) ?_ | refine LE_n ?_)
        ·
          first
          | (exfalso; omega)
          | skip
            refine wp_iconst (pc := 54) dX11_flattery_54 ?_
            refine wp_goto (pc := 55) 85 dX11_flattery_55 (by decide) ?_
            refine wp_istore (pc := 85) dX11_flattery_85 (by decide) ?_
            refine wp_iload_n (pc := 87) dX11_flattery_87 rfl ?_
            refine wp_iload_n (pc := 88) dX11_flattery_88 rfl ?_
            refine wp_icmp_eq (pc := 89) 128 dX11_flattery_89 (by decide) (by first | omega | exact TI.i5 (by assumption) | exact TI.i3 (by assumption) | exact TI.i2 (by assumption) | exact TI.i1 (by assumption) | exact TI.i0 (by assumption) | exact TI.i4 (by assumption) | exact TI.i6 (by assumption) | exact TI.i7 (by assumption)) (by first | omega | exact TI.i5 (by assumption) | exact TI.i3 (by assumption) | exact TI.i2 (by assumption) | exact TI.i1 (by assumption) | exact TI.i0 (by assumption) | exact TI.i4 (by assumption) | exact TI.i6 (by assumption) | exact TI.i7 (by assumption)) (fun c89 => ?_) (fun c89 => ?_)
            ·
              have e1 : flj (flv (stl rt) T) n p (i + 1) = flj (flv (stl rt) T) n p i := if_neg (fun q => q.1 (by omega))
              rw [← e1] at K -- go
              refine wp_iinc (pc := 128) dX11_flattery_128 rfl (by decide) ?_
              refine wp_goto (pc := 131) 38 dX11_flattery_131 (by decide) ?_
              refine wp_ls ?_ (ih (i + 1) (by omega) (by omega) _ K O)
              rw [e1]
              repeat' (first | exact LE_0 | refine LE_s rfl ?_ | refine LE_s (I_c (by first | omega | (simp only [sm]; omega))) ?_ | refine LE_s (J_c (by first | omega | exact Int.pow_succ _ _ | exact (Int.pow_succ _ _).symm | exact (Int.pow_zero _).symm | (simp only [sm]; omega))) ?_ | refine LE_n ?_)
            ·
              first
              | (exfalso; omega)
              | skip
                refine wp_iload (pc := 92) dX11_flattery_92 rfl ?_
                refine wp_abs (pc := 94) dX11_flattery_94 ml_X11_284 ma_abs_s ma_ini ma_abs_c (by decide) (by decide) (by decide) (by decide) (Nat.le_of_ble_eq_true rfl) (by first | omega | exact TI.i5 (by assumption) | exact TI.i3 (by assumption) | exact TI.i2 (by assumption) | exact TI.i1 (by assumption) | exact TI.i0 (by assumption) | exact TI.i4 (by assumption) | exact TI.i6 (by assumption) | exact TI.i7 (by assumption)) ?_
                refine wp_topE ea ?_
                refine wp_iload_n (pc := 97) dX11_flattery_97 rfl ?_
                refine wp_icmp_le (pc := 98) 128 dX11_flattery_98 (by decide) (by first | omega | exact TI.i5 (by assumption) | exact TI.i3 (by assumption) | exact TI.i2 (by assumption) | exact TI.i1 (by assumption) | exact TI.i0 (by assumption) | exact TI.i4 (by assumption) | exact TI.i6 (by assumption) | exact TI.i7 (by assumption)) (by first | omega | exact TI.i5 (by assumption) | exact TI.i3 (by assumption) | exact TI.i2 (by assumption) | exact TI.i1 (by assumption) | exact TI.i0 (by assumption) | exact TI.i4 (by assumption) | exact TI.i6 (by assumption) | exact TI.i7 (by assumption)) (fun c98 => ?_) (fun c98 => ?_)
                ·
                  have e1 : flj (flv (stl rt) T) n p (i + 1) = flj (flv (stl rt) T) n p i := if_neg (fun q => by have := q.2; omega)
                  rw [← e1] at K -- go
                  refine wp_iinc (pc := 128) dX11_flattery_128 rfl (by decide) ?_
                  refine wp_goto (pc := 131) 38 dX11_flattery_131 (by decide) ?_
                  refine wp_ls ?_ (ih (i + 1) (by omega) (by omega) _ K O)
                  rw [e1]
                  repeat' (first | exact LE_0 | refine LE_s rfl ?_ | refine LE_s (I_c (by first | omega | (simp only [sm]; omega))) ?_ | refine LE_s (J_c (by first | omega | exact Int.pow_succ _ _ | exact (Int.pow_succ _ _).symm | exact (Int.pow_zero _).symm | (simp only [sm]; omega))) ?_ | refine LE_n ?_)
                ·
                  have e1 : flj (flv (stl rt) T) n p (i + 1) = (flv (stl rt) T n i, (n : Int), (i : Int)) := if_pos ⟨by omega, by omega⟩
                  have ef : flw (stl rt) T (flj (flv (stl rt) T) n p (i + 1)) = [(n : Int), (i : Int), if T 0 ((n : Int) * 6 + (i : Int)) < wv (stl rt) T (n : Int) (i : Int) then 1 else 0] := by rw [e1]; exact if_neg (show ¬ flv (stl rt) T n i = -1 by omega)
                  skip -- go
                  refine wp_iload (pc := 101) dX11_flattery_101 rfl ?_
                  refine wp_abs (pc := 103) dX11_flattery_103 ml_X11_284 ma_abs_s ma_ini ma_abs_c (by decide) (by decide) (by decide) (by decide) (Nat.le_of_ble_eq_true rfl) (by first | omega | exact TI.i5 (by assumption) | exact TI.i3 (by assumption) | exact TI.i2 (by assumption) | exact TI.i1 (by assumption) | exact TI.i0 (by assumption) | exact TI.i4 (by assumption) | exact TI.i6 (by assumption) | exact TI.i7 (by assumption)) ?_
                  refine wp_topE ea ?_
                  refine wp_istore_n (pc := 106) dX11_flattery_106 (by decide) ?_
                  refine wp_aload_n (pc := 107) dX11_flattery_107 rfl ?_
                  refine wp_getf (pc := 108) dX11_flattery_108 gf_X11_19 K.ob (by rfl) ?_
                  refine wp_iload_n (pc := 111) dX11_flattery_111 rfl ?_
                  refine wp_i2l (pc := 112) dX11_flattery_112 (by first | omega | exact TI.i5 (by assumption) | exact TI.i3 (by assumption) | exact TI.i2 (by assumption) | exact TI.i1 (by assumption) | exact TI.i0 (by assumption) | exact TI.i4 (by assumption) | exact TI.i6 (by assumption) | exact TI.i7 (by assumption)) ?_
                  refine wp_iload_n (pc := 113) dX11_flattery_113 rfl ?_
                  refine wp_i2l (pc := 114) dX11_flattery_114 (by first | omega | exact TI.i5 (by assumption) | exact TI.i3 (by assumption) | exact TI.i2 (by assumption) | exact TI.i1 (by assumption) | exact TI.i0 (by assumption) | exact TI.i4 (by assumption) | exact TI.i6 (by assumption) | exact TI.i7 (by assumption)) ?_
                  refine wp_iload (pc := 115) dX11_flattery_115 rfl ?_
                  refine wp_if_le (pc := 117) 124 dX11_flattery_117 (by decide) (by first | omega | exact TI.i5 (by assumption) | exact TI.i3 (by assumption) | exact TI.i2 (by assumption) | exact TI.i1 (by assumption) | exact TI.i0 (by assumption) | exact TI.i4 (by assumption) | exact TI.i6 (by assumption) | exact TI.i7 (by assumption)) (fun c117 => ?_) (fun c117 => ?_)
                  ·
                    rw [if_neg (by omega)] at ef -- go
                    refine wp_lcst (pc := 124) (y := 0) dX11_flattery_124 rfl ?_
                    refine wd_Vn (pc := 125) dX11_flattery_125 cl_X11_289 (sp_Row_tell__ K.ro) rfl rfl K.ro.o (by rfl) (by decide) (Nat.le_of_ble_eq_true rfl) (fun hp125 e125 => ?_)
                    obtain ⟨h125, o125⟩ := e125
                    replace O := O.inn o125 (by omega) (by omega)
                    replace K := K.uRo h125 o125
                    rw [← ef] at K
                    refine wp_iinc (pc := 128) dX11_flattery_128 rfl (by decide) ?_
                    refine wp_goto (pc := 131) 38 dX11_flattery_131 (by decide) ?_
                    refine wp_ls ?_ (ih (i + 1) (by omega) (by omega) _ K O)
                    rw [e1]
                    repeat' (first | exact LE_0 | refine LE_s rfl ?_ | refine LE_s (I_c (by first | omega | (simp only [sm]; omega))) ?_ | refine LE_s (J_c (by first | omega | exact Int.pow_succ _ _ | exact (Int.pow_succ _ _).symm | exact (Int.pow_zero _).symm | (simp only [sm]; omega))) ?_ | refine LE_n ?_)
                  ·
                    rw [if_pos (by omega)] at ef -- go
                    refine wp_lcst (pc := 120) (y := 1) dX11_flattery_120 rfl ?_
                    refine wp_goto (pc := 121) 125 dX11_flattery_121 (by decide) ?_
                    refine wd_Vn (pc := 125) dX11_flattery_125 cl_X11_289 (sp_Row_tell__ K.ro) rfl rfl K.ro.o (by rfl) (by decide) (Nat.le_of_ble_eq_true rfl) (fun hp125 e125 => ?_)
                    obtain ⟨h125, o125⟩ := e125
                    replace O := O.inn o125 (by omega) (by omega)
                    replace K := K.uRo h125 o125
                    rw [← ef] at K
                    refine wp_iinc (pc := 128) dX11_flattery_128 rfl (by decide) ?_
                    refine wp_goto (pc := 131) 38 dX11_flattery_131 (by decide) ?_
                    refine wp_ls ?_ (ih (i + 1) (by omega) (by omega) _ K O)
                    rw [e1]
                    repeat' (first | exact LE_0 | refine LE_s rfl ?_ | refine LE_s (I_c (by first | omega | (simp only [sm]; omega))) ?_ | refine LE_s (J_c (by first | omega | exact Int.pow_succ _ _ | exact (Int.pow_succ _ _).symm | exact (Int.pow_zero _).symm | (simp only [sm]; omega))) ?_ | refine LE_n ?_)
theorem lp_D_fl1 (hI : TI T N) (h2N : 2 ≤ N) : ∀ (m i : Nat), N < i + m → i ≤ N → ∀ (hp2 : Hp) (K : DA hp2 D r s Tr z Z T U tx (flw (stl rt) T (fli (flv (stl rt) T) N i)) rt hs ss KT) (O : SO hp hp2 D (D + 171)), wp g MX11_flattery (rm 4 0 0) (Eff (.int (I (fli (flv (stl rt) T) N N).1)) (fun hp3 => DX hp3 D T U tx (flw (stl rt) T (fli (flv (stl rt) T) N N)) rt hs ss KT ∧ SO hp hp3 D (D + 171))) 0 0 25 [some (.ref D), some (.int (I (fli (flv (stl rt) T) N i).1)), some (.int (I (i : Int))), none, none] [] hp2 := by
  intro m
  induction m with
  | zero => intro i h1 h2; exact absurd h1 (by omega)
  | succ m ih =>
    intro i h1 h2 hp2 K O
    obtain ⟨h8, hN⟩ := hI.men
    refine wp_iload_n (pc := 25) dX11_flattery_25 rfl ?_
    refine wp_aload_n (pc := 26) dX11_flattery_26 rfl ?_
    refine wp_getf (pc := 27) dX11_flattery_27 gf_X11_26 K.ob (by rfl) ?_
    refine wp_getf (pc := 30) dX11_flattery_30 gf_X11_110 (by first | exact K.ob | exact K.to.1 | exact K.tr.1 | exact K.to.2.1 | exact K.to.2.2.1 | exact K.to.2.2.2.1 | exact K.to.2.2.2.2.1 | exact K.to.2.2.2.2.2.1 | exact K.to.2.2.2.2.2.2.1 | exact K.to.2.2.2.2.2.2.2 | exact K.tr.2.1 | exact K.tr.2.2.1 | exact K.tr.2.2.2.1 | exact K.tr.2.2.2.2.1 | exact K.tr.2.2.2.2.2.1 | exact K.tr.2.2.2.2.2.2.1 | exact K.tr.2.2.2.2.2.2.2) (by rfl) ?_
    refine wp_icmp_ge (pc := 33) 140 dX11_flattery_33 (by decide) (by first | omega | exact TI.i5 (by assumption) | exact TI.i3 (by assumption) | exact TI.i2 (by assumption) | exact TI.i1 (by assumption) | exact TI.i0 (by assumption) | exact TI.i4 (by assumption) | exact TI.i6 (by assumption) | exact TI.i7 (by assumption)) (by first | omega | exact TI.i5 (by assumption) | exact TI.i3 (by assumption) | exact TI.i2 (by assumption) | exact TI.i1 (by assumption) | exact TI.i0 (by assumption) | exact TI.i4 (by assumption) | exact TI.i6 (by assumption) | exact TI.i7 (by assumption)) (fun c33 => ?_) (fun c33 => ?_)
    ·
      have e : i = N := by omega
      subst e -- go
      refine wp_iload_n (pc := 140) dX11_flattery_140 rfl ?_
      exact wp_ir (pc := 141) dX11_flattery_141 rfl (by decide) (by decide) (by first | rfl | omega) ⟨⟨_, _, _, _, _, K⟩, O⟩
    ·
      refine wp_iconst (pc := 36) dX11_flattery_36 ?_
      refine wp_istore_n (pc := 37) dX11_flattery_37 (by decide) ?_
      refine wp_ls ?_ (lp_D_fl2 (hp := hp) (p := fli (flv (stl rt) T) N i) hI (by omega) (fli_in (flv_in hI) i h2) (fun hp3 K3 O3 => wp_ls ?_ (ih (i + 1) (by omega) (by omega) hp3 K3 O3)) (N + 1) 0 (by omega) (by omega) _ K O)
      · repeat' (first | exact LE_0 | refine LE_s rfl ?_ | refine LE_s (I_c (by first | omega | (simp only [sm]; omega))) ?_ | refine LE_s (J_c (by first | omega | exact Int.pow_succ _ _ | exact (Int.pow_succ _ _).symm | exact (Int.pow_zero _).symm | (simp only [sm]; omega))) ?_ | refine LE_n ?_)
      · repeat' (first | exact LE_0 | refine LE_s rfl ?_ | refine LE_s (I_c (by first | omega | (simp only [sm]; omega))) ?_ | refine LE_s (J_c (by first | omega | exact Int.pow_succ _ _ | exact (Int.pow_succ _ _).symm | exact (Int.pow_zero _).symm | (simp only [sm]; omega))) ?_ | refine LE_n ?_)
theorem sp_D_flattery (K : DA hp D r s Tr z Z T U tx rw rt hs ss KT) (hI : TI T N) : Sp g MX11_flattery (rm 4 0 0) [.ref D] hp (Eff (.int (I (if (fli (flv (stl rt) T) N N).1 = -1 then -2 else (fli (flv (stl rt) T) N N).1))) (fun hp2 => DX hp2 D T U tx (if (fli (flv (stl rt) T) N N).1 = -1 then rw else [(fli (flv (stl rt) T) N N).2.1, (fli (flv (stl rt) T) N N).2.2, if T 0 ((fli (flv (stl rt) T) N N).2.1 * 6 + (fli (flv (stl rt) T) N N).2.2) < wv (stl rt) T (fli (flv (stl rt) T) N N).2.1 (fli (flv (stl rt) T) N N).2.2 then 1 else 0]) rt hs ss KT ∧ SO hp hp2 D (D + 171))) := by
  obtain ⟨h8, hN⟩ := hI.men
  refine Sp_mk rfl (Nat.le_of_ble_eq_true rfl) ?_
  show wp g _ _ _ 0 0 0 [some (.ref D), none, none, none, none] [] hp
  have O := SO.rf (hp := hp) (lo := D) (hi := D + 171)
  refine wp_aload_n (pc := 0) dX11_flattery_0 rfl ?_
  refine wp_getf (pc := 1) dX11_flattery_1 gf_X11_26 K.ob (by rfl) ?_
  refine wp_getf (pc := 4) dX11_flattery_4 gf_X11_110 (by first | exact K.ob | exact K.to.1 | exact K.tr.1 | exact K.to.2.1 | exact K.to.2.2.1 | exact K.to.2.2.2.1 | exact K.to.2.2.2.2.1 | exact K.to.2.2.2.2.2.1 | exact K.to.2.2.2.2.2.2.1 | exact K.to.2.2.2.2.2.2.2 | exact K.tr.2.1 | exact K.tr.2.2.1 | exact K.tr.2.2.2.1 | exact K.tr.2.2.2.2.1 | exact K.tr.2.2.2.2.2.1 | exact K.tr.2.2.2.2.2.2.1 | exact K.tr.2.2.2.2.2.2.2) (by rfl) ?_
  refine wp_iconst (pc := 7) dX11_flattery_7 ?_
  refine wp_icmp_ge (pc := 8) 14 dX11_flattery_8 (by decide) (by first | omega | exact TI.i5 (by assumption) | exact TI.i3 (by assumption) | exact TI.i2 (by assumption) | exact TI.i1 (by assumption) | exact TI.i0 (by assumption) | exact TI.i4 (by assumption) | exact TI.i6 (by assumption) | exact TI.i7 (by assumption)) (by first | omega | exact TI.i5 (by assumption) | exact TI.i3 (by assumption) | exact TI.i2 (by assumption) | exact TI.i1 (by assumption) | exact TI.i0 (by assumption) | exact TI.i4 (by assumption) | exact TI.i6 (by assumption) | exact TI.i7 (by assumption)) (fun c8 => ?_) (fun c8 => ?_)
  ·
    have e1 := fl_2 (flv_in (cs := stl rt) hI) (show 2 ≤ N by omega)
    have e2 : ¬ (fli (flv (stl rt) T) N N).1 = -1 := by omega
    have e3 : flw (stl rt) T (fli (flv (stl rt) T) N N) = [(fli (flv (stl rt) T) N N).2.1, (fli (flv (stl rt) T) N N).2.2, if T 0 ((fli (flv (stl rt) T) N N).2.1 * 6 + (fli (flv (stl rt) T) N N).2.2) < wv (stl rt) T (fli (flv (stl rt) T) N N).2.1 (fli (flv (stl rt) T) N N).2.2 then 1 else 0] := if_neg e2
    rw [if_neg e2, if_neg e2, ← e3] -- go
    refine wp_iconst (pc := 14) dX11_flattery_14 ?_
    refine wp_istore_n (pc := 15) dX11_flattery_15 (by decide) ?_
    refine wp_aload_n (pc := 16) dX11_flattery_16 rfl ?_
    refine wp_getf (pc := 17) dX11_flattery_17 gf_X11_19 K.ob (by rfl) ?_
    refine wd_Vn (pc := 20) dX11_flattery_20 cl_X11_243 (sp_Row_clear K.ro) rfl rfl K.ro.o (by rfl) (by decide) (Nat.le_of_ble_eq_true rfl) (fun hp20 e20 => ?_)
    obtain ⟨h20, o20⟩ := e20
    replace O := O.inn o20 (by omega) (by omega)
    replace K := K.uRo h20 o20
    refine wp_iconst (pc := 23) dX11_flattery_23 ?_
    refine wp_istore_n (pc := 24) dX11_flattery_24 (by decide) ?_
    refine wp_ls ?_ (lp_D_fl1 hI (by omega) (N + 1) 0 (by omega) (by omega) _ K O)
    repeat' (first | exact LE_0 | refine LE_s rfl ?_ | refine LE_s (I_c (by first | omega | (simp only [sm]; omega))) ?_ | refine LE_s (J_c (by first | omega | exact Int.pow_succ _ _ | exact (Int.pow_succ _ _).symm | exact (Int.pow_zero _).symm | (simp only [sm]; omega))) ?_ | refine LE_n ?_)
  ·
    have e1 := fl_1 (v := flv (stl rt) T) (show N < 2 by omega)
    rw [if_pos e1, if_pos e1] -- go
    refine wp_bipush (pc := 11) (y := (-2)) dX11_flattery_11 (by decide) ?_
    exact wp_ir (pc := 13) dX11_flattery_13 rfl (by decide) (by decide) (by first | rfl | omega) ⟨⟨_, _, _, _, _, K⟩, O⟩
def hw1 (p : Int) : Int := if p = -2 then -1 else p
theorem lp_D_wakes (hI : TI T N) (hH : HS T) (hb : T 7 0 < 1900000000) (K : DA hp D r s Tr z Z T U tx rw rt hs ss KT) (O : SO hp0 hp D (D + 171)) : ∀ (m i : Nat), N < i + m → i ≤ N → wp g MX11_wakes (rm 7 0 0) (Eff (.int (I (wkb (T 5) N))) (fun hp3 => DX hp3 D T U tx (if wkb (T 5) N = -2 then rw else [T 5 (wkb (T 5) N), runT (stl rt) T N (T 5 (wkb (T 5) N)).toNat 3 (wkb (T 5) N)]) rt hs ss KT ∧ SO hp0 hp3 D (D + 171))) 0 0 4 [some (.ref D), some (.int (I (hw1 (wkb (T 5) i)))), some (.int (I (i : Int)))] [] hp := by
  intro m
  induction m with
  | zero => intro i h1 h2; exact absurd h1 (by omega)
  | succ m ih =>
    intro i h1 h2
    obtain ⟨h8, hN⟩ := hI.men
    have q1 := wkb_in (T 5) i
    have h5 := hI.r5 (i : Int)
    have h5w := hI.r5 (wkb (T 5) i)
    have en : ¬ wkb (T 5) i = -2 → hw1 (wkb (T 5) i) = wkb (T 5) i := fun q => if_neg q
    have ep : wkb (T 5) i = -2 → hw1 (wkb (T 5) i) = -1 := fun q => if_pos q
    have er : InR (hw1 (wkb (T 5) i)) := by
      by_cases q : wkb (T 5) i = -2
      · have := ep q; omega
      · have := en q; omega
    refine wp_iload_n (pc := 4) dX11_wakes_4 rfl ?_
    refine wp_aload_n (pc := 5) dX11_wakes_5 rfl ?_
    refine wp_getf (pc := 6) dX11_wakes_6 gf_X11_26 K.ob (by rfl) ?_
    refine wp_getf (pc := 9) dX11_wakes_9 gf_X11_110 (by first | exact K.ob | exact K.to.1 | exact K.tr.1 | exact K.to.2.1 | exact K.to.2.2.1 | exact K.to.2.2.2.1 | exact K.to.2.2.2.2.1 | exact K.to.2.2.2.2.2.1 | exact K.to.2.2.2.2.2.2.1 | exact K.to.2.2.2.2.2.2.2 | exact K.tr.2.1 | exact K.tr.2.2.1 | exact K.tr.2.2.2.1 | exact K.tr.2.2.2.2.1 | exact K.tr.2.2.2.2.2.1 | exact K.tr.2.2.2.2.2.2.1 | exact K.tr.2.2.2.2.2.2.2) (by rfl) ?_
    refine wp_icmp_ge (pc := 12) 60 dX11_wakes_12 (by decide) (by first | omega | exact TI.i5 (by assumption) | exact TI.i3 (by assumption) | exact TI.i2 (by assumption) | exact TI.i1 (by assumption) | exact TI.i0 (by assumption) | exact TI.i4 (by assumption) | exact TI.i6 (by assumption) | exact TI.i7 (by assumption)) (by first | omega | exact TI.i5 (by assumption) | exact TI.i3 (by assumption) | exact TI.i2 (by assumption) | exact TI.i1 (by assumption) | exact TI.i0 (by assumption) | exact TI.i4 (by assumption) | exact TI.i6 (by assumption) | exact TI.i7 (by assumption)) (fun c12 => ?_) (fun c12 => ?_)
    ·
      have e : i = N := by omega
      subst e -- go
      refine wp_iload_n (pc := 60) dX11_wakes_60 rfl ?_
      refine wp_iconst (pc := 61) dX11_wakes_61 ?_
      refine wp_icmp_ne (pc := 62) 68 dX11_wakes_62 (by decide) (by first | omega | exact TI.i5 (by assumption) | exact TI.i3 (by assumption) | exact TI.i2 (by assumption) | exact TI.i1 (by assumption) | exact TI.i0 (by assumption) | exact TI.i4 (by assumption) | exact TI.i6 (by assumption) | exact TI.i7 (by assumption)) (by first | omega | exact TI.i5 (by assumption) | exact TI.i3 (by assumption) | exact TI.i2 (by assumption) | exact TI.i1 (by assumption) | exact TI.i0 (by assumption) | exact TI.i4 (by assumption) | exact TI.i6 (by assumption) | exact TI.i7 (by assumption)) (fun c62 => ?_) (fun c62 => ?_)
      ·
        have q2 : ¬ wkb (T 5) i = -2 := fun q => by have := ep q; omega
        rw [if_neg q2, en q2]
        obtain ⟨m5, e5⟩ := Int.eq_ofNat_of_zero_le h5w.1
        have hI2 := runT_I (cs := stl rt) hI m5 (by omega)
        skip -- go
        refine wp_aload_n (pc := 68) dX11_wakes_68 rfl ?_
        refine wp_getf (pc := 69) dX11_wakes_69 gf_X11_26 K.ob (by rfl) ?_
        refine wp_getf (pc := 72) dX11_wakes_72 gf_X11_160 (by first | exact K.ob | exact K.to.1 | exact K.tr.1 | exact K.to.2.1 | exact K.to.2.2.1 | exact K.to.2.2.2.1 | exact K.to.2.2.2.2.1 | exact K.to.2.2.2.2.2.1 | exact K.to.2.2.2.2.2.2.1 | exact K.to.2.2.2.2.2.2.2 | exact K.tr.2.1 | exact K.tr.2.2.1 | exact K.tr.2.2.2.1 | exact K.tr.2.2.2.2.1 | exact K.tr.2.2.2.2.2.1 | exact K.tr.2.2.2.2.2.2.1 | exact K.tr.2.2.2.2.2.2.2) (by rfl) ?_
        refine wp_iload_n (pc := 75) dX11_wakes_75 rfl ?_
        refine wp_iald (pc := 76) dX11_wakes_76 (by first | exact K.ob | exact K.to.1 | exact K.tr.1 | exact K.to.2.1 | exact K.to.2.2.1 | exact K.to.2.2.2.1 | exact K.to.2.2.2.2.1 | exact K.to.2.2.2.2.2.1 | exact K.to.2.2.2.2.2.2.1 | exact K.to.2.2.2.2.2.2.2 | exact K.tr.2.1 | exact K.tr.2.2.1 | exact K.tr.2.2.2.1 | exact K.tr.2.2.2.2.1 | exact K.tr.2.2.2.2.2.1 | exact K.tr.2.2.2.2.2.2.1 | exact K.tr.2.2.2.2.2.2.2) (by omega) (by omega) (by decide) ?_
        refine wp_topE e5 ?_
        refine wp_istore_n (pc := 77) dX11_wakes_77 (by decide) ?_
        refine wp_aload_n (pc := 78) dX11_wakes_78 rfl ?_
        refine wp_iload_n (pc := 79) dX11_wakes_79 rfl ?_
        refine wd_Vn (pc := 80) dX11_wakes_80 cl_X11_256 (sp_D_lookAhead K (by assumption) (by assumption) (by assumption) (by omega)) rfl rfl K.o (by rfl) (by decide) (Nat.le_of_ble_eq_true rfl) (fun hp80 e80 => ?_)
        obtain ⟨K, O1⟩ := e80; replace O := SO.tr O O1
        refine wp_aload_n (pc := 83) dX11_wakes_83 rfl ?_
        refine wp_getf (pc := 84) dX11_wakes_84 gf_X11_19 K.ob (by rfl) ?_
        refine wp_iload_n (pc := 87) dX11_wakes_87 rfl ?_
        refine wp_i2l (pc := 88) dX11_wakes_88 (by first | omega | exact TI.i5 (by assumption) | exact TI.i3 (by assumption) | exact TI.i2 (by assumption) | exact TI.i1 (by assumption) | exact TI.i0 (by assumption) | exact TI.i4 (by assumption) | exact TI.i6 (by assumption) | exact TI.i7 (by assumption)) ?_
        refine wp_aload_n (pc := 89) dX11_wakes_89 rfl ?_
        refine wp_getf (pc := 90) dX11_wakes_90 gf_X11_30 K.ob (by rfl) ?_
        refine wp_getf (pc := 93) dX11_wakes_93 gf_X11_154 (by first | exact K.ob | exact K.to.1 | exact K.tr.1 | exact K.to.2.1 | exact K.to.2.2.1 | exact K.to.2.2.2.1 | exact K.to.2.2.2.2.1 | exact K.to.2.2.2.2.2.1 | exact K.to.2.2.2.2.2.2.1 | exact K.to.2.2.2.2.2.2.2 | exact K.tr.2.1 | exact K.tr.2.2.1 | exact K.tr.2.2.2.1 | exact K.tr.2.2.2.2.1 | exact K.tr.2.2.2.2.2.1 | exact K.tr.2.2.2.2.2.2.1 | exact K.tr.2.2.2.2.2.2.2) (by rfl) ?_
        refine wp_iload_n (pc := 96) dX11_wakes_96 rfl ?_
        refine wp_iald (pc := 97) dX11_wakes_97 (by first | exact K.ob | exact K.to.1 | exact K.tr.1 | exact K.to.2.1 | exact K.to.2.2.1 | exact K.to.2.2.2.1 | exact K.to.2.2.2.2.1 | exact K.to.2.2.2.2.2.1 | exact K.to.2.2.2.2.2.2.1 | exact K.to.2.2.2.2.2.2.2 | exact K.tr.2.1 | exact K.tr.2.2.1 | exact K.tr.2.2.2.1 | exact K.tr.2.2.2.2.1 | exact K.tr.2.2.2.2.2.1 | exact K.tr.2.2.2.2.2.2.1 | exact K.tr.2.2.2.2.2.2.2) (by omega) (by omega) (by decide) ?_
        refine wp_i2l (pc := 98) dX11_wakes_98 (by first | omega | exact TI.i5 (by assumption) | exact TI.i3 (by assumption) | exact TI.i2 (by assumption) | exact TI.i1 (by assumption) | exact TI.i0 (by assumption) | exact TI.i4 (by assumption) | exact TI.i6 (by assumption) | exact TI.i7 (by assumption)) ?_
        refine wd_Vn (pc := 99) dX11_wakes_99 cl_X11_204 (sp_Row_tell_ K.ro) rfl rfl K.ro.o (by rfl) (by decide) (Nat.le_of_ble_eq_true rfl) (fun hp99 e99 => ?_)
        obtain ⟨h99, o99⟩ := e99
        replace O := O.inn o99 (by omega) (by omega)
        replace K := K.uRo h99 o99
        rw [e5]
        refine wp_iload_n (pc := 102) dX11_wakes_102 rfl ?_
        exact wp_ir (pc := 103) dX11_wakes_103 rfl (by decide) (by decide) (by first | rfl | omega) ⟨⟨_, _, _, _, _, K⟩, O⟩
      ·
        have q2 : wkb (T 5) i = -2 := by
          by_cases q : wkb (T 5) i = -2
          · exact q
          · have := en q; omega
        rw [if_pos q2, q2] -- go
        refine wp_bipush (pc := 65) (y := (-2)) dX11_wakes_65 (by decide) ?_
        exact wp_ir (pc := 67) dX11_wakes_67 rfl (by decide) (by decide) (by first | rfl | omega) ⟨⟨_, _, _, _, _, K⟩, O⟩
    ·
      refine wp_aload_n (pc := 15) dX11_wakes_15 rfl ?_
      refine wp_getf (pc := 16) dX11_wakes_16 gf_X11_26 K.ob (by rfl) ?_
      refine wp_iload_n (pc := 19) dX11_wakes_19 rfl ?_
      refine wd_Vp (pc := 20) dX11_wakes_20 cl_X11_244 (sp_Town_lives (by first | assumption | omega | exact K.to | exact K.tr | exact K.to.2.1 | exact K.to.2.2.1 | exact K.to.2.2.2.1 | exact K.to.2.2.2.2.1 | exact K.to.2.2.2.2.2.1 | exact K.to.2.2.2.2.2.2.1 | exact K.to.2.2.2.2.2.2.2 | exact K.tr.2.1 | exact K.tr.2.2.1 | exact K.tr.2.2.2.1 | exact K.tr.2.2.2.2.1 | exact K.tr.2.2.2.2.2.1 | exact K.tr.2.2.2.2.2.2.1 | exact K.tr.2.2.2.2.2.2.2) (by first | assumption | omega | exact K.to | exact K.tr | exact K.to.2.1 | exact K.to.2.2.1 | exact K.to.2.2.2.1 | exact K.to.2.2.2.2.1 | exact K.to.2.2.2.2.2.1 | exact K.to.2.2.2.2.2.2.1 | exact K.to.2.2.2.2.2.2.2 | exact K.tr.2.1 | exact K.tr.2.2.1 | exact K.tr.2.2.2.1 | exact K.tr.2.2.2.2.1 | exact K.tr.2.2.2.2.2.1 | exact K.tr.2.2.2.2.2.2.1 | exact K.tr.2.2.2.2.2.2.2) (by first | assumption | omega | exact K.to | exact K.tr | exact K.to.2.1 | exact K.to.2.2.1 | exact K.to.2.2.2.1 | exact K.to.2.2.2.2.1 | exact K.to.2.2.2.2.2.1 | exact K.to.2.2.2.2.2.2.1 | exact K.to.2.2.2.2.2.2.2 | exact K.tr.2.1 | exact K.tr.2.2.1 | exact K.tr.2.2.2.1 | exact K.tr.2.2.2.2.1 | exact K.tr.2.2.2.2.2.1 | exact K.tr.2.2.2.2.2.2.1 | exact K.tr.2.2.2.2.2.2.2) (by first | assumption | omega | exact K.to | exact K.tr | exact K.to.2.1 | exact K.to.2.2.1 | exact K.to.2.2.2.1 | exact K.to.2.2.2.2.1 | exact K.to.2.2.2.2.2.1 | exact K.to.2.2.2.2.2.2.1 | exact K.to.2.2.2.2.2.2.2 | exact K.tr.2.1 | exact K.tr.2.2.1 | exact K.tr.2.2.2.1 | exact K.tr.2.2.2.2.1 | exact K.tr.2.2.2.2.2.1 | exact K.tr.2.2.2.2.2.2.1 | exact K.tr.2.2.2.2.2.2.2)) rfl rfl (by first | exact K.to.o | exact K.tr.o | exact K.k0.o | exact K.k1.o) (by rfl) (by decide) (Nat.le_of_ble_eq_true rfl) ?_
      first | refine wp_ifb_ne (pc := 23) 54 dX11_wakes_23 (by decide) (fun c23 => ?_) (fun c23 => ?_) | refine wp_if_ne (pc := 23) 54 dX11_wakes_23 (by decide) (by first | omega | exact TI.i5 (by assumption) | exact TI.i3 (by assumption) | exact TI.i2 (by assumption) | exact TI.i1 (by assumption) | exact TI.i0 (by assumption) | exact TI.i4 (by assumption) | exact TI.i6 (by assumption) | exact TI.i7 (by assumption)) (fun c23 => ?_) (fun c23 => ?_)
      ·
        have e1 : wkb (T 5) (i + 1) = wkb (T 5) i := if_neg (fun q => by have := q.1; omega)
        have eh : hw1 (wkb (T 5) (i + 1)) = hw1 (wkb (T 5) i) := by rw [e1]
        skip -- go
        refine wp_iinc (pc := 54) dX11_wakes_54 rfl (by decide) ?_
        refine wp_goto (pc := 57) 4 dX11_wakes_57 (by decide) ?_
        refine wp_ls ?_ (ih (i + 1) (by omega) (by omega))
        rw [eh]
        repeat' (first | exact LE_0 | refine LE_s rfl ?_ | refine LE_s (I_c (by first | omega | (simp only [sm]; omega))) ?_ | refine LE_s (J_c (by first | omega | exact Int.pow_succ _ _ | exact (Int.pow_succ _ _).symm | exact (Int.pow_zero _).symm | (simp only [sm]; omega))) ?_ | refine LE_n ?_)
      ·
        refine wp_iload_n (pc := 26) dX11_wakes_26 rfl ?_
        refine wp_iconst (pc := 27) dX11_wakes_27 ?_
        refine wp_icmp_eq (pc := 28) 52 dX11_wakes_28 (by decide) (by first | omega | exact TI.i5 (by assumption) | exact TI.i3 (by assumption) | exact TI.i2 (by assumption) | exact TI.i1 (by assumption) | exact TI.i0 (by assumption) | exact TI.i4 (by assumption) | exact TI.i6 (by assumption) | exact TI.i7 (by assumption)) (by first | omega | exact TI.i5 (by assumption) | exact TI.i3 (by assumption) | exact TI.i2 (by assumption) | exact TI.i1 (by assumption) | exact TI.i0 (by assumption) | exact TI.i4 (by assumption) | exact TI.i6 (by assumption) | exact TI.i7 (by assumption)) (fun c28 => ?_) (fun c28 => ?_)
        ·
          have e1 : wkb (T 5) (i + 1) = (i : Int) := if_pos ⟨by omega, .inl (by
            by_cases q : wkb (T 5) i = -2
            · exact q
            · have := en q; omega)⟩
          have eh : hw1 (wkb (T 5) (i + 1)) = (i : Int) := by rw [e1]; exact if_neg (by omega)
          skip -- go
          refine wp_iload_n (pc := 52) dX11_wakes_52 rfl ?_
          refine wp_istore_n (pc := 53) dX11_wakes_53 (by decide) ?_
          refine wp_iinc (pc := 54) dX11_wakes_54 rfl (by decide) ?_
          refine wp_goto (pc := 57) 4 dX11_wakes_57 (by decide) ?_
          refine wp_ls ?_ (ih (i + 1) (by omega) (by omega))
          rw [eh]
          repeat' (first | exact LE_0 | refine LE_s rfl ?_ | refine LE_s (I_c (by first | omega | (simp only [sm]; omega))) ?_ | refine LE_s (J_c (by first | omega | exact Int.pow_succ _ _ | exact (Int.pow_succ _ _).symm | exact (Int.pow_zero _).symm | (simp only [sm]; omega))) ?_ | refine LE_n ?_)
        ·
          have q2 : ¬ wkb (T 5) i = -2 := fun q => by have := ep q; omega
          rw [en q2] -- go
          refine wp_aload_n (pc := 31) dX11_wakes_31 rfl ?_
          refine wp_getf (pc := 32) dX11_wakes_32 gf_X11_26 K.ob (by rfl) ?_
          refine wp_getf (pc := 35) dX11_wakes_35 gf_X11_160 (by first | exact K.ob | exact K.to.1 | exact K.tr.1 | exact K.to.2.1 | exact K.to.2.2.1 | exact K.to.2.2.2.1 | exact K.to.2.2.2.2.1 | exact K.to.2.2.2.2.2.1 | exact K.to.2.2.2.2.2.2.1 | exact K.to.2.2.2.2.2.2.2 | exact K.tr.2.1 | exact K.tr.2.2.1 | exact K.tr.2.2.2.1 | exact K.tr.2.2.2.2.1 | exact K.tr.2.2.2.2.2.1 | exact K.tr.2.2.2.2.2.2.1 | exact K.tr.2.2.2.2.2.2.2) (by rfl) ?_
          refine wp_iload_n (pc := 38) dX11_wakes_38 rfl ?_
          refine wp_iald (pc := 39) dX11_wakes_39 (by first | exact K.ob | exact K.to.1 | exact K.tr.1 | exact K.to.2.1 | exact K.to.2.2.1 | exact K.to.2.2.2.1 | exact K.to.2.2.2.2.1 | exact K.to.2.2.2.2.2.1 | exact K.to.2.2.2.2.2.2.1 | exact K.to.2.2.2.2.2.2.2 | exact K.tr.2.1 | exact K.tr.2.2.1 | exact K.tr.2.2.2.1 | exact K.tr.2.2.2.2.1 | exact K.tr.2.2.2.2.2.1 | exact K.tr.2.2.2.2.2.2.1 | exact K.tr.2.2.2.2.2.2.2) (by omega) (by omega) (by decide) ?_
          refine wp_aload_n (pc := 40) dX11_wakes_40 rfl ?_
          refine wp_getf (pc := 41) dX11_wakes_41 gf_X11_26 K.ob (by rfl) ?_
          refine wp_getf (pc := 44) dX11_wakes_44 gf_X11_160 (by first | exact K.ob | exact K.to.1 | exact K.tr.1 | exact K.to.2.1 | exact K.to.2.2.1 | exact K.to.2.2.2.1 | exact K.to.2.2.2.2.1 | exact K.to.2.2.2.2.2.1 | exact K.to.2.2.2.2.2.2.1 | exact K.to.2.2.2.2.2.2.2 | exact K.tr.2.1 | exact K.tr.2.2.1 | exact K.tr.2.2.2.1 | exact K.tr.2.2.2.2.1 | exact K.tr.2.2.2.2.2.1 | exact K.tr.2.2.2.2.2.2.1 | exact K.tr.2.2.2.2.2.2.2) (by rfl) ?_
          refine wp_iload_n (pc := 47) dX11_wakes_47 rfl ?_
          refine wp_iald (pc := 48) dX11_wakes_48 (by first | exact K.ob | exact K.to.1 | exact K.tr.1 | exact K.to.2.1 | exact K.to.2.2.1 | exact K.to.2.2.2.1 | exact K.to.2.2.2.2.1 | exact K.to.2.2.2.2.2.1 | exact K.to.2.2.2.2.2.2.1 | exact K.to.2.2.2.2.2.2.2 | exact K.tr.2.1 | exact K.tr.2.2.1 | exact K.tr.2.2.2.1 | exact K.tr.2.2.2.2.1 | exact K.tr.2.2.2.2.2.1 | exact K.tr.2.2.2.2.2.2.1 | exact K.tr.2.2.2.2.2.2.2) (by omega) (by omega) (by decide) ?_
          refine wp_icmp_ge (pc := 49) 54 dX11_wakes_49 (by decide) (by first | omega | exact TI.i5 (by assumption) | exact TI.i3 (by assumption) | exact TI.i2 (by assumption) | exact TI.i1 (by assumption) | exact TI.i0 (by assumption) | exact TI.i4 (by assumption) | exact TI.i6 (by assumption) | exact TI.i7 (by assumption)) (by first | omega | exact TI.i5 (by assumption) | exact TI.i3 (by assumption) | exact TI.i2 (by assumption) | exact TI.i1 (by assumption) | exact TI.i0 (by assumption) | exact TI.i4 (by assumption) | exact TI.i6 (by assumption) | exact TI.i7 (by assumption)) (fun c49 => ?_) (fun c49 => ?_)
          ·
            have e1 : wkb (T 5) (i + 1) = wkb (T 5) i := if_neg (fun q => by have := q.2; omega)
            have eh : hw1 (wkb (T 5) (i + 1)) = wkb (T 5) i := by rw [e1]; exact en q2
            skip -- go
            refine wp_iinc (pc := 54) dX11_wakes_54 rfl (by decide) ?_
            refine wp_goto (pc := 57) 4 dX11_wakes_57 (by decide) ?_
            refine wp_ls ?_ (ih (i + 1) (by omega) (by omega))
            rw [eh]
            repeat' (first | exact LE_0 | refine LE_s rfl ?_ | refine LE_s (I_c (by first | omega | (simp only [sm]; omega))) ?_ | refine LE_s (J_c (by first | omega | exact Int.pow_succ _ _ | exact (Int.pow_succ _ _).symm | exact (Int.pow_zero _).symm | (simp only [sm]; omega))) ?_ | refine LE_n ?_)
          ·
            have e1 : wkb (T 5) (i + 1) = (i : Int) := if_pos ⟨by omega, .inr (by omega)⟩
            have eh : hw1 (wkb (T 5) (i + 1)) = (i : Int) := by rw [e1]; exact if_neg (by omega)
            skip -- go
            refine wp_iload_n (pc := 52) dX11_wakes_52 rfl ?_
            refine wp_istore_n (pc := 53) dX11_wakes_53 (by decide) ?_
            refine wp_iinc (pc := 54) dX11_wakes_54 rfl (by decide) ?_
            refine wp_goto (pc := 57) 4 dX11_wakes_57 (by decide) ?_
            refine wp_ls ?_ (ih (i + 1) (by omega) (by omega))
            rw [eh]
            repeat' (first | exact LE_0 | refine LE_s rfl ?_ | refine LE_s (I_c (by first | omega | (simp only [sm]; omega))) ?_ | refine LE_s (J_c (by first | omega | exact Int.pow_succ _ _ | exact (Int.pow_succ _ _).symm | exact (Int.pow_zero _).symm | (simp only [sm]; omega))) ?_ | refine LE_n ?_)
theorem sp_D_wakes (K : DA hp D r s Tr z Z T U tx rw rt hs ss KT) (hI : TI T N) (hH : HS T) (hb : T 7 0 < 1900000000) : Sp g MX11_wakes (rm 7 0 0) [.ref D] hp (Eff (.int (I (wkb (T 5) N))) (fun hp2 => DX hp2 D T U tx (if wkb (T 5) N = -2 then rw else [T 5 (wkb (T 5) N), runT (stl rt) T N (T 5 (wkb (T 5) N)).toNat 3 (wkb (T 5) N)]) rt hs ss KT ∧ SO hp hp2 D (D + 171))) := by
  refine Sp_mk rfl (Nat.le_of_ble_eq_true rfl) ?_
  show wp g _ _ _ 0 0 0 [some (.ref D), none, none] [] hp
  have O := SO.rf (hp := hp) (lo := D) (hi := D + 171)
  refine wp_iconst (pc := 0) dX11_wakes_0 ?_
  refine wp_istore_n (pc := 1) dX11_wakes_1 (by decide) ?_
  refine wp_iconst (pc := 2) dX11_wakes_2 ?_
  refine wp_istore_n (pc := 3) dX11_wakes_3 (by decide) ?_
  refine wp_ls ?_ (lp_D_wakes hI hH hb K O (N + 1) 0 (by omega) (by omega))
  show LE _ [_, some (.int (I (-1))), _]
  repeat' (first | exact LE_0 | refine LE_s rfl ?_ | refine LE_s (I_c (by first | omega | (simp only [sm]; omega))) ?_ | refine LE_s (J_c (by first | omega | exact Int.pow_succ _ _ | exact (Int.pow_succ _ _).symm | exact (Int.pow_zero _).symm | (simp only [sm]; omega))) ?_ | refine LE_n ?_)
theorem lp_D_echo (hI : TI T N) (hk : k < N) (K : DA hp D r s Tr z Z T U tx rw rt hs ss KT) (O : SO hp0 hp D (D + 171)) : ∀ (m i : Nat), N < i + m → i ≤ N → wp g MX11_echo (rm 3 0 0) (Eff (.int (I ((bits (ecb T k) N : Nat) : Int))) (fun hp3 => DX hp3 D T U tx [((popc (bits (ecb T k) N) : Nat) : Int), ((bits (ecb T k) N &&& (T 6 (k : Int)).toNat : Nat) : Int)] rt hs ss KT ∧ SO hp0 hp3 D (D + 171))) 0 0 17 [some (.ref D), some (.int (I (k : Int))), some (.int (I ((bits (ecb T k) i : Nat) : Int))), some (.int (I (i : Int)))] [] hp := by
  intro m
  induction m with
  | zero => intro i h1 h2; exact absurd h1 (by omega)
  | succ m ih =>
    intro i h1 h2
    obtain ⟨h8, hN⟩ := hI.men
    have h6 := hI.r6 (i : Int)
    have h6k := hI.r6 (k : Int)
    have h64 := bits64 (P := ecb T k) (N := N) hN
    have hpc := popc_le (bits (ecb T k) N)
    refine wp_iload_n (pc := 17) dX11_echo_17 rfl ?_
    refine wp_aload_n (pc := 18) dX11_echo_18 rfl ?_
    refine wp_getf (pc := 19) dX11_echo_19 gf_X11_26 K.ob (by rfl) ?_
    refine wp_getf (pc := 22) dX11_echo_22 gf_X11_110 (by first | exact K.ob | exact K.to.1 | exact K.tr.1 | exact K.to.2.1 | exact K.to.2.2.1 | exact K.to.2.2.2.1 | exact K.to.2.2.2.2.1 | exact K.to.2.2.2.2.2.1 | exact K.to.2.2.2.2.2.2.1 | exact K.to.2.2.2.2.2.2.2 | exact K.tr.2.1 | exact K.tr.2.2.1 | exact K.tr.2.2.2.1 | exact K.tr.2.2.2.2.1 | exact K.tr.2.2.2.2.2.1 | exact K.tr.2.2.2.2.2.2.1 | exact K.tr.2.2.2.2.2.2.2) (by rfl) ?_
    refine wp_icmp_ge (pc := 25) 56 dX11_echo_25 (by decide) (by first | omega | exact TI.i5 (by assumption) | exact TI.i3 (by assumption) | exact TI.i2 (by assumption) | exact TI.i1 (by assumption) | exact TI.i0 (by assumption) | exact TI.i4 (by assumption) | exact TI.i6 (by assumption) | exact TI.i7 (by assumption)) (by first | omega | exact TI.i5 (by assumption) | exact TI.i3 (by assumption) | exact TI.i2 (by assumption) | exact TI.i1 (by assumption) | exact TI.i0 (by assumption) | exact TI.i4 (by assumption) | exact TI.i6 (by assumption) | exact TI.i7 (by assumption)) (fun c25 => ?_) (fun c25 => ?_)
    ·
      have e : i = N := by omega
      subst e -- go
      refine wp_aload_n (pc := 56) dX11_echo_56 rfl ?_
      refine wp_getf (pc := 57) dX11_echo_57 gf_X11_19 K.ob (by rfl) ?_
      refine wp_iload_n (pc := 60) dX11_echo_60 rfl ?_
      refine wp_Sp (pc := 61) dX11_echo_61 cl_X11_292 (sp_Integer_bitCount h64) rfl rfl (by decide) (Nat.le_of_ble_eq_true rfl) ?_
      refine wp_i2l (pc := 64) dX11_echo_64 (by first | omega | exact TI.i5 (by assumption) | exact TI.i3 (by assumption) | exact TI.i2 (by assumption) | exact TI.i1 (by assumption) | exact TI.i0 (by assumption) | exact TI.i4 (by assumption) | exact TI.i6 (by assumption) | exact TI.i7 (by assumption)) ?_
      refine wp_aload_n (pc := 65) dX11_echo_65 rfl ?_
      refine wp_getf (pc := 66) dX11_echo_66 gf_X11_26 K.ob (by rfl) ?_
      refine wp_getf (pc := 69) dX11_echo_69 gf_X11_163 (by first | exact K.ob | exact K.to.1 | exact K.tr.1 | exact K.to.2.1 | exact K.to.2.2.1 | exact K.to.2.2.2.1 | exact K.to.2.2.2.2.1 | exact K.to.2.2.2.2.2.1 | exact K.to.2.2.2.2.2.2.1 | exact K.to.2.2.2.2.2.2.2 | exact K.tr.2.1 | exact K.tr.2.2.1 | exact K.tr.2.2.2.1 | exact K.tr.2.2.2.2.1 | exact K.tr.2.2.2.2.2.1 | exact K.tr.2.2.2.2.2.2.1 | exact K.tr.2.2.2.2.2.2.2) (by rfl) ?_
      refine wp_iload_n (pc := 72) dX11_echo_72 rfl ?_
      refine wp_iald (pc := 73) dX11_echo_73 (by first | exact K.ob | exact K.to.1 | exact K.tr.1 | exact K.to.2.1 | exact K.to.2.2.1 | exact K.to.2.2.2.1 | exact K.to.2.2.2.2.1 | exact K.to.2.2.2.2.2.1 | exact K.to.2.2.2.2.2.2.1 | exact K.to.2.2.2.2.2.2.2 | exact K.tr.2.1 | exact K.tr.2.2.1 | exact K.tr.2.2.2.1 | exact K.tr.2.2.2.2.1 | exact K.tr.2.2.2.2.2.1 | exact K.tr.2.2.2.2.2.2.1 | exact K.tr.2.2.2.2.2.2.2) (by omega) (by omega) (by decide) ?_
      refine wp_topE (show T 6 (k : Int) = (((T 6 (k : Int)).toNat : Nat) : Int) by omega) ?_
      refine wp_iload_n (pc := 74) dX11_echo_74 rfl ?_
      refine wp_iand (pc := 75) dX11_echo_75 I_and ?_
      have hle : bits (ecb T k) i &&& (T 6 (k : Int)).toNat ≤ (T 6 (k : Int)).toNat := Nat.and_le_right
      rw [Nat.and_comm (T 6 (k : Int)).toNat]
      refine wp_i2l (pc := 76) dX11_echo_76 (by first | omega | exact TI.i5 (by assumption) | exact TI.i3 (by assumption) | exact TI.i2 (by assumption) | exact TI.i1 (by assumption) | exact TI.i0 (by assumption) | exact TI.i4 (by assumption) | exact TI.i6 (by assumption) | exact TI.i7 (by assumption)) ?_
      refine wd_Vn (pc := 77) dX11_echo_77 cl_X11_204 (sp_Row_tell_ K.ro) rfl rfl K.ro.o (by rfl) (by decide) (Nat.le_of_ble_eq_true rfl) (fun hp77 e77 => ?_)
      obtain ⟨h77, o77⟩ := e77
      replace O := O.inn o77 (by omega) (by omega)
      replace K := K.uRo h77 o77
      refine wp_iload_n (pc := 80) dX11_echo_80 rfl ?_
      exact wp_ir (pc := 81) dX11_echo_81 rfl (by decide) (by decide) (by first | rfl | omega) ⟨⟨_, _, _, _, _, K⟩, O⟩
    ·
      refine wp_iload_n (pc := 28) dX11_echo_28 rfl ?_
      refine wp_aload_n (pc := 29) dX11_echo_29 rfl ?_
      refine wp_getf (pc := 30) dX11_echo_30 gf_X11_26 K.ob (by rfl) ?_
      refine wp_getf (pc := 33) dX11_echo_33 gf_X11_163 (by first | exact K.ob | exact K.to.1 | exact K.tr.1 | exact K.to.2.1 | exact K.to.2.2.1 | exact K.to.2.2.2.1 | exact K.to.2.2.2.2.1 | exact K.to.2.2.2.2.2.1 | exact K.to.2.2.2.2.2.2.1 | exact K.to.2.2.2.2.2.2.2 | exact K.tr.2.1 | exact K.tr.2.2.1 | exact K.tr.2.2.2.1 | exact K.tr.2.2.2.2.1 | exact K.tr.2.2.2.2.2.1 | exact K.tr.2.2.2.2.2.2.1 | exact K.tr.2.2.2.2.2.2.2) (by rfl) ?_
      refine wp_iload_n (pc := 36) dX11_echo_36 rfl ?_
      refine wp_iald (pc := 37) dX11_echo_37 (by first | exact K.ob | exact K.to.1 | exact K.tr.1 | exact K.to.2.1 | exact K.to.2.2.1 | exact K.to.2.2.2.1 | exact K.to.2.2.2.2.1 | exact K.to.2.2.2.2.2.1 | exact K.to.2.2.2.2.2.2.1 | exact K.to.2.2.2.2.2.2.2 | exact K.tr.2.1 | exact K.tr.2.2.1 | exact K.tr.2.2.2.1 | exact K.tr.2.2.2.2.1 | exact K.tr.2.2.2.2.2.1 | exact K.tr.2.2.2.2.2.2.1 | exact K.tr.2.2.2.2.2.2.2) (by omega) (by omega) (by decide) ?_
      refine wp_topE (show T 6 (i : Int) = (((T 6 (i : Int)).toNat : Nat) : Int) by omega) ?_
      refine wp_Sp (pc := 38) dX11_echo_38 cl_X11_274 (sp_D_isIn (by omega) (by omega)) rfl rfl (by decide) (Nat.le_of_ble_eq_true rfl) ?_
      first | refine wp_ifb_eq (pc := 41) 50 dX11_echo_41 (by decide) (fun c41 => ?_) (fun c41 => ?_) | refine wp_if_eq (pc := 41) 50 dX11_echo_41 (by decide) (by first | omega | exact TI.i5 (by assumption) | exact TI.i3 (by assumption) | exact TI.i2 (by assumption) | exact TI.i1 (by assumption) | exact TI.i0 (by assumption) | exact TI.i4 (by assumption) | exact TI.i6 (by assumption) | exact TI.i7 (by assumption)) (fun c41 => ?_) (fun c41 => ?_)
      ·
        have e : bits (ecb T k) (i + 1) = bits (ecb T k) i := by show _ ||| (if (T 6 (i : Int)).toNat.testBit k = true then _ else _) = _; rw [if_neg c41, Nat.or_zero]
        rw [← e] -- go
        refine wp_iinc (pc := 50) dX11_echo_50 rfl (by decide) ?_
        refine wp_goto (pc := 53) 17 dX11_echo_53 (by decide) ?_
        refine wp_ls ?_ (ih (i + 1) (by omega) (by omega))
        · repeat' (first | exact LE_0 | refine LE_s rfl ?_ | refine LE_s (I_c (by first | omega | (simp only [sm]; omega))) ?_ | refine LE_s (J_c (by first | omega | exact Int.pow_succ _ _ | exact (Int.pow_succ _ _).symm | exact (Int.pow_zero _).symm | (simp only [sm]; omega))) ?_ | refine LE_n ?_)
      ·
        have e : bits (ecb T k) (i + 1) = bits (ecb T k) i ||| 2 ^ i := by show _ ||| (if (T 6 (i : Int)).toNat.testBit k = true then _ else _) = _; rw [if_pos c41]
        skip -- go
        refine wp_iload_n (pc := 44) dX11_echo_44 rfl ?_
        refine wp_iconst (pc := 45) dX11_echo_45 ?_
        refine wp_iload_n (pc := 46) dX11_echo_46 rfl ?_
        refine wp_ishl (pc := 47) dX11_echo_47 (I_shl (by omega)) ?_
        refine wp_ior (pc := 48) dX11_echo_48 I_or ?_
        rw [← e]
        refine wp_istore_n (pc := 49) dX11_echo_49 (by decide) ?_
        refine wp_iinc (pc := 50) dX11_echo_50 rfl (by decide) ?_
        refine wp_goto (pc := 53) 17 dX11_echo_53 (by decide) ?_
        refine wp_ls ?_ (ih (i + 1) (by omega) (by omega))
        · repeat' (first | exact LE_0 | refine LE_s rfl ?_ | refine LE_s (I_c (by first | omega | (simp only [sm]; omega))) ?_ | refine LE_s (J_c (by first | omega | exact Int.pow_succ _ _ | exact (Int.pow_succ _ _).symm | exact (Int.pow_zero _).symm | (simp only [sm]; omega))) ?_ | refine LE_n ?_)
theorem sp_D_echo (K : DA hp D r s Tr z Z T U tx rw rt hs ss KT) (hI : TI T N) (rx : InR x) : Sp g MX11_echo (rm 3 0 0) [.ref D, .int (I x)] hp (Eff (.int (I (if 0 ≤ x ∧ x < N then ((bits (ecb T x.toNat) N : Nat) : Int) else -1))) (fun hp2 => DX hp2 D T U tx (if 0 ≤ x ∧ x < N then [((popc (bits (ecb T x.toNat) N) : Nat) : Int), ((bits (ecb T x.toNat) N &&& (T 6 x).toNat : Nat) : Int)] else rw) rt hs ss KT ∧ SO hp hp2 D (D + 171))) := by
  refine Sp_mk rfl (Nat.le_of_ble_eq_true rfl) ?_
  show wp g _ _ _ 0 0 0 [some (.ref D), some (.int (I x)), none, none] [] hp
  have O := SO.rf (hp := hp) (lo := D) (hi := D + 171)
  refine wp_aload_n (pc := 0) dX11_echo_0 rfl ?_
  refine wp_getf (pc := 1) dX11_echo_1 gf_X11_26 K.ob (by rfl) ?_
  refine wp_iload_n (pc := 4) dX11_echo_4 rfl ?_
  refine wd_Vp (pc := 5) dX11_echo_5 cl_X11_148 (sp_Town_has (by first | assumption | omega | exact K.to | exact K.tr | exact K.to.2.1 | exact K.to.2.2.1 | exact K.to.2.2.2.1 | exact K.to.2.2.2.2.1 | exact K.to.2.2.2.2.2.1 | exact K.to.2.2.2.2.2.2.1 | exact K.to.2.2.2.2.2.2.2 | exact K.tr.2.1 | exact K.tr.2.2.1 | exact K.tr.2.2.2.1 | exact K.tr.2.2.2.2.1 | exact K.tr.2.2.2.2.2.1 | exact K.tr.2.2.2.2.2.2.1 | exact K.tr.2.2.2.2.2.2.2) (by first | assumption | omega | exact K.to | exact K.tr | exact K.to.2.1 | exact K.to.2.2.1 | exact K.to.2.2.2.1 | exact K.to.2.2.2.2.1 | exact K.to.2.2.2.2.2.1 | exact K.to.2.2.2.2.2.2.1 | exact K.to.2.2.2.2.2.2.2 | exact K.tr.2.1 | exact K.tr.2.2.1 | exact K.tr.2.2.2.1 | exact K.tr.2.2.2.2.1 | exact K.tr.2.2.2.2.2.1 | exact K.tr.2.2.2.2.2.2.1 | exact K.tr.2.2.2.2.2.2.2) (by first | assumption | omega | exact K.to | exact K.tr | exact K.to.2.1 | exact K.to.2.2.1 | exact K.to.2.2.2.1 | exact K.to.2.2.2.2.1 | exact K.to.2.2.2.2.2.1 | exact K.to.2.2.2.2.2.2.1 | exact K.to.2.2.2.2.2.2.2 | exact K.tr.2.1 | exact K.tr.2.2.1 | exact K.tr.2.2.2.1 | exact K.tr.2.2.2.2.1 | exact K.tr.2.2.2.2.2.1 | exact K.tr.2.2.2.2.2.2.1 | exact K.tr.2.2.2.2.2.2.2)) rfl rfl (by first | exact K.to.o | exact K.tr.o | exact K.k0.o | exact K.k1.o) (by rfl) (by decide) (Nat.le_of_ble_eq_true rfl) ?_
  first | refine wp_ifb_ne (pc := 8) 13 dX11_echo_8 (by decide) (fun c8 => ?_) (fun c8 => ?_) | refine wp_if_ne (pc := 8) 13 dX11_echo_8 (by decide) (by first | omega | exact TI.i5 (by assumption) | exact TI.i3 (by assumption) | exact TI.i2 (by assumption) | exact TI.i1 (by assumption) | exact TI.i0 (by assumption) | exact TI.i4 (by assumption) | exact TI.i6 (by assumption) | exact TI.i7 (by assumption)) (fun c8 => ?_) (fun c8 => ?_)
  ·
    rw [if_pos c8, if_pos c8]
    obtain ⟨k, rfl⟩ := Int.eq_ofNat_of_zero_le c8.1 -- go
    refine wp_iconst (pc := 13) dX11_echo_13 ?_
    refine wp_istore_n (pc := 14) dX11_echo_14 (by decide) ?_
    refine wp_iconst (pc := 15) dX11_echo_15 ?_
    refine wp_istore_n (pc := 16) dX11_echo_16 (by decide) ?_
    refine wp_ls ?_ (lp_D_echo hI (by omega) K O (N + 1) 0 (by omega) (by omega))
    repeat' (first | exact LE_0 | refine LE_s rfl ?_ | refine LE_s (I_c (by first | omega | (simp only [sm]; omega))) ?_ | refine LE_s (J_c (by first | omega | exact Int.pow_succ _ _ | exact (Int.pow_succ _ _).symm | exact (Int.pow_zero _).symm | (simp only [sm]; omega))) ?_ | refine LE_n ?_)
  ·
    rw [if_neg c8, if_neg c8] -- go
    refine wp_iconst (pc := 11) dX11_echo_11 ?_
    exact wp_ir (pc := 12) dX11_echo_12 rfl (by decide) (by decide) (by first | rfl | omega) ⟨⟨_, _, _, _, _, K⟩, O⟩
theorem lp_D_settles (hI : TI T N) : ∀ (m i : Nat), N < i + m → i ≤ N → ∀ (hp2 : Hp) (K : DA hp2 D r s Tr z Z T U tx (tab (fun i => 1000 + bal T i N) i) rt hs ss KT) (O : SO hp hp2 D (D + 171)), wp g MX11_settles (rm 5 0 0) (Eff (.int (I ((N : Int) - gall T N))) (fun hp3 => DX hp3 D T U tx (tab (fun i => 1000 + bal T i N) N) rt hs ss KT ∧ SO hp hp3 D (D + 171))) 0 0 9 [some (.ref D), some (.int (I (i : Int)))] [] hp2 := by
  intro m
  induction m with
  | zero => intro i h1 h2; exact absurd h1 (by omega)
  | succ m ih =>
    intro i h1 h2 hp2 K O
    obtain ⟨h8, hN⟩ := hI.men
    have htl := tab_len (fun i => 1000 + bal T i N) i
    have hb := bal_in hI (p := (i : Int))
    refine wp_iload_n (pc := 9) dX11_settles_9 rfl ?_
    refine wp_aload_n (pc := 10) dX11_settles_10 rfl ?_
    refine wp_getf (pc := 11) dX11_settles_11 gf_X11_26 K.ob (by rfl) ?_
    refine wp_getf (pc := 14) dX11_settles_14 gf_X11_110 (by first | exact K.ob | exact K.to.1 | exact K.tr.1 | exact K.to.2.1 | exact K.to.2.2.1 | exact K.to.2.2.2.1 | exact K.to.2.2.2.2.1 | exact K.to.2.2.2.2.2.1 | exact K.to.2.2.2.2.2.2.1 | exact K.to.2.2.2.2.2.2.2 | exact K.tr.2.1 | exact K.tr.2.2.1 | exact K.tr.2.2.2.1 | exact K.tr.2.2.2.2.1 | exact K.tr.2.2.2.2.2.1 | exact K.tr.2.2.2.2.2.2.1 | exact K.tr.2.2.2.2.2.2.2) (by rfl) ?_
    refine wp_icmp_ge (pc := 17) 46 dX11_settles_17 (by decide) (by first | omega | exact TI.i5 (by assumption) | exact TI.i3 (by assumption) | exact TI.i2 (by assumption) | exact TI.i1 (by assumption) | exact TI.i0 (by assumption) | exact TI.i4 (by assumption) | exact TI.i6 (by assumption) | exact TI.i7 (by assumption)) (by first | omega | exact TI.i5 (by assumption) | exact TI.i3 (by assumption) | exact TI.i2 (by assumption) | exact TI.i1 (by assumption) | exact TI.i0 (by assumption) | exact TI.i4 (by assumption) | exact TI.i6 (by assumption) | exact TI.i7 (by assumption)) (fun c17 => ?_) (fun c17 => ?_)
    ·
      have e : i = N := by omega
      subst e -- go
      refine wp_aload_n (pc := 46) dX11_settles_46 rfl ?_
      refine wp_getf (pc := 47) dX11_settles_47 gf_X11_26 K.ob (by rfl) ?_
      refine wp_getf (pc := 50) dX11_settles_50 gf_X11_110 (by first | exact K.ob | exact K.to.1 | exact K.tr.1 | exact K.to.2.1 | exact K.to.2.2.1 | exact K.to.2.2.2.1 | exact K.to.2.2.2.2.1 | exact K.to.2.2.2.2.2.1 | exact K.to.2.2.2.2.2.2.1 | exact K.to.2.2.2.2.2.2.2 | exact K.tr.2.1 | exact K.tr.2.2.1 | exact K.tr.2.2.2.1 | exact K.tr.2.2.2.2.1 | exact K.tr.2.2.2.2.2.1 | exact K.tr.2.2.2.2.2.2.1 | exact K.tr.2.2.2.2.2.2.2) (by rfl) ?_
      rw [h8]
      refine wp_aload_n (pc := 53) dX11_settles_53 rfl ?_
      refine wp_getf (pc := 54) dX11_settles_54 gf_X11_77 K.ob (by rfl) ?_
      refine wp_aload_n (pc := 57) dX11_settles_57 rfl ?_
      refine wp_getf (pc := 58) dX11_settles_58 gf_X11_26 K.ob (by rfl) ?_
      refine wd_Vs (pc := 61) dX11_settles_61 cl_X11_300 (sp_Partings_mostGroups (by first | assumption | omega) (by omega) K.pt K.to) rfl rfl K.pt.o (by rfl) (by decide) (Nat.le_of_ble_eq_true rfl) (fun hp61 e61 => ?_)
      obtain ⟨f61, h61, o61⟩ := e61
      replace O := O.inn o61 (by omega) (by omega)
      replace K := K.uPt h61 o61
      refine wp_isub (pc := 64) dX11_settles_64 ?_
      exact wp_ir (pc := 65) dX11_settles_65 rfl (by decide) (by decide) (by first | rfl | omega) ⟨⟨_, _, _, _, _, K⟩, O⟩
    ·
      refine wp_aload_n (pc := 20) dX11_settles_20 rfl ?_
      refine wp_getf (pc := 21) dX11_settles_21 gf_X11_19 K.ob (by rfl) ?_
      refine wp_sipush (pc := 24) (y := 1000) dX11_settles_24 (by decide) ?_
      refine wp_aload_n (pc := 27) dX11_settles_27 rfl ?_
      refine wp_getf (pc := 28) dX11_settles_28 gf_X11_26 K.ob (by rfl) ?_
      refine wp_iload_n (pc := 31) dX11_settles_31 rfl ?_
      refine wd_Vp (pc := 32) dX11_settles_32 cl_X11_297 (sp_Town_balance (by first | assumption | omega | exact K.to | exact K.tr | exact K.to.2.1 | exact K.to.2.2.1 | exact K.to.2.2.2.1 | exact K.to.2.2.2.2.1 | exact K.to.2.2.2.2.2.1 | exact K.to.2.2.2.2.2.2.1 | exact K.to.2.2.2.2.2.2.2 | exact K.tr.2.1 | exact K.tr.2.2.1 | exact K.tr.2.2.2.1 | exact K.tr.2.2.2.2.1 | exact K.tr.2.2.2.2.2.1 | exact K.tr.2.2.2.2.2.2.1 | exact K.tr.2.2.2.2.2.2.2) (by first | assumption | omega | exact K.to | exact K.tr | exact K.to.2.1 | exact K.to.2.2.1 | exact K.to.2.2.2.1 | exact K.to.2.2.2.2.1 | exact K.to.2.2.2.2.2.1 | exact K.to.2.2.2.2.2.2.1 | exact K.to.2.2.2.2.2.2.2 | exact K.tr.2.1 | exact K.tr.2.2.1 | exact K.tr.2.2.2.1 | exact K.tr.2.2.2.2.1 | exact K.tr.2.2.2.2.2.1 | exact K.tr.2.2.2.2.2.2.1 | exact K.tr.2.2.2.2.2.2.2) (by first | assumption | omega | exact K.to | exact K.tr | exact K.to.2.1 | exact K.to.2.2.1 | exact K.to.2.2.2.1 | exact K.to.2.2.2.2.1 | exact K.to.2.2.2.2.2.1 | exact K.to.2.2.2.2.2.2.1 | exact K.to.2.2.2.2.2.2.2 | exact K.tr.2.1 | exact K.tr.2.2.1 | exact K.tr.2.2.2.1 | exact K.tr.2.2.2.2.1 | exact K.tr.2.2.2.2.2.1 | exact K.tr.2.2.2.2.2.2.1 | exact K.tr.2.2.2.2.2.2.2) (by first | assumption | omega | exact K.to | exact K.tr | exact K.to.2.1 | exact K.to.2.2.1 | exact K.to.2.2.2.1 | exact K.to.2.2.2.2.1 | exact K.to.2.2.2.2.2.1 | exact K.to.2.2.2.2.2.2.1 | exact K.to.2.2.2.2.2.2.2 | exact K.tr.2.1 | exact K.tr.2.2.1 | exact K.tr.2.2.2.1 | exact K.tr.2.2.2.2.1 | exact K.tr.2.2.2.2.2.1 | exact K.tr.2.2.2.2.2.2.1 | exact K.tr.2.2.2.2.2.2.2)) rfl rfl (by first | exact K.to.o | exact K.tr.o | exact K.k0.o | exact K.k1.o) (by rfl) (by decide) (Nat.le_of_ble_eq_true rfl) ?_
      refine wp_iadd (pc := 35) dX11_settles_35 ?_
      refine wp_i2l (pc := 36) dX11_settles_36 (by first | omega | exact TI.i5 (by assumption) | exact TI.i3 (by assumption) | exact TI.i2 (by assumption) | exact TI.i1 (by assumption) | exact TI.i0 (by assumption) | exact TI.i4 (by assumption) | exact TI.i6 (by assumption) | exact TI.i7 (by assumption)) ?_
      refine wd_Vn (pc := 37) dX11_settles_37 cl_X11_247 (sp_Row_add K.ro (by first | assumption | omega | (simp; omega) | simp)) rfl rfl K.ro.o (by rfl) (by decide) (Nat.le_of_ble_eq_true rfl) (fun hp37 e37 => ?_)
      obtain ⟨h37, o37⟩ := e37
      replace O := O.inn o37 (by omega) (by omega)
      replace K := K.uRo h37 o37
      refine wp_iinc (pc := 40) dX11_settles_40 rfl (by decide) ?_
      refine wp_goto (pc := 43) 9 dX11_settles_43 (by decide) ?_
      refine wp_ls ?_ (ih (i + 1) (by omega) (by omega) _ K O)
      repeat' (first | exact LE_0 | refine LE_s rfl ?_ | refine LE_s (I_c (by first | omega | (simp only [sm]; omega))) ?_ | refine LE_s (J_c (by first | omega | exact Int.pow_succ _ _ | exact (Int.pow_succ _ _).symm | exact (Int.pow_zero _).symm | (simp only [sm]; omega))) ?_ | refine LE_n ?_)
theorem sp_D_settles (K : DA hp D r s Tr z Z T U tx rw rt hs ss KT) (hI : TI T N) : Sp g MX11_settles (rm 5 0 0) [.ref D] hp (Eff (.int (I ((N : Int) - gall T N))) (fun hp2 => DX hp2 D T U tx (tab (fun i => 1000 + bal T i N) N) rt hs ss KT ∧ SO hp hp2 D (D + 171))) := by
  refine Sp_mk rfl (Nat.le_of_ble_eq_true rfl) ?_
  show wp g _ _ _ 0 0 0 [some (.ref D), none] [] hp
  have O := SO.rf (hp := hp) (lo := D) (hi := D + 171)
  refine wp_aload_n (pc := 0) dX11_settles_0 rfl ?_
  refine wp_getf (pc := 1) dX11_settles_1 gf_X11_19 K.ob (by rfl) ?_
  refine wd_Vn (pc := 4) dX11_settles_4 cl_X11_243 (sp_Row_clear K.ro) rfl rfl K.ro.o (by rfl) (by decide) (Nat.le_of_ble_eq_true rfl) (fun hp4 e4 => ?_)
  obtain ⟨h4, o4⟩ := e4
  replace O := O.inn o4 (by omega) (by omega)
  replace K := K.uRo h4 o4
  refine wp_iconst (pc := 7) dX11_settles_7 ?_
  refine wp_istore_n (pc := 8) dX11_settles_8 (by decide) ?_
  refine wp_ls ?_ (lp_D_settles hI (N + 1) 0 (by omega) (by omega) _ K O)
  repeat' (first | exact LE_0 | refine LE_s rfl ?_ | refine LE_s (I_c (by first | omega | (simp only [sm]; omega))) ?_ | refine LE_s (J_c (by first | omega | exact Int.pow_succ _ _ | exact (Int.pow_succ _ _).symm | exact (Int.pow_zero _).symm | (simp only [sm]; omega))) ?_ | refine LE_n ?_)
theorem sp_D_groups (K : DA hp D r s Tr z Z T U tx rw rt hs ss KT) (hI : TI T N) : Sp g MX11_groups (rm 5 0 0) [.ref D] hp (Eff (.int (I (gall T N))) (fun hp2 => DX hp2 D T U tx (if N = 0 then [] else [2 * (gpt T N : Int) + 1]) rt hs ss KT ∧ SO hp hp2 D (D + 171))) := by
  obtain ⟨h8, hN⟩ := hI.men
  have hg : fst (gfP T N) (2 ^ (N - 1) - 1) ≤ 2 ^ (N - 1) - 1 := fst_le _ _
  have h64 : 2 ^ (N - 1) ≤ 64 := Nat.pow_le_pow_right (n := 2) (i := N - 1) (j := 6) (by decide) (by omega)
  refine Sp_mk rfl (Nat.le_of_ble_eq_true rfl) ?_
  show wp g _ _ _ 0 0 0 [some (.ref D), none] [] hp
  have O := SO.rf (hp := hp) (lo := D) (hi := D + 171)
  refine wp_aload_n (pc := 0) dX11_groups_0 rfl ?_
  refine wp_getf (pc := 1) dX11_groups_1 gf_X11_77 K.ob (by rfl) ?_
  refine wp_aload_n (pc := 4) dX11_groups_4 rfl ?_
  refine wp_getf (pc := 5) dX11_groups_5 gf_X11_26 K.ob (by rfl) ?_
  refine wd_Vs (pc := 8) dX11_groups_8 cl_X11_300 (sp_Partings_mostGroups (by first | assumption | omega) (by omega) K.pt K.to) rfl rfl K.pt.o (by rfl) (by decide) (Nat.le_of_ble_eq_true rfl) (fun hp8 e8 => ?_)
  obtain ⟨f8, h8, o8⟩ := e8
  replace O := O.inn o8 (by omega) (by omega)
  replace K := K.uPt h8 o8
  obtain ⟨F, Gc, g1, g2, g3, g4⟩ := f8
  refine wp_istore_n (pc := 11) dX11_groups_11 (by decide) ?_
  refine wp_aload_n (pc := 12) dX11_groups_12 rfl ?_
  refine wp_getf (pc := 13) dX11_groups_13 gf_X11_19 K.ob (by rfl) ?_
  refine wd_Vn (pc := 16) dX11_groups_16 cl_X11_243 (sp_Row_clear K.ro) rfl rfl K.ro.o (by rfl) (by decide) (Nat.le_of_ble_eq_true rfl) (fun hp16 e16 => ?_)
  obtain ⟨h16, o16⟩ := e16
  replace O := O.inn o16 (by omega) (by omega)
  replace K := K.uRo h16 o16
  replace g1 := (o16.2 _ (by omega)).trans g1
  replace g3 := (o16.2 _ (by omega)).trans g3
  obtain ⟨⟨n0, p0⟩, _⟩ := K.pt
  refine wp_aload_n (pc := 19) dX11_groups_19 rfl ?_
  refine wp_getf (pc := 20) dX11_groups_20 gf_X11_26 K.ob (by rfl) ?_
  refine wp_getf (pc := 23) dX11_groups_23 gf_X11_110 (by first | exact K.ob | exact K.to.1 | exact K.tr.1 | exact K.to.2.1 | exact K.to.2.2.1 | exact K.to.2.2.2.1 | exact K.to.2.2.2.2.1 | exact K.to.2.2.2.2.2.1 | exact K.to.2.2.2.2.2.2.1 | exact K.to.2.2.2.2.2.2.2 | exact K.tr.2.1 | exact K.tr.2.2.1 | exact K.tr.2.2.2.1 | exact K.tr.2.2.2.2.1 | exact K.tr.2.2.2.2.2.1 | exact K.tr.2.2.2.2.2.2.1 | exact K.tr.2.2.2.2.2.2.2) (by rfl) ?_
  refine wp_if_le (pc := 26) 48 dX11_groups_26 (by decide) (by first | omega | exact TI.i5 (by assumption) | exact TI.i3 (by assumption) | exact TI.i2 (by assumption) | exact TI.i1 (by assumption) | exact TI.i0 (by assumption) | exact TI.i4 (by assumption) | exact TI.i6 (by assumption) | exact TI.i7 (by assumption)) (fun c26 => ?_) (fun c26 => ?_)
  ·
    rw [if_pos (by omega)] -- go
    refine wp_iload_n (pc := 48) dX11_groups_48 rfl ?_
    exact wp_ir (pc := 49) dX11_groups_49 rfl (by decide) (by decide) (by first | rfl | omega) ⟨⟨_, _, _, _, _, K⟩, O⟩
  ·
    rw [if_neg (by omega)] -- go
    refine wp_aload_n (pc := 29) dX11_groups_29 rfl ?_
    refine wp_getf (pc := 30) dX11_groups_30 gf_X11_19 K.ob (by rfl) ?_
    refine wp_aload_n (pc := 33) dX11_groups_33 rfl ?_
    refine wp_getf (pc := 34) dX11_groups_34 gf_X11_77 K.ob (by rfl) ?_
    refine wp_aload_n (pc := 37) dX11_groups_37 rfl ?_
    refine wp_getf (pc := 38) dX11_groups_38 gf_X11_26 K.ob (by rfl) ?_
    refine wd_Vp (pc := 41) dX11_groups_41 cl_X11_304 (sp_Partings_groupOfFirst hI (by omega) K.to p0 g1 g2 g3 g4) rfl rfl K.pt.o (by rfl) (by decide) (Nat.le_of_ble_eq_true rfl) ?_
    refine wp_i2l (pc := 44) dX11_groups_44 (by first | omega | exact TI.i5 (by assumption) | exact TI.i3 (by assumption) | exact TI.i2 (by assumption) | exact TI.i1 (by assumption) | exact TI.i0 (by assumption) | exact TI.i4 (by assumption) | exact TI.i6 (by assumption) | exact TI.i7 (by assumption)) ?_
    refine wd_Vn (pc := 45) dX11_groups_45 cl_X11_247 (sp_Row_add K.ro (by first | assumption | omega | (simp; omega) | simp)) rfl rfl K.ro.o (by rfl) (by decide) (Nat.le_of_ble_eq_true rfl) (fun hp45 e45 => ?_)
    obtain ⟨h45, o45⟩ := e45
    replace O := O.inn o45 (by omega) (by omega)
    replace K := K.uRo h45 o45
    refine wp_iload_n (pc := 48) dX11_groups_48 rfl ?_
    exact wp_ir (pc := 49) dX11_groups_49 rfl (by decide) (by decide) (by first | rfl | omega) ⟨⟨_, _, _, _, _, K⟩, O⟩
theorem byl_D (h : byl tx) : ∀ i, 0 ≤ tx.getD i 0 ∧ tx.getD i 0 ≤ 255 := by
  intro i
  rw [List.getD_eq_getElem?_getD]
  cases e : tx[i]? with
  | none => exact ⟨by decide, by decide⟩
  | some v => exact h v (List.mem_of_getElem? e)
theorem rsA_in : -1 ≤ rsA tx ∧ rsA tx ≤ 6 := by
  unfold rsA
  repeat' split
  all_goals omega
theorem rsA_6 (h : rsA tx = -1) : tx.length ≤ 6 := by
  unfold rsA at h
  by_cases c : fst (ndg tx) (min tx.length 6) < min tx.length 6
  · rw [if_pos c] at h; omega
  · rw [if_neg c] at h
    by_cases c2 : tx.length = 0 ∨ 6 < tx.length
    · rw [if_pos c2] at h; omega
    · omega
theorem sp_D_streets (K : DA hp D r s Tr z Z T U tx rw rt hs ss KT) (hI : TI T N) (hl : byl tx) : Sp g MX11_streets (rm 4 0 0) [.ref D] hp (Eff (.int (I (if rsA tx = -1 then nvt T (Dg tx) N tx.length tx.length 0 else -1 - rsA tx))) (fun hp2 => DX hp2 D T U [] (if rsA tx = -1 then (ngs T (Dg tx) N tx.length tx.length).2 else rw) rt hs ss KT ∧ SO hp hp2 D (D + 171))) := by
  have hv := rsA_in (tx := tx)
  refine Sp_mk rfl (Nat.le_of_ble_eq_true rfl) ?_
  show wp g _ _ _ 0 0 0 [some (.ref D), none] [] hp
  have O := SO.rf (hp := hp) (lo := D) (hi := D + 171)
  refine wp_aload_n (pc := 0) dX11_streets_0 rfl ?_
  refine wp_getf (pc := 1) dX11_streets_1 gf_X11_77 K.ob (by rfl) ?_
  refine wp_aload_n (pc := 4) dX11_streets_4 rfl ?_
  refine wp_getf (pc := 5) dX11_streets_5 gf_X11_12 K.ob (by rfl) ?_
  refine wd_Vs (pc := 8) dX11_streets_8 cl_X11_307 (sp_Partings_readStreets K.pt K.te (byl_D hl) (by omega)) rfl rfl K.pt.o (by rfl) (by decide) (Nat.le_of_ble_eq_true rfl) (fun hp8 e8 => ?_)
  obtain ⟨⟨Dc, p0, p3, rD, hD⟩, h8, o8⟩ := e8; replace O := O.inn o8 (by omega) (by omega); replace K := K.uPt h8 o8
  refine wp_istore_n (pc := 11) dX11_streets_11 (by decide) ?_
  refine wp_aload_n (pc := 12) dX11_streets_12 rfl ?_
  refine wp_getf (pc := 13) dX11_streets_13 gf_X11_12 K.ob (by rfl) ?_
  refine wd_Vn (pc := 16) dX11_streets_16 cl_X11_124 (sp_Text_clear K.te) rfl rfl K.te.o (by rfl) (by decide) (Nat.le_of_ble_eq_true rfl) (fun hp16 e16 => ?_)
  obtain ⟨h16, o16⟩ := e16
  replace O := O.inn o16 (by omega) (by omega)
  replace K := K.uTe h16 o16
  replace p0 := (o16.2 _ (by omega)).trans p0
  replace p3 := (o16.2 _ (by omega)).trans p3
  refine wp_iload_n (pc := 19) dX11_streets_19 rfl ?_
  refine wp_iconst (pc := 20) dX11_streets_20 ?_
  refine wp_icmp_eq (pc := 21) 28 dX11_streets_21 (by decide) (by first | omega | exact TI.i5 (by assumption) | exact TI.i3 (by assumption) | exact TI.i2 (by assumption) | exact TI.i1 (by assumption) | exact TI.i0 (by assumption) | exact TI.i4 (by assumption) | exact TI.i6 (by assumption) | exact TI.i7 (by assumption)) (by first | omega | exact TI.i5 (by assumption) | exact TI.i3 (by assumption) | exact TI.i2 (by assumption) | exact TI.i1 (by assumption) | exact TI.i0 (by assumption) | exact TI.i4 (by assumption) | exact TI.i6 (by assumption) | exact TI.i7 (by assumption)) (fun c21 => ?_) (fun c21 => ?_)
  ·
    have h6 := rsA_6 c21
    have hD2 := hD c21
    rw [show min tx.length 6 = tx.length by omega] at p0 hD2
    have hE : ∀ j : Nat, j < tx.length → Dc (j : Int) = Dg tx (j : Int) := fun j q => hD2 j q
    rw [if_pos c21, if_pos c21, ← nvt_cg hE tx.length (by omega), ← ngs_cg hE tx.length (by omega)] -- go
    refine wp_aload_n (pc := 28) dX11_streets_28 rfl ?_
    refine wp_getf (pc := 29) dX11_streets_29 gf_X11_77 K.ob (by rfl) ?_
    refine wp_aload_n (pc := 32) dX11_streets_32 rfl ?_
    refine wp_getf (pc := 33) dX11_streets_33 gf_X11_26 K.ob (by rfl) ?_
    refine wp_aload_n (pc := 36) dX11_streets_36 rfl ?_
    refine wp_getf (pc := 37) dX11_streets_37 gf_X11_19 K.ob (by rfl) ?_
    refine wd_Vs (pc := 40) dX11_streets_40 cl_X11_310 (sp_Partings_nameStreets hI rD h6 (by omega) (by omega) (by omega) K.to K.ro p0 p3 K.pt) rfl rfl K.pt.o (by rfl) (by decide) (Nat.le_of_ble_eq_true rfl) (fun hp40 e40 => ?_)
    obtain ⟨h1, h2, q40, o40⟩ := e40; replace O := O.two q40 o40 (by omega) (by omega); replace K := K.uPR h1 h2 o40
    exact wp_ir (pc := 43) dX11_streets_43 rfl (by decide) (by decide) (by first | rfl | omega) ⟨⟨_, _, _, _, _, K⟩, O⟩
  ·
    rw [if_neg c21, if_neg c21] -- go
    refine wp_iconst (pc := 24) dX11_streets_24 ?_
    refine wp_iload_n (pc := 25) dX11_streets_25 rfl ?_
    refine wp_isub (pc := 26) dX11_streets_26 ?_
    exact wp_ir (pc := 27) dX11_streets_27 rfl (by decide) (by decide) (by first | rfl | omega) ⟨⟨_, _, _, _, _, K⟩, O⟩
end D4

