/-! the class: heirs, what one thinks, flattery, wakes, echo -/
section D3
variable {g : GT} {hp hp2 hp0 : Hp} {D r s N n k i : Nat} {T T2 Tr Z : Nat → Int → Int} {z x y a b c : Int} {U : List (Nat → Int → Int)} {tx rw rt : List Int} {hs : List (Int × Int)} {ss : List (Int × Int × Int)} {KT : Nat → Option (Nat → Int → Int)}
def hb1 (p : Int × Int) : Int := if p.1 = -2 then -1 else p.1
def hb2 (p : Int × Int) : Int := if p.1 = -2 then 0 else p.2
theorem hrb_z (f : Nat → Int) (P : Nat → Bool) : ∀ n : Nat, (hrb f P n).1 = -2 → (hrb f P n).2 = -1000000
  | 0, _ => rfl
  | n + 1, h => by
    by_cases c : P n = true ∧ (hrb f P n).2 < f n
    · have e : hrb f P (n + 1) = ((n : Int), f n) := if_pos c
      rw [e] at h
      have h' : (n : Int) = -2 := h
      omega
    · have e : hrb f P (n + 1) = hrb f P n := if_neg c
      rw [e] at h ⊢
      exact hrb_z f P n h
theorem lp_D_heir (hI : TI T N) (hH : HS T) (hb : T 7 0 < 1900000000) (hx : 0 ≤ x ∧ x < N) (hn : 1 ≤ n ∧ n ≤ 9) : ∀ (m i : Nat), N < i + m → i ≤ N → ∀ (hp2 : Hp) (Tr2 : Nat → Int → Int) (K : DA hp2 D r s Tr2 z Z T U tx rw rt hs ss KT) (O : SO hp hp2 D (D + 171)), wp g MX11_heir (rm 7 0 0) (Eff (.int (I (hrb (hrf (stl rt) T N x (n : Int)) (hrP T x) N).1)) (fun hp3 => DX hp3 D T U tx (if (hrb (hrf (stl rt) T N x (n : Int)) (hrP T x) N).1 = -2 then rw else [1000 + (hrb (hrf (stl rt) T N x (n : Int)) (hrP T x) N).2, 1000 + wor (runT (stl rt) T N n) N x]) rt hs ss KT ∧ SO hp hp3 D (D + 171))) 0 0 28 [some (.ref D), some (.int (I x)), some (.int (I (n : Int))), some (.int (I (hb1 (hrb (hrf (stl rt) T N x (n : Int)) (hrP T x) i)))), some (.int (I (hb2 (hrb (hrf (stl rt) T N x (n : Int)) (hrP T x) i)))), some (.int (I (i : Int))), none] [] hp2 := by
  intro m
  induction m with
  | zero => intro i h1 h2; exact absurd h1 (by omega)
  | succ m ih =>
    intro i h1 h2 hp2 Tr2 K O
    obtain ⟨h8, hN⟩ := hI.men
    have hf : ∀ n2, -700 ≤ hrf (stl rt) T N x (n : Int) n2 ∧ hrf (stl rt) T N x (n : Int) n2 ≤ 700 := hrf_in hI hb (by omega)
    have hf1 := hf i
    have q1 := hrb_in _ (hrP T x) hf i
    have q2 := hrb_z (hrf (stl rt) T N x (n : Int)) (hrP T x) i
    have ew : runT (stl rt) (dieT T N (i : Int) (n : Int)) N n 2 x + bal (runT (stl rt) (dieT T N (i : Int) (n : Int)) N n) x N = hrf (stl rt) T N x (n : Int) i := by
      unfold hrf wor bal
      rw [show ((n : Int)).toNat = n from rfl]
      omega
    have ew2 : runT (stl rt) T N n 2 x + bal (runT (stl rt) T N n) x N = wor (runT (stl rt) T N n) N x := by
      unfold wor bal
      omega
    have hI2 := runT_I (cs := stl rt) hI n (by omega)
    have hw2 := wor_in (x := x) hI2
    have hI3 := runT_I (cs := stl rt) (dieT_I (p := (i : Int)) (n := (n : Int)) hI) n (by rw [dieT_7]; omega)
    have hb1n : (hrb (hrf (stl rt) T N x (n : Int)) (hrP T x) i).1 ≠ -2 → hb1 (hrb (hrf (stl rt) T N x (n : Int)) (hrP T x) i) = (hrb (hrf (stl rt) T N x (n : Int)) (hrP T x) i).1 ∧ hb2 (hrb (hrf (stl rt) T N x (n : Int)) (hrP T x) i) = (hrb (hrf (stl rt) T N x (n : Int)) (hrP T x) i).2 := fun q => ⟨if_neg q, if_neg q⟩
    have hb1p : (hrb (hrf (stl rt) T N x (n : Int)) (hrP T x) i).1 = -2 → hb1 (hrb (hrf (stl rt) T N x (n : Int)) (hrP T x) i) = -1 ∧ hb2 (hrb (hrf (stl rt) T N x (n : Int)) (hrP T x) i) = 0 := fun q => ⟨if_pos q, if_pos q⟩
    have hb1r : InR (hb1 (hrb (hrf (stl rt) T N x (n : Int)) (hrP T x) i)) ∧ InR (hb2 (hrb (hrf (stl rt) T N x (n : Int)) (hrP T x) i)) := by
      by_cases q : (hrb (hrf (stl rt) T N x (n : Int)) (hrP T x) i).1 = -2
      · have := hb1p q; omega
      · have := hb1n q; omega
    refine wp_iload (pc := 28) dX11_heir_28 rfl ?_
    refine wp_aload_n (pc := 30) dX11_heir_30 rfl ?_
    refine wp_getf (pc := 31) dX11_heir_31 gf_X11_26 K.ob (by rfl) ?_
    refine wp_getf (pc := 34) dX11_heir_34 gf_X11_110 (by first | exact K.ob | exact K.to.1 | exact K.tr.1 | exact K.to.2.1 | exact K.to.2.2.1 | exact K.to.2.2.2.1 | exact K.to.2.2.2.2.1 | exact K.to.2.2.2.2.2.1 | exact K.to.2.2.2.2.2.2.1 | exact K.to.2.2.2.2.2.2.2 | exact K.tr.2.1 | exact K.tr.2.2.1 | exact K.tr.2.2.2.1 | exact K.tr.2.2.2.2.1 | exact K.tr.2.2.2.2.2.1 | exact K.tr.2.2.2.2.2.2.1 | exact K.tr.2.2.2.2.2.2.2) (by rfl) ?_
    refine wp_icmp_ge (pc := 37) 101 dX11_heir_37 (by decide) (by first | omega | exact TI.i5 (by assumption) | exact TI.i3 (by assumption) | exact TI.i2 (by assumption) | exact TI.i1 (by assumption) | exact TI.i0 (by assumption) | exact TI.i4 (by assumption) | exact TI.i6 (by assumption) | exact TI.i7 (by assumption)) (by first | omega | exact TI.i5 (by assumption) | exact TI.i3 (by assumption) | exact TI.i2 (by assumption) | exact TI.i1 (by assumption) | exact TI.i0 (by assumption) | exact TI.i4 (by assumption) | exact TI.i6 (by assumption) | exact TI.i7 (by assumption)) (fun c37 => ?_) (fun c37 => ?_)
    ·
      have e : i = N := by omega
      subst e -- go
      refine wp_iload_n (pc := 101) dX11_heir_101 rfl ?_
      refine wp_iconst (pc := 102) dX11_heir_102 ?_
      refine wp_icmp_ne (pc := 103) 109 dX11_heir_103 (by decide) (by first | omega | exact TI.i5 (by assumption) | exact TI.i3 (by assumption) | exact TI.i2 (by assumption) | exact TI.i1 (by assumption) | exact TI.i0 (by assumption) | exact TI.i4 (by assumption) | exact TI.i6 (by assumption) | exact TI.i7 (by assumption)) (by first | omega | exact TI.i5 (by assumption) | exact TI.i3 (by assumption) | exact TI.i2 (by assumption) | exact TI.i1 (by assumption) | exact TI.i0 (by assumption) | exact TI.i4 (by assumption) | exact TI.i6 (by assumption) | exact TI.i7 (by assumption)) (fun c103 => ?_) (fun c103 => ?_)
      ·
        have q3 : ¬ (hrb (hrf (stl rt) T i x (n : Int)) (hrP T x) i).1 = -2 := fun q => by have := hb1p q; omega
        have q4 := hb1n q3
        rw [if_neg q3, q4.1, q4.2] -- go
        refine wp_aload_n (pc := 109) dX11_heir_109 rfl ?_
        refine wp_iload_n (pc := 110) dX11_heir_110 rfl ?_
        refine wd_Vn (pc := 111) dX11_heir_111 cl_X11_256 (sp_D_lookAhead K (by assumption) (by assumption) (by assumption) (by omega)) rfl rfl K.o (by rfl) (by decide) (Nat.le_of_ble_eq_true rfl) (fun hp111 e111 => ?_)
        obtain ⟨K, O1⟩ := e111; replace O := SO.tr O O1
        refine wp_aload_n (pc := 114) dX11_heir_114 rfl ?_
        refine wp_getf (pc := 115) dX11_heir_115 gf_X11_19 K.ob (by rfl) ?_
        refine wp_sipush (pc := 118) (y := 1000) dX11_heir_118 (by decide) ?_
        refine wp_iload (pc := 121) dX11_heir_121 rfl ?_
        refine wp_iadd (pc := 123) dX11_heir_123 ?_
        refine wp_i2l (pc := 124) dX11_heir_124 (by first | omega | exact TI.i5 (by assumption) | exact TI.i3 (by assumption) | exact TI.i2 (by assumption) | exact TI.i1 (by assumption) | exact TI.i0 (by assumption) | exact TI.i4 (by assumption) | exact TI.i6 (by assumption) | exact TI.i7 (by assumption)) ?_
        refine wp_sipush (pc := 125) (y := 1000) dX11_heir_125 (by decide) ?_
        refine wp_aload_n (pc := 128) dX11_heir_128 rfl ?_
        refine wp_getf (pc := 129) dX11_heir_129 gf_X11_30 K.ob (by rfl) ?_
        refine wp_iload_n (pc := 132) dX11_heir_132 rfl ?_
        refine wd_Vp (pc := 133) dX11_heir_133 cl_X11_277 (sp_Town_worth (by first | assumption | omega | exact K.to | exact K.tr | exact K.to.2.1 | exact K.to.2.2.1 | exact K.to.2.2.2.1 | exact K.to.2.2.2.2.1 | exact K.to.2.2.2.2.2.1 | exact K.to.2.2.2.2.2.2.1 | exact K.to.2.2.2.2.2.2.2 | exact K.tr.2.1 | exact K.tr.2.2.1 | exact K.tr.2.2.2.1 | exact K.tr.2.2.2.2.1 | exact K.tr.2.2.2.2.2.1 | exact K.tr.2.2.2.2.2.2.1 | exact K.tr.2.2.2.2.2.2.2) (by first | assumption | omega | exact K.to | exact K.tr | exact K.to.2.1 | exact K.to.2.2.1 | exact K.to.2.2.2.1 | exact K.to.2.2.2.2.1 | exact K.to.2.2.2.2.2.1 | exact K.to.2.2.2.2.2.2.1 | exact K.to.2.2.2.2.2.2.2 | exact K.tr.2.1 | exact K.tr.2.2.1 | exact K.tr.2.2.2.1 | exact K.tr.2.2.2.2.1 | exact K.tr.2.2.2.2.2.1 | exact K.tr.2.2.2.2.2.2.1 | exact K.tr.2.2.2.2.2.2.2) (by first | assumption | omega | exact K.to | exact K.tr | exact K.to.2.1 | exact K.to.2.2.1 | exact K.to.2.2.2.1 | exact K.to.2.2.2.2.1 | exact K.to.2.2.2.2.2.1 | exact K.to.2.2.2.2.2.2.1 | exact K.to.2.2.2.2.2.2.2 | exact K.tr.2.1 | exact K.tr.2.2.1 | exact K.tr.2.2.2.1 | exact K.tr.2.2.2.2.1 | exact K.tr.2.2.2.2.2.1 | exact K.tr.2.2.2.2.2.2.1 | exact K.tr.2.2.2.2.2.2.2) (by first | assumption | omega | exact K.to | exact K.tr | exact K.to.2.1 | exact K.to.2.2.1 | exact K.to.2.2.2.1 | exact K.to.2.2.2.2.1 | exact K.to.2.2.2.2.2.1 | exact K.to.2.2.2.2.2.2.1 | exact K.to.2.2.2.2.2.2.2 | exact K.tr.2.1 | exact K.tr.2.2.1 | exact K.tr.2.2.2.1 | exact K.tr.2.2.2.2.1 | exact K.tr.2.2.2.2.2.1 | exact K.tr.2.2.2.2.2.2.1 | exact K.tr.2.2.2.2.2.2.2)) rfl rfl (by first | exact K.to.o | exact K.tr.o | exact K.k0.o | exact K.k1.o) (by rfl) (by decide) (Nat.le_of_ble_eq_true rfl) ?_
        refine wp_topE ew2 ?_
        refine wp_iadd (pc := 136) dX11_heir_136 ?_
        refine wp_i2l (pc := 137) dX11_heir_137 (by first | omega | exact TI.i5 (by assumption) | exact TI.i3 (by assumption) | exact TI.i2 (by assumption) | exact TI.i1 (by assumption) | exact TI.i0 (by assumption) | exact TI.i4 (by assumption) | exact TI.i6 (by assumption) | exact TI.i7 (by assumption)) ?_
        refine wd_Vn (pc := 138) dX11_heir_138 cl_X11_204 (sp_Row_tell_ K.ro) rfl rfl K.ro.o (by rfl) (by decide) (Nat.le_of_ble_eq_true rfl) (fun hp138 e138 => ?_)
        obtain ⟨h138, o138⟩ := e138
        replace O := O.inn o138 (by omega) (by omega)
        replace K := K.uRo h138 o138
        refine wp_iload_n (pc := 141) dX11_heir_141 rfl ?_
        exact wp_ir (pc := 142) dX11_heir_142 rfl (by decide) (by decide) (by first | rfl | omega) ⟨⟨_, _, _, _, _, K⟩, O⟩
      ·
        have q3 : (hrb (hrf (stl rt) T i x (n : Int)) (hrP T x) i).1 = -2 := by
          by_cases q : (hrb (hrf (stl rt) T i x (n : Int)) (hrP T x) i).1 = -2
          · exact q
          · have := hb1n q; omega
        rw [if_pos q3, q3] -- go
        refine wp_bipush (pc := 106) (y := (-2)) dX11_heir_106 (by decide) ?_
        exact wp_ir (pc := 108) dX11_heir_108 rfl (by decide) (by decide) (by first | rfl | omega) ⟨⟨_, _, _, _, _, K⟩, O⟩
    ·
      refine wp_iload (pc := 40) dX11_heir_40 rfl ?_
      refine wp_iload_n (pc := 42) dX11_heir_42 rfl ?_
      refine wp_icmp_eq (pc := 43) 95 dX11_heir_43 (by decide) (by first | omega | exact TI.i5 (by assumption) | exact TI.i3 (by assumption) | exact TI.i2 (by assumption) | exact TI.i1 (by assumption) | exact TI.i0 (by assumption) | exact TI.i4 (by assumption) | exact TI.i6 (by assumption) | exact TI.i7 (by assumption)) (by first | omega | exact TI.i5 (by assumption) | exact TI.i3 (by assumption) | exact TI.i2 (by assumption) | exact TI.i1 (by assumption) | exact TI.i0 (by assumption) | exact TI.i4 (by assumption) | exact TI.i6 (by assumption) | exact TI.i7 (by assumption)) (fun c43 => ?_) (fun c43 => ?_)
      ·
        have e1 : hrb (hrf (stl rt) T N x (n : Int)) (hrP T x) (i + 1) = hrb (hrf (stl rt) T N x (n : Int)) (hrP T x) i := if_neg (fun q => by have := of_decide_eq_true q.1; exact this.1 c43)
        have eh : hb1 (hrb (hrf (stl rt) T N x (n : Int)) (hrP T x) (i + 1)) = hb1 (hrb (hrf (stl rt) T N x (n : Int)) (hrP T x) i) ∧ hb2 (hrb (hrf (stl rt) T N x (n : Int)) (hrP T x) (i + 1)) = hb2 (hrb (hrf (stl rt) T N x (n : Int)) (hrP T x) i) := by rw [e1]; exact ⟨rfl, rfl⟩
        skip -- go
        refine wp_iinc (pc := 95) dX11_heir_95 rfl (by decide) ?_
        refine wp_goto (pc := 98) 28 dX11_heir_98 (by decide) ?_
        refine wp_ls ?_ (ih (i + 1) (by omega) (by omega) _ _ K O)
        rw [eh.1, eh.2]
        repeat' (first | exact LE_0 | refine LE_s rfl ?_ | refine LE_s (I_c (by first | omega | (simp only [sm]; omega))) ?_ | refine LE_s (J_c (by first | omega | exact Int.pow_succ _ _ | exact (Int.pow_succ _ _).symm | exact (Int.pow_zero _).symm | (simp only [sm]; omega))) ?_ | refine LE_n ?_)
      ·
        refine wp_aload_n (pc := 46) dX11_heir_46 rfl ?_
        refine wp_getf (pc := 47) dX11_heir_47 gf_X11_26 K.ob (by rfl) ?_
        refine wp_iload (pc := 50) dX11_heir_50 rfl ?_
        refine wd_Vp (pc := 52) dX11_heir_52 cl_X11_244 (sp_Town_lives (by first | assumption | omega | exact K.to | exact K.tr | exact K.to.2.1 | exact K.to.2.2.1 | exact K.to.2.2.2.1 | exact K.to.2.2.2.2.1 | exact K.to.2.2.2.2.2.1 | exact K.to.2.2.2.2.2.2.1 | exact K.to.2.2.2.2.2.2.2 | exact K.tr.2.1 | exact K.tr.2.2.1 | exact K.tr.2.2.2.1 | exact K.tr.2.2.2.2.1 | exact K.tr.2.2.2.2.2.1 | exact K.tr.2.2.2.2.2.2.1 | exact K.tr.2.2.2.2.2.2.2) (by first | assumption | omega | exact K.to | exact K.tr | exact K.to.2.1 | exact K.to.2.2.1 | exact K.to.2.2.2.1 | exact K.to.2.2.2.2.1 | exact K.to.2.2.2.2.2.1 | exact K.to.2.2.2.2.2.2.1 | exact K.to.2.2.2.2.2.2.2 | exact K.tr.2.1 | exact K.tr.2.2.1 | exact K.tr.2.2.2.1 | exact K.tr.2.2.2.2.1 | exact K.tr.2.2.2.2.2.1 | exact K.tr.2.2.2.2.2.2.1 | exact K.tr.2.2.2.2.2.2.2) (by first | assumption | omega | exact K.to | exact K.tr | exact K.to.2.1 | exact K.to.2.2.1 | exact K.to.2.2.2.1 | exact K.to.2.2.2.2.1 | exact K.to.2.2.2.2.2.1 | exact K.to.2.2.2.2.2.2.1 | exact K.to.2.2.2.2.2.2.2 | exact K.tr.2.1 | exact K.tr.2.2.1 | exact K.tr.2.2.2.1 | exact K.tr.2.2.2.2.1 | exact K.tr.2.2.2.2.2.1 | exact K.tr.2.2.2.2.2.2.1 | exact K.tr.2.2.2.2.2.2.2) (by first | assumption | omega | exact K.to | exact K.tr | exact K.to.2.1 | exact K.to.2.2.1 | exact K.to.2.2.2.1 | exact K.to.2.2.2.2.1 | exact K.to.2.2.2.2.2.1 | exact K.to.2.2.2.2.2.2.1 | exact K.to.2.2.2.2.2.2.2 | exact K.tr.2.1 | exact K.tr.2.2.1 | exact K.tr.2.2.2.1 | exact K.tr.2.2.2.2.1 | exact K.tr.2.2.2.2.2.1 | exact K.tr.2.2.2.2.2.2.1 | exact K.tr.2.2.2.2.2.2.2)) rfl rfl (by first | exact K.to.o | exact K.tr.o | exact K.k0.o | exact K.k1.o) (by rfl) (by decide) (Nat.le_of_ble_eq_true rfl) ?_
        first | refine wp_ifb_eq (pc := 55) 95 dX11_heir_55 (by decide) (fun c55 => ?_) (fun c55 => ?_) | refine wp_if_eq (pc := 55) 95 dX11_heir_55 (by decide) (by first | omega | exact TI.i5 (by assumption) | exact TI.i3 (by assumption) | exact TI.i2 (by assumption) | exact TI.i1 (by assumption) | exact TI.i0 (by assumption) | exact TI.i4 (by assumption) | exact TI.i6 (by assumption) | exact TI.i7 (by assumption)) (fun c55 => ?_) (fun c55 => ?_)
        ·
          have e1 : hrb (hrf (stl rt) T N x (n : Int)) (hrP T x) (i + 1) = hrb (hrf (stl rt) T N x (n : Int)) (hrP T x) i := if_neg (fun q => by have := of_decide_eq_true q.1; exact c55 this.2)
          have eh : hb1 (hrb (hrf (stl rt) T N x (n : Int)) (hrP T x) (i + 1)) = hb1 (hrb (hrf (stl rt) T N x (n : Int)) (hrP T x) i) ∧ hb2 (hrb (hrf (stl rt) T N x (n : Int)) (hrP T x) (i + 1)) = hb2 (hrb (hrf (stl rt) T N x (n : Int)) (hrP T x) i) := by rw [e1]; exact ⟨rfl, rfl⟩
          skip -- go
          refine wp_iinc (pc := 95) dX11_heir_95 rfl (by decide) ?_
          refine wp_goto (pc := 98) 28 dX11_heir_98 (by decide) ?_
          refine wp_ls ?_ (ih (i + 1) (by omega) (by omega) _ _ K O)
          rw [eh.1, eh.2]
          repeat' (first | exact LE_0 | refine LE_s rfl ?_ | refine LE_s (I_c (by first | omega | (simp only [sm]; omega))) ?_ | refine LE_s (J_c (by first | omega | exact Int.pow_succ _ _ | exact (Int.pow_succ _ _).symm | exact (Int.pow_zero _).symm | (simp only [sm]; omega))) ?_ | refine LE_n ?_)
        ·
          have hP : hrP T x i = true := decide_eq_true ⟨c43, c55⟩
          skip -- go
          refine wp_aload_n (pc := 58) dX11_heir_58 rfl ?_
          refine wp_iload (pc := 59) dX11_heir_59 rfl ?_
          refine wp_iload_n (pc := 61) dX11_heir_61 rfl ?_
          refine wp_iload_n (pc := 62) dX11_heir_62 rfl ?_
          refine wd_Vn (pc := 63) dX11_heir_63 cl_X11_259 (sp_D_lookAheadWithDeath K (by assumption) (by assumption) (by assumption) (by omega) (by omega) (by omega)) rfl rfl K.o (by rfl) (by decide) (Nat.le_of_ble_eq_true rfl) (fun hp63 e63 => ?_)
          obtain ⟨K, O1⟩ := e63; replace O := SO.tr O O1
          refine wp_aload_n (pc := 66) dX11_heir_66 rfl ?_
          refine wp_getf (pc := 67) dX11_heir_67 gf_X11_30 K.ob (by rfl) ?_
          refine wp_iload_n (pc := 70) dX11_heir_70 rfl ?_
          refine wd_Vp (pc := 71) dX11_heir_71 cl_X11_277 (sp_Town_worth (by first | assumption | omega | exact K.to | exact K.tr | exact K.to.2.1 | exact K.to.2.2.1 | exact K.to.2.2.2.1 | exact K.to.2.2.2.2.1 | exact K.to.2.2.2.2.2.1 | exact K.to.2.2.2.2.2.2.1 | exact K.to.2.2.2.2.2.2.2 | exact K.tr.2.1 | exact K.tr.2.2.1 | exact K.tr.2.2.2.1 | exact K.tr.2.2.2.2.1 | exact K.tr.2.2.2.2.2.1 | exact K.tr.2.2.2.2.2.2.1 | exact K.tr.2.2.2.2.2.2.2) (by first | assumption | omega | exact K.to | exact K.tr | exact K.to.2.1 | exact K.to.2.2.1 | exact K.to.2.2.2.1 | exact K.to.2.2.2.2.1 | exact K.to.2.2.2.2.2.1 | exact K.to.2.2.2.2.2.2.1 | exact K.to.2.2.2.2.2.2.2 | exact K.tr.2.1 | exact K.tr.2.2.1 | exact K.tr.2.2.2.1 | exact K.tr.2.2.2.2.1 | exact K.tr.2.2.2.2.2.1 | exact K.tr.2.2.2.2.2.2.1 | exact K.tr.2.2.2.2.2.2.2) (by first | assumption | omega | exact K.to | exact K.tr | exact K.to.2.1 | exact K.to.2.2.1 | exact K.to.2.2.2.1 | exact K.to.2.2.2.2.1 | exact K.to.2.2.2.2.2.1 | exact K.to.2.2.2.2.2.2.1 | exact K.to.2.2.2.2.2.2.2 | exact K.tr.2.1 | exact K.tr.2.2.1 | exact K.tr.2.2.2.1 | exact K.tr.2.2.2.2.1 | exact K.tr.2.2.2.2.2.1 | exact K.tr.2.2.2.2.2.2.1 | exact K.tr.2.2.2.2.2.2.2) (by first | assumption | omega | exact K.to | exact K.tr | exact K.to.2.1 | exact K.to.2.2.1 | exact K.to.2.2.2.1 | exact K.to.2.2.2.2.1 | exact K.to.2.2.2.2.2.1 | exact K.to.2.2.2.2.2.2.1 | exact K.to.2.2.2.2.2.2.2 | exact K.tr.2.1 | exact K.tr.2.2.1 | exact K.tr.2.2.2.1 | exact K.tr.2.2.2.2.1 | exact K.tr.2.2.2.2.2.1 | exact K.tr.2.2.2.2.2.2.1 | exact K.tr.2.2.2.2.2.2.2)) rfl rfl (by first | exact K.to.o | exact K.tr.o | exact K.k0.o | exact K.k1.o) (by rfl) (by decide) (Nat.le_of_ble_eq_true rfl) ?_
          refine wp_topE ew ?_
          refine wp_istore (pc := 74) dX11_heir_74 (by decide) ?_
          refine wp_iload_n (pc := 76) dX11_heir_76 rfl ?_
          refine wp_iconst (pc := 77) dX11_heir_77 ?_
          refine wp_icmp_eq (pc := 78) 88 dX11_heir_78 (by decide) (by first | omega | exact TI.i5 (by assumption) | exact TI.i3 (by assumption) | exact TI.i2 (by assumption) | exact TI.i1 (by assumption) | exact TI.i0 (by assumption) | exact TI.i4 (by assumption) | exact TI.i6 (by assumption) | exact TI.i7 (by assumption)) (by first | omega | exact TI.i5 (by assumption) | exact TI.i3 (by assumption) | exact TI.i2 (by assumption) | exact TI.i1 (by assumption) | exact TI.i0 (by assumption) | exact TI.i4 (by assumption) | exact TI.i6 (by assumption) | exact TI.i7 (by assumption)) (fun c78 => ?_) (fun c78 => ?_)
          ·
            have e1 : hrb (hrf (stl rt) T N x (n : Int)) (hrP T x) (i + 1) = ((i : Int), hrf (stl rt) T N x (n : Int) i) := if_pos ⟨hP, by
              by_cases q : (hrb (hrf (stl rt) T N x (n : Int)) (hrP T x) i).1 = -2
              · have := q2 q; omega
              · have := hb1n q; omega⟩
            have eh : hb1 (hrb (hrf (stl rt) T N x (n : Int)) (hrP T x) (i + 1)) = (i : Int) ∧ hb2 (hrb (hrf (stl rt) T N x (n : Int)) (hrP T x) (i + 1)) = hrf (stl rt) T N x (n : Int) i := by rw [e1]; exact ⟨if_neg (show ¬ (i : Int) = -2 by omega), if_neg (show ¬ (i : Int) = -2 by omega)⟩
            refine wp_iload (pc := 88) dX11_heir_88 rfl ?_
            refine wp_istore_n (pc := 90) dX11_heir_90 (by decide) ?_
            refine wp_iload (pc := 91) dX11_heir_91 rfl ?_
            refine wp_istore (pc := 93) dX11_heir_93 (by decide) ?_
            refine wp_iinc (pc := 95) dX11_heir_95 rfl (by decide) ?_
            refine wp_goto (pc := 98) 28 dX11_heir_98 (by decide) ?_
            refine wp_ls ?_ (ih (i + 1) (by omega) (by omega) _ _ K O)
            rw [eh.1, eh.2]
            repeat' (first | exact LE_0 | refine LE_s rfl ?_ | refine LE_s (I_c (by first | omega | (simp only [sm]; omega))) ?_ | refine LE_s (J_c (by first | omega | exact Int.pow_succ _ _ | exact (Int.pow_succ _ _).symm | exact (Int.pow_zero _).symm | (simp only [sm]; omega))) ?_ | refine LE_n ?_)
          ·
            refine wp_iload (pc := 81) dX11_heir_81 rfl ?_
            refine wp_iload (pc := 83) dX11_heir_83 rfl ?_
            refine wp_icmp_le (pc := 85) 95 dX11_heir_85 (by decide) (by first | omega | exact TI.i5 (by assumption) | exact TI.i3 (by assumption) | exact TI.i2 (by assumption) | exact TI.i1 (by assumption) | exact TI.i0 (by assumption) | exact TI.i4 (by assumption) | exact TI.i6 (by assumption) | exact TI.i7 (by assumption)) (by first | omega | exact TI.i5 (by assumption) | exact TI.i3 (by assumption) | exact TI.i2 (by assumption) | exact TI.i1 (by assumption) | exact TI.i0 (by assumption) | exact TI.i4 (by assumption) | exact TI.i6 (by assumption) | exact TI.i7 (by assumption)) (fun c85 => ?_) (fun c85 => ?_)
            ·
              have q3 : ¬ (hrb (hrf (stl rt) T N x (n : Int)) (hrP T x) i).1 = -2 := fun q => by have := hb1p q; omega
              have q4 := hb1n q3
              have e1 : hrb (hrf (stl rt) T N x (n : Int)) (hrP T x) (i + 1) = hrb (hrf (stl rt) T N x (n : Int)) (hrP T x) i := if_neg (fun q => by have := q.2; omega)
              have eh : hb1 (hrb (hrf (stl rt) T N x (n : Int)) (hrP T x) (i + 1)) = hb1 (hrb (hrf (stl rt) T N x (n : Int)) (hrP T x) i) ∧ hb2 (hrb (hrf (stl rt) T N x (n : Int)) (hrP T x) (i + 1)) = hb2 (hrb (hrf (stl rt) T N x (n : Int)) (hrP T x) i) := by rw [e1]; exact ⟨rfl, rfl⟩
              skip -- go
              refine wp_iinc (pc := 95) dX11_heir_95 rfl (by decide) ?_
              refine wp_goto (pc := 98) 28 dX11_heir_98 (by decide) ?_
              refine wp_ls ?_ (ih (i + 1) (by omega) (by omega) _ _ K O)
              rw [eh.1, eh.2]
              repeat' (first | exact LE_0 | refine LE_s rfl ?_ | refine LE_s (I_c (by first | omega | (simp only [sm]; omega))) ?_ | refine LE_s (J_c (by first | omega | exact Int.pow_succ _ _ | exact (Int.pow_succ _ _).symm | exact (Int.pow_zero _).symm | (simp only [sm]; omega))) ?_ | refine LE_n ?_)
            ·
              have e1 : hrb (hrf (stl rt) T N x (n : Int)) (hrP T x) (i + 1) = ((i : Int), hrf (stl rt) T N x (n : Int) i) := if_pos ⟨hP, by
                by_cases q : (hrb (hrf (stl rt) T N x (n : Int)) (hrP T x) i).1 = -2
                · have := q2 q; omega
                · have := hb1n q; omega⟩
              have eh : hb1 (hrb (hrf (stl rt) T N x (n : Int)) (hrP T x) (i + 1)) = (i : Int) ∧ hb2 (hrb (hrf (stl rt) T N x (n : Int)) (hrP T x) (i + 1)) = hrf (stl rt) T N x (n : Int) i := by rw [e1]; exact ⟨if_neg (show ¬ (i : Int) = -2 by omega), if_neg (show ¬ (i : Int) = -2 by omega)⟩
              refine wp_iload (pc := 88) dX11_heir_88 rfl ?_
              refine wp_istore_n (pc := 90) dX11_heir_90 (by decide) ?_
              refine wp_iload (pc := 91) dX11_heir_91 rfl ?_
              refine wp_istore (pc := 93) dX11_heir_93 (by decide) ?_
              refine wp_iinc (pc := 95) dX11_heir_95 rfl (by decide) ?_
              refine wp_goto (pc := 98) 28 dX11_heir_98 (by decide) ?_
              refine wp_ls ?_ (ih (i + 1) (by omega) (by omega) _ _ K O)
              rw [eh.1, eh.2]
              repeat' (first | exact LE_0 | refine LE_s rfl ?_ | refine LE_s (I_c (by first | omega | (simp only [sm]; omega))) ?_ | refine LE_s (J_c (by first | omega | exact Int.pow_succ _ _ | exact (Int.pow_succ _ _).symm | exact (Int.pow_zero _).symm | (simp only [sm]; omega))) ?_ | refine LE_n ?_)
theorem sp_D_heir (K : DA hp D r s Tr z Z T U tx rw rt hs ss KT) (hI : TI T N) (hH : HS T) (hb : T 7 0 < 1900000000) (rx : InR x) (ry : InR y) : Sp g MX11_heir (rm 7 0 0) [.ref D, .int (I x), .int (I y)] hp (Eff (.int (I (if heO N x y then (hrb (hrf (stl rt) T N x y) (hrP T x) N).1 else -1))) (fun hp2 => DX hp2 D T U tx (if heO N x y then (if (hrb (hrf (stl rt) T N x y) (hrP T x) N).1 = -2 then rw else [1000 + (hrb (hrf (stl rt) T N x y) (hrP T x) N).2, 1000 + wor (runT (stl rt) T N y.toNat) N x]) else rw) rt hs ss KT ∧ SO hp hp2 D (D + 171))) := by
  refine Sp_mk rfl (Nat.le_of_ble_eq_true rfl) ?_
  show wp g _ _ _ 0 0 0 [some (.ref D), some (.int (I x)), some (.int (I y)), none, none, none, none] [] hp
  have O := SO.rf (hp := hp) (lo := D) (hi := D + 171)
  refine wp_aload_n (pc := 0) dX11_heir_0 rfl ?_
  refine wp_getf (pc := 1) dX11_heir_1 gf_X11_26 K.ob (by rfl) ?_
  refine wp_iload_n (pc := 4) dX11_heir_4 rfl ?_
  refine wd_Vp (pc := 5) dX11_heir_5 cl_X11_148 (sp_Town_has (by first | assumption | omega | exact K.to | exact K.tr | exact K.to.2.1 | exact K.to.2.2.1 | exact K.to.2.2.2.1 | exact K.to.2.2.2.2.1 | exact K.to.2.2.2.2.2.1 | exact K.to.2.2.2.2.2.2.1 | exact K.to.2.2.2.2.2.2.2 | exact K.tr.2.1 | exact K.tr.2.2.1 | exact K.tr.2.2.2.1 | exact K.tr.2.2.2.2.1 | exact K.tr.2.2.2.2.2.1 | exact K.tr.2.2.2.2.2.2.1 | exact K.tr.2.2.2.2.2.2.2) (by first | assumption | omega | exact K.to | exact K.tr | exact K.to.2.1 | exact K.to.2.2.1 | exact K.to.2.2.2.1 | exact K.to.2.2.2.2.1 | exact K.to.2.2.2.2.2.1 | exact K.to.2.2.2.2.2.2.1 | exact K.to.2.2.2.2.2.2.2 | exact K.tr.2.1 | exact K.tr.2.2.1 | exact K.tr.2.2.2.1 | exact K.tr.2.2.2.2.1 | exact K.tr.2.2.2.2.2.1 | exact K.tr.2.2.2.2.2.2.1 | exact K.tr.2.2.2.2.2.2.2) (by first | assumption | omega | exact K.to | exact K.tr | exact K.to.2.1 | exact K.to.2.2.1 | exact K.to.2.2.2.1 | exact K.to.2.2.2.2.1 | exact K.to.2.2.2.2.2.1 | exact K.to.2.2.2.2.2.2.1 | exact K.to.2.2.2.2.2.2.2 | exact K.tr.2.1 | exact K.tr.2.2.1 | exact K.tr.2.2.2.1 | exact K.tr.2.2.2.2.1 | exact K.tr.2.2.2.2.2.1 | exact K.tr.2.2.2.2.2.2.1 | exact K.tr.2.2.2.2.2.2.2)) rfl rfl (by first | exact K.to.o | exact K.tr.o | exact K.k0.o | exact K.k1.o) (by rfl) (by decide) (Nat.le_of_ble_eq_true rfl) ?_
  first | refine wp_ifb_eq (pc := 8) 18 dX11_heir_8 (by decide) (fun c8 => ?_) (fun c8 => ?_) | refine wp_if_eq (pc := 8) 18 dX11_heir_8 (by decide) (by first | omega | exact TI.i5 (by assumption) | exact TI.i3 (by assumption) | exact TI.i2 (by assumption) | exact TI.i1 (by assumption) | exact TI.i0 (by assumption) | exact TI.i4 (by assumption) | exact TI.i6 (by assumption) | exact TI.i7 (by assumption)) (fun c8 => ?_) (fun c8 => ?_)
  ·
    rw [if_neg (show ¬ heO N x y by omega), if_neg (show ¬ heO N x y by omega)]
    refine wp_iconst (pc := 18) dX11_heir_18 ?_
    exact wp_ir (pc := 19) dX11_heir_19 rfl (by decide) (by decide) (by first | rfl | omega) ⟨⟨_, _, _, _, _, K⟩, O⟩
  ·
    refine wp_iload_n (pc := 11) dX11_heir_11 rfl ?_
    refine wp_Sp (pc := 12) dX11_heir_12 cl_X11_263 (sp_D_isDeath (by first | assumption | omega | exact K.to | exact K.tr | exact K.to.2.1 | exact K.to.2.2.1 | exact K.to.2.2.2.1 | exact K.to.2.2.2.2.1 | exact K.to.2.2.2.2.2.1 | exact K.to.2.2.2.2.2.2.1 | exact K.to.2.2.2.2.2.2.2 | exact K.tr.2.1 | exact K.tr.2.2.1 | exact K.tr.2.2.2.1 | exact K.tr.2.2.2.2.1 | exact K.tr.2.2.2.2.2.1 | exact K.tr.2.2.2.2.2.2.1 | exact K.tr.2.2.2.2.2.2.2)) rfl rfl (by decide) (Nat.le_of_ble_eq_true rfl) ?_
    first | refine wp_ifb_ne (pc := 15) 20 dX11_heir_15 (by decide) (fun c15 => ?_) (fun c15 => ?_) | refine wp_if_ne (pc := 15) 20 dX11_heir_15 (by decide) (by first | omega | exact TI.i5 (by assumption) | exact TI.i3 (by assumption) | exact TI.i2 (by assumption) | exact TI.i1 (by assumption) | exact TI.i0 (by assumption) | exact TI.i4 (by assumption) | exact TI.i6 (by assumption) | exact TI.i7 (by assumption)) (fun c15 => ?_) (fun c15 => ?_)
    ·
      rw [if_pos (show heO N x y by omega), if_pos (show heO N x y by omega)]
      obtain ⟨n, rfl⟩ := Int.eq_ofNat_of_zero_le (show 0 ≤ y by omega)
      refine wp_iconst (pc := 20) dX11_heir_20 ?_
      refine wp_istore_n (pc := 21) dX11_heir_21 (by decide) ?_
      refine wp_iconst (pc := 22) dX11_heir_22 ?_
      refine wp_istore (pc := 23) dX11_heir_23 (by decide) ?_
      refine wp_iconst (pc := 25) dX11_heir_25 ?_
      refine wp_istore (pc := 26) dX11_heir_26 (by decide) ?_
      refine wp_ls ?_ (lp_D_heir hI hH hb (by omega) (by omega) (N + 1) 0 (by omega) (by omega) _ _ K O)
      show LE _ [_, _, _, some (.int (I (-1))), some (.int (I 0)), _, _]
      repeat' (first | exact LE_0 | refine LE_s rfl ?_ | refine LE_s (I_c (by first | omega | (simp only [sm]; omega))) ?_ | refine LE_s (J_c (by first | omega | exact Int.pow_succ _ _ | exact (Int.pow_succ _ _).symm | exact (Int.pow_zero _).symm | (simp only [sm]; omega))) ?_ | refine LE_n ?_)
    ·
      rw [if_neg (show ¬ heO N x y by omega), if_neg (show ¬ heO N x y by omega)]
      refine wp_iconst (pc := 18) dX11_heir_18 ?_
      exact wp_ir (pc := 19) dX11_heir_19 rfl (by decide) (by decide) (by first | rfl | omega) ⟨⟨_, _, _, _, _, K⟩, O⟩
/-! thinks, owes -/
theorem lp_D_watch (hI : TI T N) (hH : HS T) (hb : T 7 0 < 1900000000) (hA : ∀ (h : Hp) (X : Nat → Int → Int), TownAt h (D + 13) X → h.2 i = some (.inl (.int, 36, X k))) (hr : ∀ X, TI X N → InR (X k x)) (hx : 0 ≤ x ∧ x < 36) (hn : n ≤ 99) : ∀ (m j : Nat), n < j + m → j ≤ n → ∀ (hp2 : Hp) (K : DA hp2 D r s (runT (stl rt) T N j) z Z T U tx rw rt hs ss KT) (O : SO hp hp2 D (D + 171)), wp g MX11_watch (rm 6 0 0) (Eff (.int (I (runT (stl rt) T N n k x))) (fun hp3 => DX hp3 D T U tx [cln (stl rt) T N k x n] rt hs ss KT ∧ SO hp hp3 D (D + 171))) 0 0 18 [some (.ref D), some (.ref i), some (.int (I x)), some (.int (I (n : Int))), some (.int (I (cln (stl rt) T N k x j))), some (.int (I (j : Int))), none] [] hp2 := by
  intro m
  induction m with
  | zero => intro j h1 h2; exact absurd h1 (by omega)
  | succ m ih =>
    intro j h1 h2 hp2 K O
    have hI2 := runT_I (cs := stl rt) hI j (by omega)
    have hI3 := runT_I (cs := stl rt) hI (j + 1) (by omega)
    have hH2 := runT_HS (cs := stl rt) hI hH j (by omega)
    have h7 := runT_7 (stl rt) T N j
    have hr2 := hr _ hI2
    have hr3 := hr _ hI3
    have hc := cln_in (stl rt) T N k x j
    refine wp_iload (pc := 18) dX11_watch_18 rfl ?_
    refine wp_iload_n (pc := 20) dX11_watch_20 rfl ?_
    refine wp_icmp_ge (pc := 21) 63 dX11_watch_21 (by decide) (by first | omega | exact TI.i5 (by assumption) | exact TI.i3 (by assumption) | exact TI.i2 (by assumption) | exact TI.i1 (by assumption) | exact TI.i0 (by assumption) | exact TI.i4 (by assumption) | exact TI.i6 (by assumption) | exact TI.i7 (by assumption)) (by first | omega | exact TI.i5 (by assumption) | exact TI.i3 (by assumption) | exact TI.i2 (by assumption) | exact TI.i1 (by assumption) | exact TI.i0 (by assumption) | exact TI.i4 (by assumption) | exact TI.i6 (by assumption) | exact TI.i7 (by assumption)) (fun c21 => ?_) (fun c21 => ?_)
    ·
      have e : j = n := by omega
      subst e -- go
      refine wp_aload_n (pc := 63) dX11_watch_63 rfl ?_
      refine wp_getf (pc := 64) dX11_watch_64 gf_X11_19 K.ob (by rfl) ?_
      refine wp_iload (pc := 67) dX11_watch_67 rfl ?_
      refine wp_i2l (pc := 69) dX11_watch_69 (by first | omega | exact TI.i5 (by assumption) | exact TI.i3 (by assumption) | exact TI.i2 (by assumption) | exact TI.i1 (by assumption) | exact TI.i0 (by assumption) | exact TI.i4 (by assumption) | exact TI.i6 (by assumption) | exact TI.i7 (by assumption)) ?_
      refine wd_Vn (pc := 70) dX11_watch_70 cl_X11_272 (sp_Row_tell K.ro) rfl rfl K.ro.o (by rfl) (by decide) (Nat.le_of_ble_eq_true rfl) (fun hp70 e70 => ?_)
      obtain ⟨h70, o70⟩ := e70
      replace O := O.inn o70 (by omega) (by omega)
      replace K := K.uRo h70 o70
      refine wp_aload_n (pc := 73) dX11_watch_73 rfl ?_
      refine wp_iload_n (pc := 74) dX11_watch_74 rfl ?_
      refine wp_iald (pc := 75) dX11_watch_75 (hA _ _ K.tr) (by omega) (by omega) (by decide) ?_
      exact wp_ir (pc := 76) dX11_watch_76 rfl (by decide) (by decide) (by first | rfl | omega) ⟨⟨_, _, _, _, _, K⟩, O⟩
    ·
      refine wp_aload_n (pc := 24) dX11_watch_24 rfl ?_
      refine wp_iload_n (pc := 25) dX11_watch_25 rfl ?_
      refine wp_iald (pc := 26) dX11_watch_26 (hA _ _ K.tr) (by omega) (by omega) (by decide) ?_
      refine wp_istore (pc := 27) dX11_watch_27 (by decide) ?_
      refine wp_aload_n (pc := 29) dX11_watch_29 rfl ?_
      refine wp_getf (pc := 30) dX11_watch_30 gf_X11_36 K.ob (by rfl) ?_
      refine wp_aload_n (pc := 33) dX11_watch_33 rfl ?_
      refine wp_getf (pc := 34) dX11_watch_34 gf_X11_30 K.ob (by rfl) ?_
      refine wp_aload_n (pc := 37) dX11_watch_37 rfl ?_
      refine wp_getf (pc := 38) dX11_watch_38 gf_X11_91 K.ob (by rfl) ?_
      refine wp_iconst (pc := 41) dX11_watch_41 ?_
      refine wd_Vs (pc := 42) dX11_watch_42 cl_X11_197 (sp_Clock_run (n := 1) K.tr hI2 hH2 (by omega) (by omega) K.cl K.ru (by omega) (by have := K.rs; omega) (by have := K.rs; omega)) rfl rfl K.cl.o (by rfl) (by decide) (Nat.le_of_ble_eq_true rfl) (fun hp42 e42 => ?_)
      obtain ⟨t42, c42, u42, e1, o42⟩ := e42
      replace O := O.cr e1 o42 (by have := K.rs; omega) (by omega) (by omega)
      first | replace K := K.cTo t42 c42 u42 o42 | replace K := K.cTr t42 c42 u42 o42
      have K' : DA hp42 D r s (runT (stl rt) T N (j + 1)) z Z T U tx rw rt hs ss KT := K
      replace K := K'
      refine wp_pop (pc := 45) dX11_watch_45 rfl ?_
      refine wp_aload_n (pc := 46) dX11_watch_46 rfl ?_
      refine wp_iload_n (pc := 47) dX11_watch_47 rfl ?_
      refine wp_iald (pc := 48) dX11_watch_48 (hA _ _ K.tr) (by omega) (by omega) (by decide) ?_
      refine wp_iload (pc := 49) dX11_watch_49 rfl ?_
      refine wp_icmp_eq (pc := 51) 57 dX11_watch_51 (by decide) (by first | omega | exact TI.i5 (by assumption) | exact TI.i3 (by assumption) | exact TI.i2 (by assumption) | exact TI.i1 (by assumption) | exact TI.i0 (by assumption) | exact TI.i4 (by assumption) | exact TI.i6 (by assumption) | exact TI.i7 (by assumption)) (by first | omega | exact TI.i5 (by assumption) | exact TI.i3 (by assumption) | exact TI.i2 (by assumption) | exact TI.i1 (by assumption) | exact TI.i0 (by assumption) | exact TI.i4 (by assumption) | exact TI.i6 (by assumption) | exact TI.i7 (by assumption)) (fun c51 => ?_) (fun c51 => ?_)
      ·
        have e1 : cln (stl rt) T N k x (j + 1) = cln (stl rt) T N k x j + 0 := congrArg _ (if_pos c51)
        skip -- go
        refine wp_iinc (pc := 57) dX11_watch_57 rfl (by decide) ?_
        refine wp_goto (pc := 60) 18 dX11_watch_60 (by decide) ?_
        refine wp_ls ?_ (ih (j + 1) (by omega) (by omega) _ K O)
        repeat' (first | exact LE_0 | refine LE_s rfl ?_ | refine LE_s (I_c (by first | omega | (simp only [sm]; omega))) ?_ | refine LE_s (J_c (by first | omega | exact Int.pow_succ _ _ | exact (Int.pow_succ _ _).symm | exact (Int.pow_zero _).symm | (simp only [sm]; omega))) ?_ | refine LE_n ?_)
      ·
        have e1 : cln (stl rt) T N k x (j + 1) = cln (stl rt) T N k x j + 1 := congrArg _ (if_neg c51)
        skip -- go
        refine wp_iinc (pc := 54) dX11_watch_54 rfl (by decide) ?_
        refine wp_iinc (pc := 57) dX11_watch_57 rfl (by decide) ?_
        refine wp_goto (pc := 60) 18 dX11_watch_60 (by decide) ?_
        refine wp_ls ?_ (ih (j + 1) (by omega) (by omega) _ K O)
        repeat' (first | exact LE_0 | refine LE_s rfl ?_ | refine LE_s (I_c (by first | omega | (simp only [sm]; omega))) ?_ | refine LE_s (J_c (by first | omega | exact Int.pow_succ _ _ | exact (Int.pow_succ _ _).symm | exact (Int.pow_zero _).symm | (simp only [sm]; omega))) ?_ | refine LE_n ?_)
theorem sp_D_watch (K : DA hp D r s T z Z T U tx rw rt hs ss KT) (hI : TI T N) (hH : HS T) (hb : T 7 0 < 1900000000) (hA : ∀ (h : Hp) (X : Nat → Int → Int), TownAt h (D + 13) X → h.2 i = some (.inl (.int, 36, X k))) (hr : ∀ X, TI X N → InR (X k x)) (hx : 0 ≤ x ∧ x < 36) (hn : n ≤ 99) : Sp g MX11_watch (rm 6 0 0) [.ref D, .ref i, .int (I x), .int (I (n : Int))] hp (Eff (.int (I (runT (stl rt) T N n k x))) (fun hp2 => DX hp2 D T U tx [cln (stl rt) T N k x n] rt hs ss KT ∧ SO hp hp2 D (D + 171))) := by
  refine Sp_mk rfl (Nat.le_of_ble_eq_true rfl) ?_
  show wp g _ _ _ 0 0 0 [some (.ref D), some (.ref i), some (.int (I x)), some (.int (I (n : Int))), none, none, none] [] hp
  have O := SO.rf (hp := hp) (lo := D) (hi := D + 171)
  refine wp_iload_n (pc := 0) dX11_watch_0 rfl ?_
  refine wp_if_lt (pc := 1) 10 dX11_watch_1 (by decide) (by first | omega | exact TI.i5 (by assumption) | exact TI.i3 (by assumption) | exact TI.i2 (by assumption) | exact TI.i1 (by assumption) | exact TI.i0 (by assumption) | exact TI.i4 (by assumption) | exact TI.i6 (by assumption) | exact TI.i7 (by assumption)) (fun c1 => ?_) (fun c1 => ?_)
  ·
    exact absurd c1 (by omega)
  ·
    refine wp_iload_n (pc := 4) dX11_watch_4 rfl ?_
    refine wp_aload_n (pc := 5) dX11_watch_5 rfl ?_
    refine wp_alen (pc := 6) dX11_watch_6 (hA _ _ K.tr) ?_
    refine wp_icmp_lt (pc := 7) 12 dX11_watch_7 (by decide) (by first | omega | exact TI.i5 (by assumption) | exact TI.i3 (by assumption) | exact TI.i2 (by assumption) | exact TI.i1 (by assumption) | exact TI.i0 (by assumption) | exact TI.i4 (by assumption) | exact TI.i6 (by assumption) | exact TI.i7 (by assumption)) (by first | omega | exact TI.i5 (by assumption) | exact TI.i3 (by assumption) | exact TI.i2 (by assumption) | exact TI.i1 (by assumption) | exact TI.i0 (by assumption) | exact TI.i4 (by assumption) | exact TI.i6 (by assumption) | exact TI.i7 (by assumption)) (fun c7 => ?_) (fun c7 => ?_)
    ·
      refine wp_iconst (pc := 12) dX11_watch_12 ?_
      refine wp_istore (pc := 13) dX11_watch_13 (by decide) ?_
      refine wp_iconst (pc := 15) dX11_watch_15 ?_
      refine wp_istore (pc := 16) dX11_watch_16 (by decide) ?_
      refine wp_ls ?_ (lp_D_watch hI hH hb hA hr hx hn (n + 1) 0 (by omega) (by omega) _ K O)
      repeat' (first | exact LE_0 | refine LE_s rfl ?_ | refine LE_s (I_c (by first | omega | (simp only [sm]; omega))) ?_ | refine LE_s (J_c (by first | omega | exact Int.pow_succ _ _ | exact (Int.pow_succ _ _).symm | exact (Int.pow_zero _).symm | (simp only [sm]; omega))) ?_ | refine LE_n ?_)
    ·
      exact absurd c7 (by omega)
theorem sp_D_thinks (K : DA hp D r s Tr z Z T U tx rw rt hs ss KT) (hI : TI T N) (hH : HS T) (hb : T 7 0 < 1900000000) (rx : InR x) (ry : InR y) (rc : InR c) : Sp g MX11_thinks (rm 7 0 0) [.ref D, .int (I x), .int (I y), .int (I c)] hp (Eff (.int (I (if thO N x y c then runT (stl rt) T N c.toNat 0 (x * 6 + y) else -1))) (fun hp2 => DX hp2 D T U tx (if thO N x y c then [cln (stl rt) T N 0 (x * 6 + y) c.toNat] else rw) rt hs ss KT ∧ SO hp hp2 D (D + 171))) := by
  obtain ⟨h8, hN⟩ := hI.men
  refine Sp_mk rfl (Nat.le_of_ble_eq_true rfl) ?_
  show wp g _ _ _ 0 0 0 [some (.ref D), some (.int (I x)), some (.int (I y)), some (.int (I c))] [] hp
  have O := SO.rf (hp := hp) (lo := D) (hi := D + 171)
  refine wp_aload_n (pc := 0) dX11_thinks_0 rfl ?_
  refine wp_getf (pc := 1) dX11_thinks_1 gf_X11_26 K.ob (by rfl) ?_
  refine wp_iload_n (pc := 4) dX11_thinks_4 rfl ?_
  refine wp_iload_n (pc := 5) dX11_thinks_5 rfl ?_
  refine wd_Vp (pc := 6) dX11_thinks_6 cl_X11_172 (sp_Town_hasTwo (by first | assumption | omega | exact K.to | exact K.tr | exact K.to.2.1 | exact K.to.2.2.1 | exact K.to.2.2.2.1 | exact K.to.2.2.2.2.1 | exact K.to.2.2.2.2.2.1 | exact K.to.2.2.2.2.2.2.1 | exact K.to.2.2.2.2.2.2.2 | exact K.tr.2.1 | exact K.tr.2.2.1 | exact K.tr.2.2.2.1 | exact K.tr.2.2.2.2.1 | exact K.tr.2.2.2.2.2.1 | exact K.tr.2.2.2.2.2.2.1 | exact K.tr.2.2.2.2.2.2.2) (by first | assumption | omega | exact K.to | exact K.tr | exact K.to.2.1 | exact K.to.2.2.1 | exact K.to.2.2.2.1 | exact K.to.2.2.2.2.1 | exact K.to.2.2.2.2.2.1 | exact K.to.2.2.2.2.2.2.1 | exact K.to.2.2.2.2.2.2.2 | exact K.tr.2.1 | exact K.tr.2.2.1 | exact K.tr.2.2.2.1 | exact K.tr.2.2.2.2.1 | exact K.tr.2.2.2.2.2.1 | exact K.tr.2.2.2.2.2.2.1 | exact K.tr.2.2.2.2.2.2.2) (by first | assumption | omega | exact K.to | exact K.tr | exact K.to.2.1 | exact K.to.2.2.1 | exact K.to.2.2.2.1 | exact K.to.2.2.2.2.1 | exact K.to.2.2.2.2.2.1 | exact K.to.2.2.2.2.2.2.1 | exact K.to.2.2.2.2.2.2.2 | exact K.tr.2.1 | exact K.tr.2.2.1 | exact K.tr.2.2.2.1 | exact K.tr.2.2.2.2.1 | exact K.tr.2.2.2.2.2.1 | exact K.tr.2.2.2.2.2.2.1 | exact K.tr.2.2.2.2.2.2.2) (by first | assumption | omega | exact K.to | exact K.tr | exact K.to.2.1 | exact K.to.2.2.1 | exact K.to.2.2.2.1 | exact K.to.2.2.2.2.1 | exact K.to.2.2.2.2.2.1 | exact K.to.2.2.2.2.2.2.1 | exact K.to.2.2.2.2.2.2.2 | exact K.tr.2.1 | exact K.tr.2.2.1 | exact K.tr.2.2.2.1 | exact K.tr.2.2.2.2.1 | exact K.tr.2.2.2.2.2.1 | exact K.tr.2.2.2.2.2.2.1 | exact K.tr.2.2.2.2.2.2.2)) rfl rfl (by first | exact K.to.o | exact K.tr.o | exact K.k0.o | exact K.k1.o) (by rfl) (by decide) (Nat.le_of_ble_eq_true rfl) ?_
  first | refine wp_ifb_eq (pc := 9) 19 dX11_thinks_9 (by decide) (fun c9 => ?_) (fun c9 => ?_) | refine wp_if_eq (pc := 9) 19 dX11_thinks_9 (by decide) (by first | omega | exact TI.i5 (by assumption) | exact TI.i3 (by assumption) | exact TI.i2 (by assumption) | exact TI.i1 (by assumption) | exact TI.i0 (by assumption) | exact TI.i4 (by assumption) | exact TI.i6 (by assumption) | exact TI.i7 (by assumption)) (fun c9 => ?_) (fun c9 => ?_)
  ·
    rw [if_neg (show ¬ thO N x y c by omega), if_neg (show ¬ thO N x y c by omega)]
    refine wp_iconst (pc := 19) dX11_thinks_19 ?_
    exact wp_ir (pc := 20) dX11_thinks_20 rfl (by decide) (by decide) (by first | rfl | omega) ⟨⟨_, _, _, _, _, K⟩, O⟩
  ·
    refine wp_iload_n (pc := 12) dX11_thinks_12 rfl ?_
    refine wp_Sp (pc := 13) dX11_thinks_13 cl_X11_253 (sp_D_isAhead (by first | assumption | omega | exact K.to | exact K.tr | exact K.to.2.1 | exact K.to.2.2.1 | exact K.to.2.2.2.1 | exact K.to.2.2.2.2.1 | exact K.to.2.2.2.2.2.1 | exact K.to.2.2.2.2.2.2.1 | exact K.to.2.2.2.2.2.2.2 | exact K.tr.2.1 | exact K.tr.2.2.1 | exact K.tr.2.2.2.1 | exact K.tr.2.2.2.2.1 | exact K.tr.2.2.2.2.2.1 | exact K.tr.2.2.2.2.2.2.1 | exact K.tr.2.2.2.2.2.2.2)) rfl rfl (by decide) (Nat.le_of_ble_eq_true rfl) ?_
    first | refine wp_ifb_ne (pc := 16) 21 dX11_thinks_16 (by decide) (fun c16 => ?_) (fun c16 => ?_) | refine wp_if_ne (pc := 16) 21 dX11_thinks_16 (by decide) (by first | omega | exact TI.i5 (by assumption) | exact TI.i3 (by assumption) | exact TI.i2 (by assumption) | exact TI.i1 (by assumption) | exact TI.i0 (by assumption) | exact TI.i4 (by assumption) | exact TI.i6 (by assumption) | exact TI.i7 (by assumption)) (fun c16 => ?_) (fun c16 => ?_)
    ·
      rw [if_pos (show thO N x y c by omega), if_pos (show thO N x y c by omega)]
      obtain ⟨n, rfl⟩ := Int.eq_ofNat_of_zero_le (show 0 ≤ c by omega)
      refine wp_aload_n (pc := 21) dX11_thinks_21 rfl ?_
      refine wp_getf (pc := 22) dX11_thinks_22 gf_X11_30 K.ob (by rfl) ?_
      refine wp_aload_n (pc := 25) dX11_thinks_25 rfl ?_
      refine wp_getf (pc := 26) dX11_thinks_26 gf_X11_26 K.ob (by rfl) ?_
      refine wd_Vn (pc := 29) dX11_thinks_29 cl_X11_250 (sp_Town_copy K.tr K.to (by omega)) rfl rfl (by first | exact K.to.o | exact K.tr.o | exact K.k0.o | exact K.k1.o) (by rfl) (by decide) (Nat.le_of_ble_eq_true rfl) (fun hp29 e29 => ?_)
      obtain ⟨h29, o29⟩ := e29
      replace O := O.inn o29 (by omega) (by omega)
      replace K := K.uTr h29 o29
      refine wp_aload_n (pc := 32) dX11_thinks_32 rfl ?_
      refine wp_aload_n (pc := 33) dX11_thinks_33 rfl ?_
      refine wp_getf (pc := 34) dX11_thinks_34 gf_X11_30 K.ob (by rfl) ?_
      refine wp_getf (pc := 37) dX11_thinks_37 gf_X11_133 (by first | exact K.ob | exact K.to.1 | exact K.tr.1 | exact K.to.2.1 | exact K.to.2.2.1 | exact K.to.2.2.2.1 | exact K.to.2.2.2.2.1 | exact K.to.2.2.2.2.2.1 | exact K.to.2.2.2.2.2.2.1 | exact K.to.2.2.2.2.2.2.2 | exact K.tr.2.1 | exact K.tr.2.2.1 | exact K.tr.2.2.2.1 | exact K.tr.2.2.2.2.1 | exact K.tr.2.2.2.2.2.1 | exact K.tr.2.2.2.2.2.2.1 | exact K.tr.2.2.2.2.2.2.2) (by rfl) ?_
      refine wp_iload_n (pc := 40) dX11_thinks_40 rfl ?_
      refine wp_iload_n (pc := 41) dX11_thinks_41 rfl ?_
      refine wp_Sp (pc := 42) dX11_thinks_42 cl_X11_137 sp_D_pair rfl rfl (by decide) (Nat.le_of_ble_eq_true rfl) ?_
      refine wp_iload_n (pc := 45) dX11_thinks_45 rfl ?_
      refine wd_Vs (pc := 46) dX11_thinks_46 cl_X11_280 (sp_D_watch (k := 0) (n := n) K hI hH hb (fun h X q => q.2.1) (fun X q => q.i0) (by omega) (by omega)) rfl rfl K.o (by rfl) (by decide) (Nat.le_of_ble_eq_true rfl) (fun hp46 e46 => ?_)
      obtain ⟨⟨r46, s46, Tr46, z46, Z46, K⟩, O1⟩ := e46; replace O := SO.tr O O1
      exact wp_ir (pc := 49) dX11_thinks_49 rfl (by decide) (by decide) (by first | rfl | omega) ⟨⟨_, _, _, _, _, K⟩, O⟩
    ·
      rw [if_neg (show ¬ thO N x y c by omega), if_neg (show ¬ thO N x y c by omega)]
      refine wp_iconst (pc := 19) dX11_thinks_19 ?_
      exact wp_ir (pc := 20) dX11_thinks_20 rfl (by decide) (by decide) (by first | rfl | omega) ⟨⟨_, _, _, _, _, K⟩, O⟩
theorem sp_D_owes (K : DA hp D r s Tr z Z T U tx rw rt hs ss KT) (hI : TI T N) (hH : HS T) (hb : T 7 0 < 1900000000) (rx : InR x) (ry : InR y) (rc : InR c) : Sp g MX11_owes (rm 7 0 0) [.ref D, .int (I x), .int (I y), .int (I c)] hp (Eff (.int (I (if thO N x y c then runT (stl rt) T N c.toNat 1 (x * 6 + y) else -1))) (fun hp2 => DX hp2 D T U tx (if thO N x y c then [cln (stl rt) T N 1 (x * 6 + y) c.toNat] else rw) rt hs ss KT ∧ SO hp hp2 D (D + 171))) := by
  obtain ⟨h8, hN⟩ := hI.men
  refine Sp_mk rfl (Nat.le_of_ble_eq_true rfl) ?_
  show wp g _ _ _ 0 0 0 [some (.ref D), some (.int (I x)), some (.int (I y)), some (.int (I c))] [] hp
  have O := SO.rf (hp := hp) (lo := D) (hi := D + 171)
  refine wp_aload_n (pc := 0) dX11_owes_0 rfl ?_
  refine wp_getf (pc := 1) dX11_owes_1 gf_X11_26 K.ob (by rfl) ?_
  refine wp_iload_n (pc := 4) dX11_owes_4 rfl ?_
  refine wp_iload_n (pc := 5) dX11_owes_5 rfl ?_
  refine wd_Vp (pc := 6) dX11_owes_6 cl_X11_172 (sp_Town_hasTwo (by first | assumption | omega | exact K.to | exact K.tr | exact K.to.2.1 | exact K.to.2.2.1 | exact K.to.2.2.2.1 | exact K.to.2.2.2.2.1 | exact K.to.2.2.2.2.2.1 | exact K.to.2.2.2.2.2.2.1 | exact K.to.2.2.2.2.2.2.2 | exact K.tr.2.1 | exact K.tr.2.2.1 | exact K.tr.2.2.2.1 | exact K.tr.2.2.2.2.1 | exact K.tr.2.2.2.2.2.1 | exact K.tr.2.2.2.2.2.2.1 | exact K.tr.2.2.2.2.2.2.2) (by first | assumption | omega | exact K.to | exact K.tr | exact K.to.2.1 | exact K.to.2.2.1 | exact K.to.2.2.2.1 | exact K.to.2.2.2.2.1 | exact K.to.2.2.2.2.2.1 | exact K.to.2.2.2.2.2.2.1 | exact K.to.2.2.2.2.2.2.2 | exact K.tr.2.1 | exact K.tr.2.2.1 | exact K.tr.2.2.2.1 | exact K.tr.2.2.2.2.1 | exact K.tr.2.2.2.2.2.1 | exact K.tr.2.2.2.2.2.2.1 | exact K.tr.2.2.2.2.2.2.2) (by first | assumption | omega | exact K.to | exact K.tr | exact K.to.2.1 | exact K.to.2.2.1 | exact K.to.2.2.2.1 | exact K.to.2.2.2.2.1 | exact K.to.2.2.2.2.2.1 | exact K.to.2.2.2.2.2.2.1 | exact K.to.2.2.2.2.2.2.2 | exact K.tr.2.1 | exact K.tr.2.2.1 | exact K.tr.2.2.2.1 | exact K.tr.2.2.2.2.1 | exact K.tr.2.2.2.2.2.1 | exact K.tr.2.2.2.2.2.2.1 | exact K.tr.2.2.2.2.2.2.2) (by first | assumption | omega | exact K.to | exact K.tr | exact K.to.2.1 | exact K.to.2.2.1 | exact K.to.2.2.2.1 | exact K.to.2.2.2.2.1 | exact K.to.2.2.2.2.2.1 | exact K.to.2.2.2.2.2.2.1 | exact K.to.2.2.2.2.2.2.2 | exact K.tr.2.1 | exact K.tr.2.2.1 | exact K.tr.2.2.2.1 | exact K.tr.2.2.2.2.1 | exact K.tr.2.2.2.2.2.1 | exact K.tr.2.2.2.2.2.2.1 | exact K.tr.2.2.2.2.2.2.2)) rfl rfl (by first | exact K.to.o | exact K.tr.o | exact K.k0.o | exact K.k1.o) (by rfl) (by decide) (Nat.le_of_ble_eq_true rfl) ?_
  first | refine wp_ifb_eq (pc := 9) 19 dX11_owes_9 (by decide) (fun c9 => ?_) (fun c9 => ?_) | refine wp_if_eq (pc := 9) 19 dX11_owes_9 (by decide) (by first | omega | exact TI.i5 (by assumption) | exact TI.i3 (by assumption) | exact TI.i2 (by assumption) | exact TI.i1 (by assumption) | exact TI.i0 (by assumption) | exact TI.i4 (by assumption) | exact TI.i6 (by assumption) | exact TI.i7 (by assumption)) (fun c9 => ?_) (fun c9 => ?_)
  ·
    rw [if_neg (show ¬ thO N x y c by omega), if_neg (show ¬ thO N x y c by omega)]
    refine wp_iconst (pc := 19) dX11_owes_19 ?_
    exact wp_ir (pc := 20) dX11_owes_20 rfl (by decide) (by decide) (by first | rfl | omega) ⟨⟨_, _, _, _, _, K⟩, O⟩
  ·
    refine wp_iload_n (pc := 12) dX11_owes_12 rfl ?_
    refine wp_Sp (pc := 13) dX11_owes_13 cl_X11_253 (sp_D_isAhead (by first | assumption | omega | exact K.to | exact K.tr | exact K.to.2.1 | exact K.to.2.2.1 | exact K.to.2.2.2.1 | exact K.to.2.2.2.2.1 | exact K.to.2.2.2.2.2.1 | exact K.to.2.2.2.2.2.2.1 | exact K.to.2.2.2.2.2.2.2 | exact K.tr.2.1 | exact K.tr.2.2.1 | exact K.tr.2.2.2.1 | exact K.tr.2.2.2.2.1 | exact K.tr.2.2.2.2.2.1 | exact K.tr.2.2.2.2.2.2.1 | exact K.tr.2.2.2.2.2.2.2)) rfl rfl (by decide) (Nat.le_of_ble_eq_true rfl) ?_
    first | refine wp_ifb_ne (pc := 16) 21 dX11_owes_16 (by decide) (fun c16 => ?_) (fun c16 => ?_) | refine wp_if_ne (pc := 16) 21 dX11_owes_16 (by decide) (by first | omega | exact TI.i5 (by assumption) | exact TI.i3 (by assumption) | exact TI.i2 (by assumption) | exact TI.i1 (by assumption) | exact TI.i0 (by assumption) | exact TI.i4 (by assumption) | exact TI.i6 (by assumption) | exact TI.i7 (by assumption)) (fun c16 => ?_) (fun c16 => ?_)
    ·
      rw [if_pos (show thO N x y c by omega), if_pos (show thO N x y c by omega)]
      obtain ⟨n, rfl⟩ := Int.eq_ofNat_of_zero_le (show 0 ≤ c by omega)
      refine wp_aload_n (pc := 21) dX11_owes_21 rfl ?_
      refine wp_getf (pc := 22) dX11_owes_22 gf_X11_30 K.ob (by rfl) ?_
      refine wp_aload_n (pc := 25) dX11_owes_25 rfl ?_
      refine wp_getf (pc := 26) dX11_owes_26 gf_X11_26 K.ob (by rfl) ?_
      refine wd_Vn (pc := 29) dX11_owes_29 cl_X11_250 (sp_Town_copy K.tr K.to (by omega)) rfl rfl (by first | exact K.to.o | exact K.tr.o | exact K.k0.o | exact K.k1.o) (by rfl) (by decide) (Nat.le_of_ble_eq_true rfl) (fun hp29 e29 => ?_)
      obtain ⟨h29, o29⟩ := e29
      replace O := O.inn o29 (by omega) (by omega)
      replace K := K.uTr h29 o29
      refine wp_aload_n (pc := 32) dX11_owes_32 rfl ?_
      refine wp_aload_n (pc := 33) dX11_owes_33 rfl ?_
      refine wp_getf (pc := 34) dX11_owes_34 gf_X11_30 K.ob (by rfl) ?_
      refine wp_getf (pc := 37) dX11_owes_37 gf_X11_180 (by first | exact K.ob | exact K.to.1 | exact K.tr.1 | exact K.to.2.1 | exact K.to.2.2.1 | exact K.to.2.2.2.1 | exact K.to.2.2.2.2.1 | exact K.to.2.2.2.2.2.1 | exact K.to.2.2.2.2.2.2.1 | exact K.to.2.2.2.2.2.2.2 | exact K.tr.2.1 | exact K.tr.2.2.1 | exact K.tr.2.2.2.1 | exact K.tr.2.2.2.2.1 | exact K.tr.2.2.2.2.2.1 | exact K.tr.2.2.2.2.2.2.1 | exact K.tr.2.2.2.2.2.2.2) (by rfl) ?_
      refine wp_iload_n (pc := 40) dX11_owes_40 rfl ?_
      refine wp_iload_n (pc := 41) dX11_owes_41 rfl ?_
      refine wp_Sp (pc := 42) dX11_owes_42 cl_X11_137 sp_D_pair rfl rfl (by decide) (Nat.le_of_ble_eq_true rfl) ?_
      refine wp_iload_n (pc := 45) dX11_owes_45 rfl ?_
      refine wd_Vs (pc := 46) dX11_owes_46 cl_X11_280 (sp_D_watch (k := 1) (n := n) K hI hH hb (fun h X q => q.2.2.1) (fun X q => q.i1) (by omega) (by omega)) rfl rfl K.o (by rfl) (by decide) (Nat.le_of_ble_eq_true rfl) (fun hp46 e46 => ?_)
      obtain ⟨⟨r46, s46, Tr46, z46, Z46, K⟩, O1⟩ := e46; replace O := SO.tr O O1
      exact wp_ir (pc := 49) dX11_owes_49 rfl (by decide) (by decide) (by first | rfl | omega) ⟨⟨_, _, _, _, _, K⟩, O⟩
    ·
      rw [if_neg (show ¬ thO N x y c by omega), if_neg (show ¬ thO N x y c by omega)]
      refine wp_iconst (pc := 19) dX11_owes_19 ?_
      exact wp_ir (pc := 20) dX11_owes_20 rfl (by decide) (by decide) (by first | rfl | omega) ⟨⟨_, _, _, _, _, K⟩, O⟩
end D3

