/-! the class: people -/
section D8
variable {g : GT} {hp hp2 hp0 : Hp} {D r s N n k i P : Nat} {T T2 Tr Z X : Nat → Int → Int} {z x y a b c : Int} {U : List (Nat → Int → Int)} {tx rw rt : List Int} {hs : List (Int × Int)} {ss : List (Int × Int × Int)} {KT KT2 : Nat → Option (Nat → Int → Int)}
theorem hr_at {l : List Int} {tp p : Nat} (h1 : p < l.length) (h2 : p < tp) : hr l tp p = l.getD p 0 := if_pos ⟨h1, h2⟩
theorem hr_no {l : List Int} {tp p : Nat} (h : ¬ (p < l.length ∧ p < tp)) : hr l tp p = -1 := if_neg h
theorem ppv_eq {F : Nat} (h : FB tx N F) (hne : tx ≠ []) : ppv tx N = if F = tx.length ∧ tx.length % 8 = 7 then -1 else (F : Int) := by
  unfold ppv
  rw [if_neg hne, ← h.eq]
theorem lp_D_wil (hN : N ≤ 6) (hl : byl tx) (hne : tx ≠ []) (K : DA hp D r s Tr z Z T U tx rw rt hs ss KT) : ∀ (m i : Nat), (min tx.length 47) < i + m → i ≤ (min tx.length 47) → ∀ (ho : ∀ p, p < i → okp tx N p), wp g MX11_wrongInLines (rm 1 0 0) (Pur (.int (I (ppv tx N))) hp) 0 0 10 [some (.ref D), some (.int (I (6 - (N : Int)))), some (.int (I (tx.length : Int))), some (.int (I (i : Int))), none, none, none] [] hp := by
  intro m
  induction m with
  | zero => intro i h1 h2; exact absurd h1 (by omega)
  | succ m ih =>
    intro i h1 h2 ho
    have hlen : tx.length ≤ 80 := by obtain ⟨S, r0, r1, q, _⟩ := K.te; exact q
    have hg := byl_D hl i
    refine wp_iload_n (pc := 10) dX11_wrongInLines_10 rfl ?_
    refine wp_bipush (pc := 11) (y := 47) dX11_wrongInLines_11 (by decide) ?_
    refine wp_icmp_ge (pc := 13) 94 dX11_wrongInLines_13 (by decide) (by first | omega | exact TI.i5 (by assumption) | exact TI.i3 (by assumption) | exact TI.i2 (by assumption) | exact TI.i1 (by assumption) | exact TI.i0 (by assumption) | exact TI.i4 (by assumption) | exact TI.i6 (by assumption) | exact TI.i7 (by assumption)) (by first | omega | exact TI.i5 (by assumption) | exact TI.i3 (by assumption) | exact TI.i2 (by assumption) | exact TI.i1 (by assumption) | exact TI.i0 (by assumption) | exact TI.i4 (by assumption) | exact TI.i6 (by assumption) | exact TI.i7 (by assumption)) (fun c13 => ?_) (fun c13 => ?_)
    ·
      first
      | (exfalso; omega)
      | skip
        have eF : FB tx N (min tx.length 47) := ⟨fun q => by
          have hh := hr_no (l := tx) (tp := 47) (p := min tx.length 47) (by omega)
          have q2 := q.2.1
          have q3 := q.2.2
          rw [hh] at q2 q3
          by_cases q4 : min tx.length 47 % 8 = 7
          · have := q2 q4; omega
          · have := q3 q4; omega, fun p hp => ho p (by omega)⟩
        rw [ppv_eq eF hne]
        refine wp_iload_n (pc := 94) dX11_wrongInLines_94 rfl ?_
        refine wp_bipush (pc := 95) (y := 47) dX11_wrongInLines_95 (by decide) ?_
        refine wp_icmp_le (pc := 97) 103 dX11_wrongInLines_97 (by decide) (by first | omega | exact TI.i5 (by assumption) | exact TI.i3 (by assumption) | exact TI.i2 (by assumption) | exact TI.i1 (by assumption) | exact TI.i0 (by assumption) | exact TI.i4 (by assumption) | exact TI.i6 (by assumption) | exact TI.i7 (by assumption)) (by first | omega | exact TI.i5 (by assumption) | exact TI.i3 (by assumption) | exact TI.i2 (by assumption) | exact TI.i1 (by assumption) | exact TI.i0 (by assumption) | exact TI.i4 (by assumption) | exact TI.i6 (by assumption) | exact TI.i7 (by assumption)) (fun c97 => ?_) (fun c97 => ?_)
        ·
          first
          | (exfalso; omega)
          | skip
            refine wp_iload_n (pc := 103) dX11_wrongInLines_103 rfl ?_
            refine wp_bipush (pc := 104) (y := 8) dX11_wrongInLines_104 (by decide) ?_
            refine wp_irem (pc := 106) dX11_wrongInLines_106 (by decide) (I_rem (by omega) (by omega) (by omega) (by omega)) ?_
            refine wp_bipush (pc := 107) (y := 7) dX11_wrongInLines_107 (by decide) ?_
            refine wp_icmp_ne (pc := 109) 116 dX11_wrongInLines_109 (by decide) (by first | omega | exact TI.i5 (by assumption) | exact TI.i3 (by assumption) | exact TI.i2 (by assumption) | exact TI.i1 (by assumption) | exact TI.i0 (by assumption) | exact TI.i4 (by assumption) | exact TI.i6 (by assumption) | exact TI.i7 (by assumption)) (by first | omega | exact TI.i5 (by assumption) | exact TI.i3 (by assumption) | exact TI.i2 (by assumption) | exact TI.i1 (by assumption) | exact TI.i0 (by assumption) | exact TI.i4 (by assumption) | exact TI.i6 (by assumption) | exact TI.i7 (by assumption)) (fun c109 => ?_) (fun c109 => ?_)
            ·
              rw [if_neg (by omega), show min tx.length 47 = tx.length by omega] -- go
              refine wp_iload_n (pc := 116) dX11_wrongInLines_116 rfl ?_
              exact wp_ir (pc := 117) dX11_wrongInLines_117 rfl (by decide) (by decide) (by first | rfl | omega) rfl
            ·
              rw [if_pos (by omega)] -- go
              refine wp_iconst (pc := 112) dX11_wrongInLines_112 ?_
              refine wp_goto (pc := 113) 117 dX11_wrongInLines_113 (by decide) ?_
              exact wp_ir (pc := 117) dX11_wrongInLines_117 rfl (by decide) (by decide) (by first | rfl | omega) rfl
        ·
          rw [if_neg (by omega), show min tx.length 47 = 47 by omega] -- go
          refine wp_bipush (pc := 100) (y := 47) dX11_wrongInLines_100 (by decide) ?_
          exact wp_ir (pc := 102) dX11_wrongInLines_102 rfl (by decide) (by decide) (by first | rfl | omega) rfl
    ·
      first
      | (exfalso; omega)
      | skip
        refine wp_iload_n (pc := 16) dX11_wrongInLines_16 rfl ?_
        refine wp_iload_n (pc := 17) dX11_wrongInLines_17 rfl ?_
        refine wp_icmp_ge (pc := 18) 94 dX11_wrongInLines_18 (by decide) (by first | omega | exact TI.i5 (by assumption) | exact TI.i3 (by assumption) | exact TI.i2 (by assumption) | exact TI.i1 (by assumption) | exact TI.i0 (by assumption) | exact TI.i4 (by assumption) | exact TI.i6 (by assumption) | exact TI.i7 (by assumption)) (by first | omega | exact TI.i5 (by assumption) | exact TI.i3 (by assumption) | exact TI.i2 (by assumption) | exact TI.i1 (by assumption) | exact TI.i0 (by assumption) | exact TI.i4 (by assumption) | exact TI.i6 (by assumption) | exact TI.i7 (by assumption)) (fun c18 => ?_) (fun c18 => ?_)
        ·
          first
          | (exfalso; omega)
          | skip
            have eF : FB tx N (min tx.length 47) := ⟨fun q => by
              have hh := hr_no (l := tx) (tp := 47) (p := min tx.length 47) (by omega)
              have q2 := q.2.1
              have q3 := q.2.2
              rw [hh] at q2 q3
              by_cases q4 : min tx.length 47 % 8 = 7
              · have := q2 q4; omega
              · have := q3 q4; omega, fun p hp => ho p (by omega)⟩
            rw [ppv_eq eF hne]
            refine wp_iload_n (pc := 94) dX11_wrongInLines_94 rfl ?_
            refine wp_bipush (pc := 95) (y := 47) dX11_wrongInLines_95 (by decide) ?_
            refine wp_icmp_le (pc := 97) 103 dX11_wrongInLines_97 (by decide) (by first | omega | exact TI.i5 (by assumption) | exact TI.i3 (by assumption) | exact TI.i2 (by assumption) | exact TI.i1 (by assumption) | exact TI.i0 (by assumption) | exact TI.i4 (by assumption) | exact TI.i6 (by assumption) | exact TI.i7 (by assumption)) (by first | omega | exact TI.i5 (by assumption) | exact TI.i3 (by assumption) | exact TI.i2 (by assumption) | exact TI.i1 (by assumption) | exact TI.i0 (by assumption) | exact TI.i4 (by assumption) | exact TI.i6 (by assumption) | exact TI.i7 (by assumption)) (fun c97 => ?_) (fun c97 => ?_)
            ·
              first
              | (exfalso; omega)
              | skip
                refine wp_iload_n (pc := 103) dX11_wrongInLines_103 rfl ?_
                refine wp_bipush (pc := 104) (y := 8) dX11_wrongInLines_104 (by decide) ?_
                refine wp_irem (pc := 106) dX11_wrongInLines_106 (by decide) (I_rem (by omega) (by omega) (by omega) (by omega)) ?_
                refine wp_bipush (pc := 107) (y := 7) dX11_wrongInLines_107 (by decide) ?_
                refine wp_icmp_ne (pc := 109) 116 dX11_wrongInLines_109 (by decide) (by first | omega | exact TI.i5 (by assumption) | exact TI.i3 (by assumption) | exact TI.i2 (by assumption) | exact TI.i1 (by assumption) | exact TI.i0 (by assumption) | exact TI.i4 (by assumption) | exact TI.i6 (by assumption) | exact TI.i7 (by assumption)) (by first | omega | exact TI.i5 (by assumption) | exact TI.i3 (by assumption) | exact TI.i2 (by assumption) | exact TI.i1 (by assumption) | exact TI.i0 (by assumption) | exact TI.i4 (by assumption) | exact TI.i6 (by assumption) | exact TI.i7 (by assumption)) (fun c109 => ?_) (fun c109 => ?_)
                ·
                  rw [if_neg (by omega), show min tx.length 47 = tx.length by omega] -- go
                  refine wp_iload_n (pc := 116) dX11_wrongInLines_116 rfl ?_
                  exact wp_ir (pc := 117) dX11_wrongInLines_117 rfl (by decide) (by decide) (by first | rfl | omega) rfl
                ·
                  rw [if_pos (by omega)] -- go
                  refine wp_iconst (pc := 112) dX11_wrongInLines_112 ?_
                  refine wp_goto (pc := 113) 117 dX11_wrongInLines_113 (by decide) ?_
                  exact wp_ir (pc := 117) dX11_wrongInLines_117 rfl (by decide) (by decide) (by first | rfl | omega) rfl
            ·
              rw [if_neg (by omega), show min tx.length 47 = 47 by omega] -- go
              refine wp_bipush (pc := 100) (y := 47) dX11_wrongInLines_100 (by decide) ?_
              exact wp_ir (pc := 102) dX11_wrongInLines_102 rfl (by decide) (by decide) (by first | rfl | omega) rfl
        ·
          first
          | (exfalso; omega)
          | skip
            have hh := hr_at (l := tx) (tp := 47) (p := i) (by omega) (by omega)
            refine wp_iload_n (pc := 21) dX11_wrongInLines_21 rfl ?_
            refine wp_bipush (pc := 22) (y := 8) dX11_wrongInLines_22 (by decide) ?_
            refine wp_irem (pc := 24) dX11_wrongInLines_24 (by decide) (I_rem (by omega) (by omega) (by omega) (by omega)) ?_
            refine wp_istore (pc := 25) dX11_wrongInLines_25 (by decide) ?_
            refine wp_iload (pc := 27) dX11_wrongInLines_27 rfl ?_
            first | refine wp_ifb_ne (pc := 29) 42 dX11_wrongInLines_29 (by decide) (fun c29 => ?_) (fun c29 => ?_) | refine wp_if_ne (pc := 29) 42 dX11_wrongInLines_29 (by decide) (by first | omega | exact TI.i5 (by assumption) | exact TI.i3 (by assumption) | exact TI.i2 (by assumption) | exact TI.i1 (by assumption) | exact TI.i0 (by assumption) | exact TI.i4 (by assumption) | exact TI.i6 (by assumption) | exact TI.i7 (by assumption)) (fun c29 => ?_) (fun c29 => ?_)
            ·
              first
              | (exfalso; omega)
              | skip
                refine wp_aload_n (pc := 42) dX11_wrongInLines_42 rfl ?_
                refine wp_getf (pc := 43) dX11_wrongInLines_43 gf_X11_12 K.ob (by rfl) ?_
                refine wp_iload_n (pc := 46) dX11_wrongInLines_46 rfl ?_
                refine wd_Vp (pc := 47) dX11_wrongInLines_47 cl_X11_127 (sp_Text_at K.te (by first | assumption | omega)) rfl rfl K.te.o (by rfl) (by decide) (Nat.le_of_ble_eq_true rfl) ?_
                refine wp_topE (tat_in (show i < tx.length by omega)) ?_
                refine wp_istore (pc := 50) dX11_wrongInLines_50 (by decide) ?_
                refine wp_iload (pc := 52) dX11_wrongInLines_52 rfl ?_
                refine wp_bipush (pc := 54) (y := 7) dX11_wrongInLines_54 (by decide) ?_
                refine wp_icmp_ne (pc := 56) 74 dX11_wrongInLines_56 (by decide) (by first | omega | exact TI.i5 (by assumption) | exact TI.i3 (by assumption) | exact TI.i2 (by assumption) | exact TI.i1 (by assumption) | exact TI.i0 (by assumption) | exact TI.i4 (by assumption) | exact TI.i6 (by assumption) | exact TI.i7 (by assumption)) (by first | omega | exact TI.i5 (by assumption) | exact TI.i3 (by assumption) | exact TI.i2 (by assumption) | exact TI.i1 (by assumption) | exact TI.i0 (by assumption) | exact TI.i4 (by assumption) | exact TI.i6 (by assumption) | exact TI.i7 (by assumption)) (fun c56 => ?_) (fun c56 => ?_)
                ·
                  first
                  | (exfalso; omega)
                  | skip
                    refine wp_iload (pc := 74) dX11_wrongInLines_74 rfl ?_
                    refine wp_Sp (pc := 76) dX11_wrongInLines_76 cl_X11_130 (sp_D_isDigit (by omega)) rfl rfl (by decide) (Nat.le_of_ble_eq_true rfl) ?_
                    refine wp_istore (pc := 79) dX11_wrongInLines_79 (by decide) ?_
                    refine wp_iload (pc := 81) dX11_wrongInLines_81 rfl ?_
                    first | refine wp_ifb_ne (pc := 83) 88 dX11_wrongInLines_83 (by decide) (fun c83 => ?_) (fun c83 => ?_) | refine wp_if_ne (pc := 83) 88 dX11_wrongInLines_83 (by decide) (by first | omega | exact TI.i5 (by assumption) | exact TI.i3 (by assumption) | exact TI.i2 (by assumption) | exact TI.i1 (by assumption) | exact TI.i0 (by assumption) | exact TI.i4 (by assumption) | exact TI.i6 (by assumption) | exact TI.i7 (by assumption)) (fun c83 => ?_) (fun c83 => ?_)
                    ·
                      first
                      | (exfalso; omega)
                      | skip
                        refine wp_iinc (pc := 88) dX11_wrongInLines_88 rfl (by decide) ?_
                        refine wp_goto (pc := 91) 10 dX11_wrongInLines_91 (by decide) ?_
                        refine wp_ls ?_ (ih (i + 1) (by omega) (by omega) (fun p hp => by
                          by_cases q : p = i
                          · subst q
                            exact ⟨fun _ => by omega, fun _ => by rw [hh]; omega, fun _ => by rw [hh]; omega⟩
                          · exact ho p (by omega)))
                        repeat' (first | exact LE_0 | refine LE_s rfl ?_ | refine LE_s (I_c (by first | omega | (simp only [sm]; omega))) ?_ | refine LE_s (J_c (by first | omega | exact Int.pow_succ _ _ | exact (Int.pow_succ _ _).symm | exact (Int.pow_zero _).symm | (simp only [sm]; omega))) ?_ | refine LE_n ?_)
                    ·
                      first
                      | (exfalso; omega)
                      | skip
                        have eF : FB tx N i := ⟨fun q => by
                          have q2 := q.2.1
                          have q3 := q.2.2
                          rw [hh] at q2 q3
                          by_cases q4 : i % 8 = 7
                          · have := q2 q4; omega
                          · have := q3 q4; omega, ho⟩
                        rw [ppv_eq eF hne, if_neg (by omega)]
                        refine wp_iload_n (pc := 86) dX11_wrongInLines_86 rfl ?_
                        exact wp_ir (pc := 87) dX11_wrongInLines_87 rfl (by decide) (by decide) (by first | rfl | omega) rfl
                ·
                  first
                  | (exfalso; omega)
                  | skip
                    refine wp_iload (pc := 59) dX11_wrongInLines_59 rfl ?_
                    refine wp_bipush (pc := 61) (y := 59) dX11_wrongInLines_61 (by decide) ?_
                    refine wp_icmp_ne (pc := 63) 70 dX11_wrongInLines_63 (by decide) (by first | omega | exact TI.i5 (by assumption) | exact TI.i3 (by assumption) | exact TI.i2 (by assumption) | exact TI.i1 (by assumption) | exact TI.i0 (by assumption) | exact TI.i4 (by assumption) | exact TI.i6 (by assumption) | exact TI.i7 (by assumption)) (by first | omega | exact TI.i5 (by assumption) | exact TI.i3 (by assumption) | exact TI.i2 (by assumption) | exact TI.i1 (by assumption) | exact TI.i0 (by assumption) | exact TI.i4 (by assumption) | exact TI.i6 (by assumption) | exact TI.i7 (by assumption)) (fun c63 => ?_) (fun c63 => ?_)
                    ·
                      first
                      | (exfalso; omega)
                      | skip
                        refine wp_iconst (pc := 70) dX11_wrongInLines_70 ?_
                        refine wp_goto (pc := 71) 79 dX11_wrongInLines_71 (by decide) ?_
                        refine wp_istore (pc := 79) dX11_wrongInLines_79 (by decide) ?_
                        refine wp_iload (pc := 81) dX11_wrongInLines_81 rfl ?_
                        first | refine wp_ifb_ne (pc := 83) 88 dX11_wrongInLines_83 (by decide) (fun c83 => ?_) (fun c83 => ?_) | refine wp_if_ne (pc := 83) 88 dX11_wrongInLines_83 (by decide) (by first | omega | exact TI.i5 (by assumption) | exact TI.i3 (by assumption) | exact TI.i2 (by assumption) | exact TI.i1 (by assumption) | exact TI.i0 (by assumption) | exact TI.i4 (by assumption) | exact TI.i6 (by assumption) | exact TI.i7 (by assumption)) (fun c83 => ?_) (fun c83 => ?_)
                        ·
                          first
                          | (exfalso; omega)
                          | skip
                            refine wp_iinc (pc := 88) dX11_wrongInLines_88 rfl (by decide) ?_
                            refine wp_goto (pc := 91) 10 dX11_wrongInLines_91 (by decide) ?_
                            refine wp_ls ?_ (ih (i + 1) (by omega) (by omega) (fun p hp => by
                              by_cases q : p = i
                              · subst q
                                exact ⟨fun _ => by omega, fun _ => by rw [hh]; omega, fun _ => by rw [hh]; omega⟩
                              · exact ho p (by omega)))
                            repeat' (first | exact LE_0 | refine LE_s rfl ?_ | refine LE_s (I_c (by first | omega | (simp only [sm]; omega))) ?_ | refine LE_s (J_c (by first | omega | exact Int.pow_succ _ _ | exact (Int.pow_succ _ _).symm | exact (Int.pow_zero _).symm | (simp only [sm]; omega))) ?_ | refine LE_n ?_)
                        ·
                          first
                          | (exfalso; omega)
                          | skip
                            have eF : FB tx N i := ⟨fun q => by
                              have q2 := q.2.1
                              have q3 := q.2.2
                              rw [hh] at q2 q3
                              by_cases q4 : i % 8 = 7
                              · have := q2 q4; omega
                              · have := q3 q4; omega, ho⟩
                            rw [ppv_eq eF hne, if_neg (by omega)]
                            refine wp_iload_n (pc := 86) dX11_wrongInLines_86 rfl ?_
                            exact wp_ir (pc := 87) dX11_wrongInLines_87 rfl (by decide) (by decide) (by first | rfl | omega) rfl
                    ·
                      first
                      | (exfalso; omega)
                      | skip
                        refine wp_iconst (pc := 66) dX11_wrongInLines_66 ?_
                        refine wp_goto (pc := 67) 79 dX11_wrongInLines_67 (by decide) ?_
                        refine wp_istore (pc := 79) dX11_wrongInLines_79 (by decide) ?_
                        refine wp_iload (pc := 81) dX11_wrongInLines_81 rfl ?_
                        first | refine wp_ifb_ne (pc := 83) 88 dX11_wrongInLines_83 (by decide) (fun c83 => ?_) (fun c83 => ?_) | refine wp_if_ne (pc := 83) 88 dX11_wrongInLines_83 (by decide) (by first | omega | exact TI.i5 (by assumption) | exact TI.i3 (by assumption) | exact TI.i2 (by assumption) | exact TI.i1 (by assumption) | exact TI.i0 (by assumption) | exact TI.i4 (by assumption) | exact TI.i6 (by assumption) | exact TI.i7 (by assumption)) (fun c83 => ?_) (fun c83 => ?_)
                        ·
                          first
                          | (exfalso; omega)
                          | skip
                            refine wp_iinc (pc := 88) dX11_wrongInLines_88 rfl (by decide) ?_
                            refine wp_goto (pc := 91) 10 dX11_wrongInLines_91 (by decide) ?_
                            refine wp_ls ?_ (ih (i + 1) (by omega) (by omega) (fun p hp => by
                              by_cases q : p = i
                              · subst q
                                exact ⟨fun _ => by omega, fun _ => by rw [hh]; omega, fun _ => by rw [hh]; omega⟩
                              · exact ho p (by omega)))
                            repeat' (first | exact LE_0 | refine LE_s rfl ?_ | refine LE_s (I_c (by first | omega | (simp only [sm]; omega))) ?_ | refine LE_s (J_c (by first | omega | exact Int.pow_succ _ _ | exact (Int.pow_succ _ _).symm | exact (Int.pow_zero _).symm | (simp only [sm]; omega))) ?_ | refine LE_n ?_)
                        ·
                          first
                          | (exfalso; omega)
                          | skip
                            have eF : FB tx N i := ⟨fun q => by
                              have q2 := q.2.1
                              have q3 := q.2.2
                              rw [hh] at q2 q3
                              by_cases q4 : i % 8 = 7
                              · have := q2 q4; omega
                              · have := q3 q4; omega, ho⟩
                            rw [ppv_eq eF hne, if_neg (by omega)]
                            refine wp_iload_n (pc := 86) dX11_wrongInLines_86 rfl ?_
                            exact wp_ir (pc := 87) dX11_wrongInLines_87 rfl (by decide) (by decide) (by first | rfl | omega) rfl
            ·
              first
              | (exfalso; omega)
              | skip
                refine wp_iload_n (pc := 32) dX11_wrongInLines_32 rfl ?_
                refine wp_bipush (pc := 33) (y := 8) dX11_wrongInLines_33 (by decide) ?_
                refine wp_idiv (pc := 35) dX11_wrongInLines_35 (by decide) (I_div (by omega) (by omega) (by omega) (by omega)) ?_
                refine wp_iload_n (pc := 36) dX11_wrongInLines_36 rfl ?_
                refine wp_icmp_lt (pc := 37) 42 dX11_wrongInLines_37 (by decide) (by first | omega | exact TI.i5 (by assumption) | exact TI.i3 (by assumption) | exact TI.i2 (by assumption) | exact TI.i1 (by assumption) | exact TI.i0 (by assumption) | exact TI.i4 (by assumption) | exact TI.i6 (by assumption) | exact TI.i7 (by assumption)) (by first | omega | exact TI.i5 (by assumption) | exact TI.i3 (by assumption) | exact TI.i2 (by assumption) | exact TI.i1 (by assumption) | exact TI.i0 (by assumption) | exact TI.i4 (by assumption) | exact TI.i6 (by assumption) | exact TI.i7 (by assumption)) (fun c37 => ?_) (fun c37 => ?_)
                ·
                  first
                  | (exfalso; omega)
                  | skip
                    refine wp_aload_n (pc := 42) dX11_wrongInLines_42 rfl ?_
                    refine wp_getf (pc := 43) dX11_wrongInLines_43 gf_X11_12 K.ob (by rfl) ?_
                    refine wp_iload_n (pc := 46) dX11_wrongInLines_46 rfl ?_
                    refine wd_Vp (pc := 47) dX11_wrongInLines_47 cl_X11_127 (sp_Text_at K.te (by first | assumption | omega)) rfl rfl K.te.o (by rfl) (by decide) (Nat.le_of_ble_eq_true rfl) ?_
                    refine wp_topE (tat_in (show i < tx.length by omega)) ?_
                    refine wp_istore (pc := 50) dX11_wrongInLines_50 (by decide) ?_
                    refine wp_iload (pc := 52) dX11_wrongInLines_52 rfl ?_
                    refine wp_bipush (pc := 54) (y := 7) dX11_wrongInLines_54 (by decide) ?_
                    refine wp_icmp_ne (pc := 56) 74 dX11_wrongInLines_56 (by decide) (by first | omega | exact TI.i5 (by assumption) | exact TI.i3 (by assumption) | exact TI.i2 (by assumption) | exact TI.i1 (by assumption) | exact TI.i0 (by assumption) | exact TI.i4 (by assumption) | exact TI.i6 (by assumption) | exact TI.i7 (by assumption)) (by first | omega | exact TI.i5 (by assumption) | exact TI.i3 (by assumption) | exact TI.i2 (by assumption) | exact TI.i1 (by assumption) | exact TI.i0 (by assumption) | exact TI.i4 (by assumption) | exact TI.i6 (by assumption) | exact TI.i7 (by assumption)) (fun c56 => ?_) (fun c56 => ?_)
                    ·
                      first
                      | (exfalso; omega)
                      | skip
                        refine wp_iload (pc := 74) dX11_wrongInLines_74 rfl ?_
                        refine wp_Sp (pc := 76) dX11_wrongInLines_76 cl_X11_130 (sp_D_isDigit (by omega)) rfl rfl (by decide) (Nat.le_of_ble_eq_true rfl) ?_
                        refine wp_istore (pc := 79) dX11_wrongInLines_79 (by decide) ?_
                        refine wp_iload (pc := 81) dX11_wrongInLines_81 rfl ?_
                        first | refine wp_ifb_ne (pc := 83) 88 dX11_wrongInLines_83 (by decide) (fun c83 => ?_) (fun c83 => ?_) | refine wp_if_ne (pc := 83) 88 dX11_wrongInLines_83 (by decide) (by first | omega | exact TI.i5 (by assumption) | exact TI.i3 (by assumption) | exact TI.i2 (by assumption) | exact TI.i1 (by assumption) | exact TI.i0 (by assumption) | exact TI.i4 (by assumption) | exact TI.i6 (by assumption) | exact TI.i7 (by assumption)) (fun c83 => ?_) (fun c83 => ?_)
                        ·
                          first
                          | (exfalso; omega)
                          | skip
                            refine wp_iinc (pc := 88) dX11_wrongInLines_88 rfl (by decide) ?_
                            refine wp_goto (pc := 91) 10 dX11_wrongInLines_91 (by decide) ?_
                            refine wp_ls ?_ (ih (i + 1) (by omega) (by omega) (fun p hp => by
                              by_cases q : p = i
                              · subst q
                                exact ⟨fun _ => by omega, fun _ => by rw [hh]; omega, fun _ => by rw [hh]; omega⟩
                              · exact ho p (by omega)))
                            repeat' (first | exact LE_0 | refine LE_s rfl ?_ | refine LE_s (I_c (by first | omega | (simp only [sm]; omega))) ?_ | refine LE_s (J_c (by first | omega | exact Int.pow_succ _ _ | exact (Int.pow_succ _ _).symm | exact (Int.pow_zero _).symm | (simp only [sm]; omega))) ?_ | refine LE_n ?_)
                        ·
                          first
                          | (exfalso; omega)
                          | skip
                            have eF : FB tx N i := ⟨fun q => by
                              have q2 := q.2.1
                              have q3 := q.2.2
                              rw [hh] at q2 q3
                              by_cases q4 : i % 8 = 7
                              · have := q2 q4; omega
                              · have := q3 q4; omega, ho⟩
                            rw [ppv_eq eF hne, if_neg (by omega)]
                            refine wp_iload_n (pc := 86) dX11_wrongInLines_86 rfl ?_
                            exact wp_ir (pc := 87) dX11_wrongInLines_87 rfl (by decide) (by decide) (by first | rfl | omega) rfl
                    ·
                      first
                      | (exfalso; omega)
                      | skip
                        refine wp_iload (pc := 59) dX11_wrongInLines_59 rfl ?_
                        refine wp_bipush (pc := 61) (y := 59) dX11_wrongInLines_61 (by decide) ?_
                        refine wp_icmp_ne (pc := 63) 70 dX11_wrongInLines_63 (by decide) (by first | omega | exact TI.i5 (by assumption) | exact TI.i3 (by assumption) | exact TI.i2 (by assumption) | exact TI.i1 (by assumption) | exact TI.i0 (by assumption) | exact TI.i4 (by assumption) | exact TI.i6 (by assumption) | exact TI.i7 (by assumption)) (by first | omega | exact TI.i5 (by assumption) | exact TI.i3 (by assumption) | exact TI.i2 (by assumption) | exact TI.i1 (by assumption) | exact TI.i0 (by assumption) | exact TI.i4 (by assumption) | exact TI.i6 (by assumption) | exact TI.i7 (by assumption)) (fun c63 => ?_) (fun c63 => ?_)
                        ·
                          first
                          | (exfalso; omega)
                          | skip
                            refine wp_iconst (pc := 70) dX11_wrongInLines_70 ?_
                            refine wp_goto (pc := 71) 79 dX11_wrongInLines_71 (by decide) ?_
                            refine wp_istore (pc := 79) dX11_wrongInLines_79 (by decide) ?_
                            refine wp_iload (pc := 81) dX11_wrongInLines_81 rfl ?_
                            first | refine wp_ifb_ne (pc := 83) 88 dX11_wrongInLines_83 (by decide) (fun c83 => ?_) (fun c83 => ?_) | refine wp_if_ne (pc := 83) 88 dX11_wrongInLines_83 (by decide) (by first | omega | exact TI.i5 (by assumption) | exact TI.i3 (by assumption) | exact TI.i2 (by assumption) | exact TI.i1 (by assumption) | exact TI.i0 (by assumption) | exact TI.i4 (by assumption) | exact TI.i6 (by assumption) | exact TI.i7 (by assumption)) (fun c83 => ?_) (fun c83 => ?_)
                            ·
                              first
                              | (exfalso; omega)
                              | skip
                                refine wp_iinc (pc := 88) dX11_wrongInLines_88 rfl (by decide) ?_
                                refine wp_goto (pc := 91) 10 dX11_wrongInLines_91 (by decide) ?_
                                refine wp_ls ?_ (ih (i + 1) (by omega) (by omega) (fun p hp => by
                                  by_cases q : p = i
                                  · subst q
                                    exact ⟨fun _ => by omega, fun _ => by rw [hh]; omega, fun _ => by rw [hh]; omega⟩
                                  · exact ho p (by omega)))
                                repeat' (first | exact LE_0 | refine LE_s rfl ?_ | refine LE_s (I_c (by first | omega | (simp only [sm]; omega))) ?_ | refine LE_s (J_c (by first | omega | exact Int.pow_succ _ _ | exact (Int.pow_succ _ _).symm | exact (Int.pow_zero _).symm | (simp only [sm]; omega))) ?_ | refine LE_n ?_)
                            ·
                              first
                              | (exfalso; omega)
                              | skip
                                have eF : FB tx N i := ⟨fun q => by
                                  have q2 := q.2.1
                                  have q3 := q.2.2
                                  rw [hh] at q2 q3
                                  by_cases q4 : i % 8 = 7
                                  · have := q2 q4; omega
                                  · have := q3 q4; omega, ho⟩
                                rw [ppv_eq eF hne, if_neg (by omega)]
                                refine wp_iload_n (pc := 86) dX11_wrongInLines_86 rfl ?_
                                exact wp_ir (pc := 87) dX11_wrongInLines_87 rfl (by decide) (by decide) (by first | rfl | omega) rfl
                        ·
                          first
                          | (exfalso; omega)
                          | skip
                            refine wp_iconst (pc := 66) dX11_wrongInLines_66 ?_
                            refine wp_goto (pc := 67) 79 dX11_wrongInLines_67 (by decide) ?_
                            refine wp_istore (pc := 79) dX11_wrongInLines_79 (by decide) ?_
                            refine wp_iload (pc := 81) dX11_wrongInLines_81 rfl ?_
                            first | refine wp_ifb_ne (pc := 83) 88 dX11_wrongInLines_83 (by decide) (fun c83 => ?_) (fun c83 => ?_) | refine wp_if_ne (pc := 83) 88 dX11_wrongInLines_83 (by decide) (by first | omega | exact TI.i5 (by assumption) | exact TI.i3 (by assumption) | exact TI.i2 (by assumption) | exact TI.i1 (by assumption) | exact TI.i0 (by assumption) | exact TI.i4 (by assumption) | exact TI.i6 (by assumption) | exact TI.i7 (by assumption)) (fun c83 => ?_) (fun c83 => ?_)
                            ·
                              first
                              | (exfalso; omega)
                              | skip
                                refine wp_iinc (pc := 88) dX11_wrongInLines_88 rfl (by decide) ?_
                                refine wp_goto (pc := 91) 10 dX11_wrongInLines_91 (by decide) ?_
                                refine wp_ls ?_ (ih (i + 1) (by omega) (by omega) (fun p hp => by
                                  by_cases q : p = i
                                  · subst q
                                    exact ⟨fun _ => by omega, fun _ => by rw [hh]; omega, fun _ => by rw [hh]; omega⟩
                                  · exact ho p (by omega)))
                                repeat' (first | exact LE_0 | refine LE_s rfl ?_ | refine LE_s (I_c (by first | omega | (simp only [sm]; omega))) ?_ | refine LE_s (J_c (by first | omega | exact Int.pow_succ _ _ | exact (Int.pow_succ _ _).symm | exact (Int.pow_zero _).symm | (simp only [sm]; omega))) ?_ | refine LE_n ?_)
                            ·
                              first
                              | (exfalso; omega)
                              | skip
                                have eF : FB tx N i := ⟨fun q => by
                                  have q2 := q.2.1
                                  have q3 := q.2.2
                                  rw [hh] at q2 q3
                                  by_cases q4 : i % 8 = 7
                                  · have := q2 q4; omega
                                  · have := q3 q4; omega, ho⟩
                                rw [ppv_eq eF hne, if_neg (by omega)]
                                refine wp_iload_n (pc := 86) dX11_wrongInLines_86 rfl ?_
                                exact wp_ir (pc := 87) dX11_wrongInLines_87 rfl (by decide) (by decide) (by first | rfl | omega) rfl
                ·
                  have eF : FB tx N i := ⟨fun q => by have := q.1 (by omega); omega, ho⟩
                  rw [ppv_eq eF hne, if_neg (by omega)] -- go
                  refine wp_iload_n (pc := 40) dX11_wrongInLines_40 rfl ?_
                  exact wp_ir (pc := 41) dX11_wrongInLines_41 rfl (by decide) (by decide) (by first | rfl | omega) rfl
theorem sp_D_wrongInLines (hN : N ≤ 6) (hl : byl tx) (hne : tx ≠ []) (K : DA hp D r s Tr z Z T U tx rw rt hs ss KT) : Sp g MX11_wrongInLines (rm 1 0 0) [.ref D, .int (I (6 - (N : Int)))] hp (Pur (.int (I (ppv tx N))) hp) := by
  refine Sp_mk rfl (Nat.le_of_ble_eq_true rfl) ?_
  show wp g _ _ _ 0 0 0 [some (.ref D), some (.int (I (6 - (N : Int)))), none, none, none, none, none] [] hp
  have O := SO.rf (hp := hp) (lo := D) (hi := D + 171)
  refine wp_aload_n (pc := 0) dX11_wrongInLines_0 rfl ?_
  refine wp_getf (pc := 1) dX11_wrongInLines_1 gf_X11_12 K.ob (by rfl) ?_
  refine wd_Vp (pc := 4) dX11_wrongInLines_4 cl_X11_106 (sp_Text_length K.te) rfl rfl K.te.o (by rfl) (by decide) (Nat.le_of_ble_eq_true rfl) ?_
  refine wp_istore_n (pc := 7) dX11_wrongInLines_7 (by decide) ?_
  refine wp_iconst (pc := 8) dX11_wrongInLines_8 ?_
  refine wp_istore_n (pc := 9) dX11_wrongInLines_9 (by decide) ?_
  refine wp_ls ?_ (lp_D_wil hN hl hne K (min tx.length 47 + 1) 0 (by omega) (by omega) (fun p q => by omega))
  repeat' (first | exact LE_0 | refine LE_s rfl ?_ | refine LE_s (I_c (by first | omega | (simp only [sm]; omega))) ?_ | refine LE_s (J_c (by first | omega | exact Int.pow_succ _ _ | exact (Int.pow_succ _ _).symm | exact (Int.pow_zero _).symm | (simp only [sm]; omega))) ?_ | refine LE_n ?_)
theorem lp_D_add (hk : k + 7 ≤ tx.length) (hl : byl tx) (hn : n < 6) (h8 : T 8 0 = (n : Int)) : ∀ (m i : Nat), 6 < i + m → i ≤ 6 → ∀ (hp2 : Hp) (K : DA hp2 D r s Tr z Z (plP T n tx k i) U tx rw rt hs ss KT) (O : SO hp hp2 D (D + 171)), wp g MX11_addLine (rm 1 0 0) (Vod (fun hp3 => DA hp3 D r s Tr z Z (up (up (plP T n tx k 6) 2 (n : Int) (tx.getD (k + 6) 0 - 48)) 8 0 ((n : Int) + 1)) U tx rw rt hs ss KT ∧ SO hp hp3 D (D + 171))) 0 0 17 [some (.ref D), some (.int (I (k : Int))), some (.int (I (n : Int))), some (.int (I (i : Int)))] [] hp2 := by
  intro m
  induction m with
  | zero => intro i h1 h2; exact absurd h1 (by omega)
  | succ m ih =>
    intro i h1 h2 hp2 K O
    have hlen : tx.length ≤ 80 := by obtain ⟨S, r0, r1, q, _⟩ := K.te; exact q
    have hg := byl_D hl (k + i)
    have hg6 := byl_D hl (k + 6)
    refine wp_iload_n (pc := 17) dX11_addLine_17 rfl ?_
    refine wp_bipush (pc := 18) (y := 6) dX11_addLine_18 (by decide) ?_
    refine wp_icmp_ge (pc := 20) 55 dX11_addLine_20 (by decide) (by first | omega | exact TI.i5 (by assumption) | exact TI.i3 (by assumption) | exact TI.i2 (by assumption) | exact TI.i1 (by assumption) | exact TI.i0 (by assumption) | exact TI.i4 (by assumption) | exact TI.i6 (by assumption) | exact TI.i7 (by assumption)) (by first | omega | exact TI.i5 (by assumption) | exact TI.i3 (by assumption) | exact TI.i2 (by assumption) | exact TI.i1 (by assumption) | exact TI.i0 (by assumption) | exact TI.i4 (by assumption) | exact TI.i6 (by assumption) | exact TI.i7 (by assumption)) (fun c20 => ?_) (fun c20 => ?_)
    ·
      have e : i = 6 := by omega
      subst e -- go
      refine wp_aload_n (pc := 55) dX11_addLine_55 rfl ?_
      refine wp_getf (pc := 56) dX11_addLine_56 gf_X11_26 K.ob (by rfl) ?_
      refine wp_getf (pc := 59) dX11_addLine_59 gf_X11_141 (by first | exact K.ob | exact K.to.1 | exact K.tr.1 | exact K.to.2.1 | exact K.to.2.2.1 | exact K.to.2.2.2.1 | exact K.to.2.2.2.2.1 | exact K.to.2.2.2.2.2.1 | exact K.to.2.2.2.2.2.2.1 | exact K.to.2.2.2.2.2.2.2 | exact K.tr.2.1 | exact K.tr.2.2.1 | exact K.tr.2.2.2.1 | exact K.tr.2.2.2.2.1 | exact K.tr.2.2.2.2.2.1 | exact K.tr.2.2.2.2.2.2.1 | exact K.tr.2.2.2.2.2.2.2) (by rfl) ?_
      refine wp_iload_n (pc := 62) dX11_addLine_62 rfl ?_
      refine wp_aload_n (pc := 63) dX11_addLine_63 rfl ?_
      refine wp_getf (pc := 64) dX11_addLine_64 gf_X11_12 K.ob (by rfl) ?_
      refine wp_iload_n (pc := 67) dX11_addLine_67 rfl ?_
      refine wp_bipush (pc := 68) (y := 6) dX11_addLine_68 (by decide) ?_
      refine wp_iadd (pc := 70) dX11_addLine_70 ?_
      refine wp_topE (show (k : Int) + 6 = ((k + 6 : Nat) : Int) by omega) ?_
      refine wd_Vp (pc := 71) dX11_addLine_71 cl_X11_127 (sp_Text_at K.te (by first | assumption | omega)) rfl rfl K.te.o (by rfl) (by decide) (Nat.le_of_ble_eq_true rfl) ?_
      refine wp_topE (tat_in (show k + 6 < tx.length by omega)) ?_
      refine wp_bipush (pc := 74) (y := 48) dX11_addLine_74 (by decide) ?_
      refine wp_isub (pc := 76) dX11_addLine_76 ?_
      refine wd_ias (pc := 77) dX11_addLine_77 K O K.to.2.2.2.1 (by omega) (by omega) (by omega) (by decide) K.to.s2 (fun hp77 K O => ?_)
      refine wp_aload_n (pc := 78) dX11_addLine_78 rfl ?_
      refine wp_getf (pc := 79) dX11_addLine_79 gf_X11_26 K.ob (by rfl) ?_
      refine wp_iload_n (pc := 82) dX11_addLine_82 rfl ?_
      refine wp_iconst (pc := 83) dX11_addLine_83 ?_
      refine wp_iadd (pc := 84) dX11_addLine_84 ?_
      refine wd_pop (pc := 85) dX11_addLine_85 pf_X11_110 K O rfl rfl (by intro h; cases h) (fun hp85 K O => ?_)
      exact wp_vr (pc := 88) dX11_addLine_88 rfl (by decide) (by decide) ⟨K, O⟩
    ·
      refine wp_aload_n (pc := 23) dX11_addLine_23 rfl ?_
      refine wp_getf (pc := 24) dX11_addLine_24 gf_X11_26 K.ob (by rfl) ?_
      refine wp_getf (pc := 27) dX11_addLine_27 gf_X11_133 (by first | exact K.ob | exact K.to.1 | exact K.tr.1 | exact K.to.2.1 | exact K.to.2.2.1 | exact K.to.2.2.2.1 | exact K.to.2.2.2.2.1 | exact K.to.2.2.2.2.2.1 | exact K.to.2.2.2.2.2.2.1 | exact K.to.2.2.2.2.2.2.2 | exact K.tr.2.1 | exact K.tr.2.2.1 | exact K.tr.2.2.2.1 | exact K.tr.2.2.2.2.1 | exact K.tr.2.2.2.2.2.1 | exact K.tr.2.2.2.2.2.2.1 | exact K.tr.2.2.2.2.2.2.2) (by rfl) ?_
      refine wp_iload_n (pc := 30) dX11_addLine_30 rfl ?_
      refine wp_iload_n (pc := 31) dX11_addLine_31 rfl ?_
      refine wp_Sp (pc := 32) dX11_addLine_32 cl_X11_137 sp_D_pair rfl rfl (by decide) (Nat.le_of_ble_eq_true rfl) ?_
      refine wp_aload_n (pc := 35) dX11_addLine_35 rfl ?_
      refine wp_getf (pc := 36) dX11_addLine_36 gf_X11_12 K.ob (by rfl) ?_
      refine wp_iload_n (pc := 39) dX11_addLine_39 rfl ?_
      refine wp_iload_n (pc := 40) dX11_addLine_40 rfl ?_
      refine wp_iadd (pc := 41) dX11_addLine_41 ?_
      refine wp_topE (show (k : Int) + (i : Int) = ((k + i : Nat) : Int) by omega) ?_
      refine wd_Vp (pc := 42) dX11_addLine_42 cl_X11_127 (sp_Text_at K.te (by first | assumption | omega)) rfl rfl K.te.o (by rfl) (by decide) (Nat.le_of_ble_eq_true rfl) ?_
      refine wp_topE (tat_in (show k + i < tx.length by omega)) ?_
      refine wp_bipush (pc := 45) (y := 48) dX11_addLine_45 (by decide) ?_
      refine wp_isub (pc := 47) dX11_addLine_47 ?_
      refine wd_ias (pc := 48) dX11_addLine_48 K O K.to.2.1 (by omega) (by omega) (by omega) (by decide) K.to.s0 (fun hp48 K O => ?_)
      rw [plP_s] at K
      refine wp_iinc (pc := 49) dX11_addLine_49 rfl (by decide) ?_
      refine wp_goto (pc := 52) 17 dX11_addLine_52 (by decide) ?_
      refine wp_ls ?_ (ih (i + 1) (by omega) (by omega) _ K O)
      repeat' (first | exact LE_0 | refine LE_s rfl ?_ | refine LE_s (I_c (by first | omega | (simp only [sm]; omega))) ?_ | refine LE_s (J_c (by first | omega | exact Int.pow_succ _ _ | exact (Int.pow_succ _ _).symm | exact (Int.pow_zero _).symm | (simp only [sm]; omega))) ?_ | refine LE_n ?_)
theorem sp_D_addLine (K : DA hp D r s Tr z Z T U tx rw rt hs ss KT) (hk : k + 7 ≤ tx.length) (hl : byl tx) (hn : n < 6) (h8 : T 8 0 = (n : Int)) : Sp g MX11_addLine (rm 1 0 0) [.ref D, .int (I (k : Int))] hp (Vod (fun hp2 => DA hp2 D r s Tr z Z (up (up (plP T n tx k 6) 2 (n : Int) (tx.getD (k + 6) 0 - 48)) 8 0 ((n : Int) + 1)) U tx rw rt hs ss KT ∧ SO hp hp2 D (D + 171))) := by
  refine Sp_mk rfl (Nat.le_of_ble_eq_true rfl) ?_
  show wp g _ _ _ 0 0 0 [some (.ref D), some (.int (I (k : Int))), none, none] [] hp
  have O := SO.rf (hp := hp) (lo := D) (hi := D + 171)
  refine wp_aload_n (pc := 0) dX11_addLine_0 rfl ?_
  refine wp_getf (pc := 1) dX11_addLine_1 gf_X11_26 K.ob (by rfl) ?_
  refine wp_getf (pc := 4) dX11_addLine_4 gf_X11_110 (by first | exact K.ob | exact K.to.1 | exact K.tr.1 | exact K.to.2.1 | exact K.to.2.2.1 | exact K.to.2.2.2.1 | exact K.to.2.2.2.2.1 | exact K.to.2.2.2.2.2.1 | exact K.to.2.2.2.2.2.2.1 | exact K.to.2.2.2.2.2.2.2 | exact K.tr.2.1 | exact K.tr.2.2.1 | exact K.tr.2.2.2.1 | exact K.tr.2.2.2.2.1 | exact K.tr.2.2.2.2.2.1 | exact K.tr.2.2.2.2.2.2.1 | exact K.tr.2.2.2.2.2.2.2) (by rfl) ?_
  rw [h8]
  refine wp_istore_n (pc := 7) dX11_addLine_7 (by decide) ?_
  refine wp_iload_n (pc := 8) dX11_addLine_8 rfl ?_
  refine wp_bipush (pc := 9) (y := 6) dX11_addLine_9 (by decide) ?_
  refine wp_icmp_lt (pc := 11) 15 dX11_addLine_11 (by decide) (by first | omega | exact TI.i5 (by assumption) | exact TI.i3 (by assumption) | exact TI.i2 (by assumption) | exact TI.i1 (by assumption) | exact TI.i0 (by assumption) | exact TI.i4 (by assumption) | exact TI.i6 (by assumption) | exact TI.i7 (by assumption)) (by first | omega | exact TI.i5 (by assumption) | exact TI.i3 (by assumption) | exact TI.i2 (by assumption) | exact TI.i1 (by assumption) | exact TI.i0 (by assumption) | exact TI.i4 (by assumption) | exact TI.i6 (by assumption) | exact TI.i7 (by assumption)) (fun c11 => ?_) (fun c11 => ?_)
  ·
    refine wp_iconst (pc := 15) dX11_addLine_15 ?_
    refine wp_istore_n (pc := 16) dX11_addLine_16 (by decide) ?_
    refine wp_ls ?_ (lp_D_add hk hl hn h8 7 0 (by omega) (by omega) _ (by rw [plP_0]; exact K) O)
    repeat' (first | exact LE_0 | refine LE_s rfl ?_ | refine LE_s (I_c (by first | omega | (simp only [sm]; omega))) ?_ | refine LE_s (J_c (by first | omega | exact Int.pow_succ _ _ | exact (Int.pow_succ _ _).symm | exact (Int.pow_zero _).symm | (simp only [sm]; omega))) ?_ | refine LE_n ?_)
  ·
    exact absurd c11 (by omega)
theorem pp_cm {v w : Int} {m : Nat} : up (up (plP (up T 8 0 v) m tx k 6) 2 a b) 8 0 w = up (up (plP T m tx k 6) 2 a b) 8 0 w := by
  funext q
  by_cases c8 : q = 8
  · subst c8
    rw [up_eq, up_eq, up_ne (by decide), up_ne (by decide)]
    funext x
    show updI (plP (up T 8 0 v) m tx k 6 8) 0 w x = updI (plP T m tx k 6 8) 0 w x
    unfold updI
    by_cases c : x = 0
    · rw [if_pos c, if_pos c]
    · rw [if_neg c, if_neg c]
      show up T 8 0 v 8 x = T 8 x
      rw [up_eq]
      exact updI_ne c
  · rw [up_ne c8, up_ne c8]
    by_cases c2 : q = 2
    · subst c2
      rw [up_eq, up_eq]
      rfl
    · rw [up_ne c2, up_ne c2]
      unfold plP one
      by_cases c0 : q = 0
      · rw [if_pos c0, if_pos c0]
        rfl
      · rw [if_neg c0, if_neg c0, up_ne c8]
theorem lp_D_ppl (hI : TI T N) (hl : byl tx) (hv : ppv tx N = -1) (hn : n = (tx.length + 1) / 8) (hpos : 0 < n) : ∀ (m i : Nat), n < i + m → i ≤ n → ∀ (hp2 : Hp) (K : DA hp2 D r s Tr z Z (up (ppT tx T N i) 8 0 ((N + i : Nat) : Int)) U tx rw rt hs ss KT) (O : SO hp hp2 D (D + 171)), wp g MX11_people (rm 2 0 0) (Eff (.int (I (n : Int))) (fun hp3 => DX hp3 D (up (ppT tx T N n) 8 0 ((N + n : Nat) : Int)) [] [] rw rt hs ss KT ∧ SO hp hp3 D (D + 171))) 0 0 50 [some (.ref D), some (.int (I (tx.length : Int))), some (.int (I (-1))), some (.int (I (n : Int))), some (.int (I (i : Int)))] [] hp2 := by
  intro m
  induction m with
  | zero => intro i h1 h2; exact absurd h1 (by omega)
  | succ m ih =>
    intro i h1 h2 hp2 K O
    have hlen : tx.length ≤ 80 := by obtain ⟨S, r0, r1, q, _⟩ := K.te; exact q
    have hN := hI.men.2
    have hne : tx ≠ [] := fun q => by rw [q] at hn; simp at hn; omega
    have hF := fbp_ok (l := tx) (N := N)
    have hv2 := ppv_eq hF hne
    rw [hv] at hv2
    have hv3 : fbp tx N = tx.length ∧ tx.length % 8 = 7 := by
      by_cases q : fbp tx N = tx.length ∧ tx.length % 8 = 7
      · exact q
      · rw [if_neg q] at hv2; omega
    have h8 : up (ppT tx T N i) 8 0 ((N + i : Nat) : Int) 8 0 = ((N + i : Nat) : Int) := by rw [up_eq]; exact updI_eq
    refine wp_iload (pc := 50) dX11_people_50 rfl ?_
    refine wp_iload_n (pc := 52) dX11_people_52 rfl ?_
    refine wp_icmp_ge (pc := 53) 71 dX11_people_53 (by decide) (by first | omega | exact TI.i5 (by assumption) | exact TI.i3 (by assumption) | exact TI.i2 (by assumption) | exact TI.i1 (by assumption) | exact TI.i0 (by assumption) | exact TI.i4 (by assumption) | exact TI.i6 (by assumption) | exact TI.i7 (by assumption)) (by first | omega | exact TI.i5 (by assumption) | exact TI.i3 (by assumption) | exact TI.i2 (by assumption) | exact TI.i1 (by assumption) | exact TI.i0 (by assumption) | exact TI.i4 (by assumption) | exact TI.i6 (by assumption) | exact TI.i7 (by assumption)) (fun c53 => ?_) (fun c53 => ?_)
    ·
      have e : i = n := by omega
      subst e -- go
      refine wp_aload_n (pc := 71) dX11_people_71 rfl ?_
      refine wp_getf (pc := 72) dX11_people_72 gf_X11_43 K.ob (by rfl) ?_
      refine wd_Vn (pc := 75) dX11_people_75 cl_X11_121 (sp_L_forget K.pa) rfl rfl K.pa.o (by rfl) (by decide) (Nat.le_of_ble_eq_true rfl) (fun hp75 e75 => ?_)
      obtain ⟨h75, o75⟩ := e75
      replace O := O.inn o75 (by omega) (by omega)
      replace K := K.uPa h75 o75
      refine wp_aload_n (pc := 78) dX11_people_78 rfl ?_
      refine wp_getf (pc := 79) dX11_people_79 gf_X11_12 K.ob (by rfl) ?_
      refine wd_Vn (pc := 82) dX11_people_82 cl_X11_124 (sp_Text_clear K.te) rfl rfl K.te.o (by rfl) (by decide) (Nat.le_of_ble_eq_true rfl) (fun hp82 e82 => ?_)
      obtain ⟨h82, o82⟩ := e82
      replace O := O.inn o82 (by omega) (by omega)
      replace K := K.uTe h82 o82
      refine wp_iload_n (pc := 85) dX11_people_85 rfl ?_
      refine wp_iconst (pc := 86) dX11_people_86 ?_
      refine wp_icmp_ne (pc := 87) 94 dX11_people_87 (by decide) (by first | omega | exact TI.i5 (by assumption) | exact TI.i3 (by assumption) | exact TI.i2 (by assumption) | exact TI.i1 (by assumption) | exact TI.i0 (by assumption) | exact TI.i4 (by assumption) | exact TI.i6 (by assumption) | exact TI.i7 (by assumption)) (by first | omega | exact TI.i5 (by assumption) | exact TI.i3 (by assumption) | exact TI.i2 (by assumption) | exact TI.i1 (by assumption) | exact TI.i0 (by assumption) | exact TI.i4 (by assumption) | exact TI.i6 (by assumption) | exact TI.i7 (by assumption)) (fun c87 => ?_) (fun c87 => ?_)
      ·
        exact absurd c87 (by omega)
      ·
        refine wp_iload_n (pc := 90) dX11_people_90 rfl ?_
        refine wp_goto (pc := 91) 97 dX11_people_91 (by decide) ?_
        exact wp_ir (pc := 97) dX11_people_97 rfl (by decide) (by decide) (by first | rfl | omega) ⟨⟨_, _, _, _, _, K⟩, O⟩
    ·
      refine wp_aload_n (pc := 56) dX11_people_56 rfl ?_
      refine wp_iload (pc := 57) dX11_people_57 rfl ?_
      refine wp_bipush (pc := 59) (y := 8) dX11_people_59 (by decide) ?_
      refine wp_imul (pc := 61) dX11_people_61 ?_
      refine wp_topE (show (i : Int) * 8 = ((8 * i : Nat) : Int) by omega) ?_
      have hok := hF.2 (8 * i) (by omega)
      have hok1 := hok.1 (by omega)
      refine wd_Vn (pc := 62) dX11_people_62 cl_X11_117 (sp_D_addLine (k := 8 * i) (n := N + i) K (by omega) hl (by omega) h8) rfl rfl K.o (by rfl) (by decide) (Nat.le_of_ble_eq_true rfl) (fun hp62 e62 => ?_)
      obtain ⟨K, O1⟩ := e62; replace O := SO.tr O O1
      rw [pp_cm] at K
      have ek : up (up (plP (ppT tx T N i) (N + i) tx (8 * i) 6) 2 ((N + i : Nat) : Int) (tx.getD (8 * i + 6) 0 - 48)) 8 0 (((N + i : Nat) : Int) + 1) = up (ppT tx T N (i + 1)) 8 0 ((N + (i + 1) : Nat) : Int) := rfl
      rw [ek] at K
      refine wp_iinc (pc := 65) dX11_people_65 rfl (by decide) ?_
      refine wp_goto (pc := 68) 50 dX11_people_68 (by decide) ?_
      refine wp_ls ?_ (ih (i + 1) (by omega) (by omega) _ K O)
      repeat' (first | exact LE_0 | refine LE_s rfl ?_ | refine LE_s (I_c (by first | omega | (simp only [sm]; omega))) ?_ | refine LE_s (J_c (by first | omega | exact Int.pow_succ _ _ | exact (Int.pow_succ _ _).symm | exact (Int.pow_zero _).symm | (simp only [sm]; omega))) ?_ | refine LE_n ?_)
theorem sp_D_people (K : DA hp D r s Tr z Z T U tx rw rt hs ss KT) (hI : TI T N) (hl : byl tx) : Sp g MX11_people (rm 2 0 0) [.ref D] hp (Eff (.int (I (ppA tx N))) (fun hp2 => DX hp2 D (ppS tx T N) (if ppn tx N = 0 then U else []) [] rw rt hs ss KT ∧ SO hp hp2 D (D + 171))) := by
  obtain ⟨h8, hN⟩ := hI.men
  have hlen : tx.length ≤ 80 := by obtain ⟨S, r0, r1, q, _⟩ := K.te; exact q
  have hvr : -1 ≤ ppv tx N ∧ ppv tx N ≤ 80 := by
    unfold ppv
    have := (fbp_ok (l := tx) (N := N)).le
    repeat' split
    all_goals omega
  have e0 : up (ppT tx T N 0) 8 0 ((N + 0 : Nat) : Int) = T := up_id hI.1
  have ev0 : tx.length = 0 → ppv tx N = -1 := fun q => by unfold ppv; rw [if_pos (List.length_eq_zero_iff.mp q)]
  have eA0 : ppv tx N = -1 → ppA tx N = (((tx.length + 1) / 8 : Nat) : Int) ∧ ppn tx N = (tx.length + 1) / 8 := fun q => ⟨if_pos q, if_pos q⟩
  have eA1 : ¬ ppv tx N = -1 → ppA tx N = -1 - ppv tx N ∧ ppn tx N = 0 := fun q => ⟨if_neg q, if_neg q⟩
  refine Sp_mk rfl (Nat.le_of_ble_eq_true rfl) ?_
  show wp g _ _ _ 0 0 0 [some (.ref D), none, none, none, none] [] hp
  have O := SO.rf (hp := hp) (lo := D) (hi := D + 171)
  refine wp_aload_n (pc := 0) dX11_people_0 rfl ?_
  refine wp_getf (pc := 1) dX11_people_1 gf_X11_12 K.ob (by rfl) ?_
  refine wd_Vp (pc := 4) dX11_people_4 cl_X11_106 (sp_Text_length K.te) rfl rfl K.te.o (by rfl) (by decide) (Nat.le_of_ble_eq_true rfl) ?_
  refine wp_istore_n (pc := 7) dX11_people_7 (by decide) ?_
  refine wp_iload_n (pc := 8) dX11_people_8 rfl ?_
  first | refine wp_ifb_ne (pc := 9) 16 dX11_people_9 (by decide) (fun c9 => ?_) (fun c9 => ?_) | refine wp_if_ne (pc := 9) 16 dX11_people_9 (by decide) (by first | omega | exact TI.i5 (by assumption) | exact TI.i3 (by assumption) | exact TI.i2 (by assumption) | exact TI.i1 (by assumption) | exact TI.i0 (by assumption) | exact TI.i4 (by assumption) | exact TI.i6 (by assumption) | exact TI.i7 (by assumption)) (fun c9 => ?_) (fun c9 => ?_)
  ·
    first
    | (exfalso; omega)
    | skip
      refine wp_aload_n (pc := 16) dX11_people_16 rfl ?_
      refine wp_bipush (pc := 17) (y := 6) dX11_people_17 (by decide) ?_
      refine wp_aload_n (pc := 19) dX11_people_19 rfl ?_
      refine wp_getf (pc := 20) dX11_people_20 gf_X11_26 K.ob (by rfl) ?_
      refine wp_getf (pc := 23) dX11_people_23 gf_X11_110 (by first | exact K.ob | exact K.to.1 | exact K.tr.1 | exact K.to.2.1 | exact K.to.2.2.1 | exact K.to.2.2.2.1 | exact K.to.2.2.2.2.1 | exact K.to.2.2.2.2.2.1 | exact K.to.2.2.2.2.2.2.1 | exact K.to.2.2.2.2.2.2.2 | exact K.tr.2.1 | exact K.tr.2.2.1 | exact K.tr.2.2.2.1 | exact K.tr.2.2.2.2.1 | exact K.tr.2.2.2.2.2.1 | exact K.tr.2.2.2.2.2.2.1 | exact K.tr.2.2.2.2.2.2.2) (by rfl) ?_
      rw [h8]
      refine wp_isub (pc := 26) dX11_people_26 ?_
      refine wd_Vp (pc := 27) dX11_people_27 cl_X11_114 (sp_D_wrongInLines hN hl (fun q => by rw [q] at c9; simp at c9) K) rfl rfl K.o (by rfl) (by decide) (Nat.le_of_ble_eq_true rfl) ?_
      refine wp_istore_n (pc := 30) dX11_people_30 (by decide) ?_
      refine wp_iload_n (pc := 31) dX11_people_31 rfl ?_
      refine wp_iconst (pc := 32) dX11_people_32 ?_
      refine wp_iadd (pc := 33) dX11_people_33 ?_
      refine wp_bipush (pc := 34) (y := 8) dX11_people_34 (by decide) ?_
      refine wp_idiv (pc := 36) dX11_people_36 (by decide) (I_div (by omega) (by omega) (by omega) (by omega)) ?_
      refine wp_topE (show ((tx.length : Int) + 1) / 8 = (((tx.length + 1) / 8 : Nat) : Int) by omega) ?_
      refine wp_istore_n (pc := 37) dX11_people_37 (by decide) ?_
      refine wp_iload_n (pc := 38) dX11_people_38 rfl ?_
      refine wp_iconst (pc := 39) dX11_people_39 ?_
      refine wp_icmp_ne (pc := 40) 78 dX11_people_40 (by decide) (by first | omega | exact TI.i5 (by assumption) | exact TI.i3 (by assumption) | exact TI.i2 (by assumption) | exact TI.i1 (by assumption) | exact TI.i0 (by assumption) | exact TI.i4 (by assumption) | exact TI.i6 (by assumption) | exact TI.i7 (by assumption)) (by first | omega | exact TI.i5 (by assumption) | exact TI.i3 (by assumption) | exact TI.i2 (by assumption) | exact TI.i1 (by assumption) | exact TI.i0 (by assumption) | exact TI.i4 (by assumption) | exact TI.i6 (by assumption) | exact TI.i7 (by assumption)) (fun c40 => ?_) (fun c40 => ?_)
      ·
        have en := eA1 (by omega)
        rw [ppn_0 hI en.2, if_pos en.2, en.1] -- go
        refine wp_aload_n (pc := 78) dX11_people_78 rfl ?_
        refine wp_getf (pc := 79) dX11_people_79 gf_X11_12 K.ob (by rfl) ?_
        refine wd_Vn (pc := 82) dX11_people_82 cl_X11_124 (sp_Text_clear K.te) rfl rfl K.te.o (by rfl) (by decide) (Nat.le_of_ble_eq_true rfl) (fun hp82 e82 => ?_)
        obtain ⟨h82, o82⟩ := e82
        replace O := O.inn o82 (by omega) (by omega)
        replace K := K.uTe h82 o82
        refine wp_iload_n (pc := 85) dX11_people_85 rfl ?_
        refine wp_iconst (pc := 86) dX11_people_86 ?_
        refine wp_icmp_ne (pc := 87) 94 dX11_people_87 (by decide) (by first | omega | exact TI.i5 (by assumption) | exact TI.i3 (by assumption) | exact TI.i2 (by assumption) | exact TI.i1 (by assumption) | exact TI.i0 (by assumption) | exact TI.i4 (by assumption) | exact TI.i6 (by assumption) | exact TI.i7 (by assumption)) (by first | omega | exact TI.i5 (by assumption) | exact TI.i3 (by assumption) | exact TI.i2 (by assumption) | exact TI.i1 (by assumption) | exact TI.i0 (by assumption) | exact TI.i4 (by assumption) | exact TI.i6 (by assumption) | exact TI.i7 (by assumption)) (fun c87 => ?_) (fun c87 => ?_)
        ·
          first
          | (exfalso; omega)
          | skip
            refine wp_iconst (pc := 94) dX11_people_94 ?_
            refine wp_iload_n (pc := 95) dX11_people_95 rfl ?_
            refine wp_isub (pc := 96) dX11_people_96 ?_
            exact wp_ir (pc := 97) dX11_people_97 rfl (by decide) (by decide) (by first | rfl | omega) ⟨⟨_, _, _, _, _, K⟩, O⟩
        ·
          first
          | (exfalso; omega)
          | skip
            refine wp_iload_n (pc := 90) dX11_people_90 rfl ?_
            refine wp_goto (pc := 91) 97 dX11_people_91 (by decide) ?_
            exact wp_ir (pc := 97) dX11_people_97 rfl (by decide) (by decide) (by first | rfl | omega) ⟨⟨_, _, _, _, _, K⟩, O⟩
      ·
        first
        | (exfalso; omega)
        | skip
          refine wp_iload_n (pc := 43) dX11_people_43 rfl ?_
          refine wp_if_le (pc := 44) 78 dX11_people_44 (by decide) (by first | omega | exact TI.i5 (by assumption) | exact TI.i3 (by assumption) | exact TI.i2 (by assumption) | exact TI.i1 (by assumption) | exact TI.i0 (by assumption) | exact TI.i4 (by assumption) | exact TI.i6 (by assumption) | exact TI.i7 (by assumption)) (fun c44 => ?_) (fun c44 => ?_)
          ·
            have en := (eA0 (by omega)).2
            have en0 : ppn tx N = 0 := by omega
            rw [ppn_0 hI en0, if_pos en0, (eA0 (by omega)).1] -- go
            refine wp_aload_n (pc := 78) dX11_people_78 rfl ?_
            refine wp_getf (pc := 79) dX11_people_79 gf_X11_12 K.ob (by rfl) ?_
            refine wd_Vn (pc := 82) dX11_people_82 cl_X11_124 (sp_Text_clear K.te) rfl rfl K.te.o (by rfl) (by decide) (Nat.le_of_ble_eq_true rfl) (fun hp82 e82 => ?_)
            obtain ⟨h82, o82⟩ := e82
            replace O := O.inn o82 (by omega) (by omega)
            replace K := K.uTe h82 o82
            refine wp_iload_n (pc := 85) dX11_people_85 rfl ?_
            refine wp_iconst (pc := 86) dX11_people_86 ?_
            refine wp_icmp_ne (pc := 87) 94 dX11_people_87 (by decide) (by first | omega | exact TI.i5 (by assumption) | exact TI.i3 (by assumption) | exact TI.i2 (by assumption) | exact TI.i1 (by assumption) | exact TI.i0 (by assumption) | exact TI.i4 (by assumption) | exact TI.i6 (by assumption) | exact TI.i7 (by assumption)) (by first | omega | exact TI.i5 (by assumption) | exact TI.i3 (by assumption) | exact TI.i2 (by assumption) | exact TI.i1 (by assumption) | exact TI.i0 (by assumption) | exact TI.i4 (by assumption) | exact TI.i6 (by assumption) | exact TI.i7 (by assumption)) (fun c87 => ?_) (fun c87 => ?_)
            ·
              first
              | (exfalso; omega)
              | skip
                refine wp_iconst (pc := 94) dX11_people_94 ?_
                refine wp_iload_n (pc := 95) dX11_people_95 rfl ?_
                refine wp_isub (pc := 96) dX11_people_96 ?_
                exact wp_ir (pc := 97) dX11_people_97 rfl (by decide) (by decide) (by first | rfl | omega) ⟨⟨_, _, _, _, _, K⟩, O⟩
            ·
              first
              | (exfalso; omega)
              | skip
                refine wp_iload_n (pc := 90) dX11_people_90 rfl ?_
                refine wp_goto (pc := 91) 97 dX11_people_91 (by decide) ?_
                exact wp_ir (pc := 97) dX11_people_97 rfl (by decide) (by decide) (by first | rfl | omega) ⟨⟨_, _, _, _, _, K⟩, O⟩
          ·
            have en := eA0 (by omega)
            have en0 : ¬ ppn tx N = 0 := by omega
            unfold ppS
            rw [if_neg en0, en.1, en.2] -- go
            refine wp_iconst (pc := 47) dX11_people_47 ?_
            refine wp_istore (pc := 48) dX11_people_48 (by decide) ?_
            refine wp_ls ?_ (lp_D_ppl hI hl (by omega) rfl (by omega) ((tx.length + 1) / 8 + 1) 0 (by omega) (by omega) _ (by rw [e0]; exact K) O)
            repeat' (first | exact LE_0 | refine LE_s rfl ?_ | refine LE_s (I_c (by first | omega | (simp only [sm]; omega))) ?_ | refine LE_s (J_c (by first | omega | exact Int.pow_succ _ _ | exact (Int.pow_succ _ _).symm | exact (Int.pow_zero _).symm | (simp only [sm]; omega))) ?_ | refine LE_n ?_)
  ·
    have ez : tx.length = 0 := by omega
    have ev := ev0 ez
    skip -- go
    refine wp_iconst (pc := 12) dX11_people_12 ?_
    refine wp_goto (pc := 13) 30 dX11_people_13 (by decide) ?_
    refine wp_istore_n (pc := 30) dX11_people_30 (by decide) ?_
    refine wp_iload_n (pc := 31) dX11_people_31 rfl ?_
    refine wp_iconst (pc := 32) dX11_people_32 ?_
    refine wp_iadd (pc := 33) dX11_people_33 ?_
    refine wp_bipush (pc := 34) (y := 8) dX11_people_34 (by decide) ?_
    refine wp_idiv (pc := 36) dX11_people_36 (by decide) (I_div (by omega) (by omega) (by omega) (by omega)) ?_
    refine wp_topE (show ((tx.length : Int) + 1) / 8 = (((tx.length + 1) / 8 : Nat) : Int) by omega) ?_
    refine wp_istore_n (pc := 37) dX11_people_37 (by decide) ?_
    refine wp_iload_n (pc := 38) dX11_people_38 rfl ?_
    refine wp_iconst (pc := 39) dX11_people_39 ?_
    refine wp_icmp_ne (pc := 40) 78 dX11_people_40 (by decide) (by first | omega | exact TI.i5 (by assumption) | exact TI.i3 (by assumption) | exact TI.i2 (by assumption) | exact TI.i1 (by assumption) | exact TI.i0 (by assumption) | exact TI.i4 (by assumption) | exact TI.i6 (by assumption) | exact TI.i7 (by assumption)) (by first | omega | exact TI.i5 (by assumption) | exact TI.i3 (by assumption) | exact TI.i2 (by assumption) | exact TI.i1 (by assumption) | exact TI.i0 (by assumption) | exact TI.i4 (by assumption) | exact TI.i6 (by assumption) | exact TI.i7 (by assumption)) (fun c40 => ?_) (fun c40 => ?_)
    ·
      have en := eA1 (by omega)
      rw [ppn_0 hI en.2, if_pos en.2, en.1] -- go
      refine wp_aload_n (pc := 78) dX11_people_78 rfl ?_
      refine wp_getf (pc := 79) dX11_people_79 gf_X11_12 K.ob (by rfl) ?_
      refine wd_Vn (pc := 82) dX11_people_82 cl_X11_124 (sp_Text_clear K.te) rfl rfl K.te.o (by rfl) (by decide) (Nat.le_of_ble_eq_true rfl) (fun hp82 e82 => ?_)
      obtain ⟨h82, o82⟩ := e82
      replace O := O.inn o82 (by omega) (by omega)
      replace K := K.uTe h82 o82
      refine wp_iload_n (pc := 85) dX11_people_85 rfl ?_
      refine wp_iconst (pc := 86) dX11_people_86 ?_
      refine wp_icmp_ne (pc := 87) 94 dX11_people_87 (by decide) (by first | omega | exact TI.i5 (by assumption) | exact TI.i3 (by assumption) | exact TI.i2 (by assumption) | exact TI.i1 (by assumption) | exact TI.i0 (by assumption) | exact TI.i4 (by assumption) | exact TI.i6 (by assumption) | exact TI.i7 (by assumption)) (by first | omega | exact TI.i5 (by assumption) | exact TI.i3 (by assumption) | exact TI.i2 (by assumption) | exact TI.i1 (by assumption) | exact TI.i0 (by assumption) | exact TI.i4 (by assumption) | exact TI.i6 (by assumption) | exact TI.i7 (by assumption)) (fun c87 => ?_) (fun c87 => ?_)
      ·
        first
        | (exfalso; omega)
        | skip
          refine wp_iconst (pc := 94) dX11_people_94 ?_
          refine wp_iload_n (pc := 95) dX11_people_95 rfl ?_
          refine wp_isub (pc := 96) dX11_people_96 ?_
          exact wp_ir (pc := 97) dX11_people_97 rfl (by decide) (by decide) (by first | rfl | omega) ⟨⟨_, _, _, _, _, K⟩, O⟩
      ·
        first
        | (exfalso; omega)
        | skip
          refine wp_iload_n (pc := 90) dX11_people_90 rfl ?_
          refine wp_goto (pc := 91) 97 dX11_people_91 (by decide) ?_
          exact wp_ir (pc := 97) dX11_people_97 rfl (by decide) (by decide) (by first | rfl | omega) ⟨⟨_, _, _, _, _, K⟩, O⟩
    ·
      first
      | (exfalso; omega)
      | skip
        refine wp_iload_n (pc := 43) dX11_people_43 rfl ?_
        refine wp_if_le (pc := 44) 78 dX11_people_44 (by decide) (by first | omega | exact TI.i5 (by assumption) | exact TI.i3 (by assumption) | exact TI.i2 (by assumption) | exact TI.i1 (by assumption) | exact TI.i0 (by assumption) | exact TI.i4 (by assumption) | exact TI.i6 (by assumption) | exact TI.i7 (by assumption)) (fun c44 => ?_) (fun c44 => ?_)
        ·
          have en := (eA0 (by omega)).2
          have en0 : ppn tx N = 0 := by omega
          rw [ppn_0 hI en0, if_pos en0, (eA0 (by omega)).1] -- go
          refine wp_aload_n (pc := 78) dX11_people_78 rfl ?_
          refine wp_getf (pc := 79) dX11_people_79 gf_X11_12 K.ob (by rfl) ?_
          refine wd_Vn (pc := 82) dX11_people_82 cl_X11_124 (sp_Text_clear K.te) rfl rfl K.te.o (by rfl) (by decide) (Nat.le_of_ble_eq_true rfl) (fun hp82 e82 => ?_)
          obtain ⟨h82, o82⟩ := e82
          replace O := O.inn o82 (by omega) (by omega)
          replace K := K.uTe h82 o82
          refine wp_iload_n (pc := 85) dX11_people_85 rfl ?_
          refine wp_iconst (pc := 86) dX11_people_86 ?_
          refine wp_icmp_ne (pc := 87) 94 dX11_people_87 (by decide) (by first | omega | exact TI.i5 (by assumption) | exact TI.i3 (by assumption) | exact TI.i2 (by assumption) | exact TI.i1 (by assumption) | exact TI.i0 (by assumption) | exact TI.i4 (by assumption) | exact TI.i6 (by assumption) | exact TI.i7 (by assumption)) (by first | omega | exact TI.i5 (by assumption) | exact TI.i3 (by assumption) | exact TI.i2 (by assumption) | exact TI.i1 (by assumption) | exact TI.i0 (by assumption) | exact TI.i4 (by assumption) | exact TI.i6 (by assumption) | exact TI.i7 (by assumption)) (fun c87 => ?_) (fun c87 => ?_)
          ·
            first
            | (exfalso; omega)
            | skip
              refine wp_iconst (pc := 94) dX11_people_94 ?_
              refine wp_iload_n (pc := 95) dX11_people_95 rfl ?_
              refine wp_isub (pc := 96) dX11_people_96 ?_
              exact wp_ir (pc := 97) dX11_people_97 rfl (by decide) (by decide) (by first | rfl | omega) ⟨⟨_, _, _, _, _, K⟩, O⟩
          ·
            first
            | (exfalso; omega)
            | skip
              refine wp_iload_n (pc := 90) dX11_people_90 rfl ?_
              refine wp_goto (pc := 91) 97 dX11_people_91 (by decide) ?_
              exact wp_ir (pc := 97) dX11_people_97 rfl (by decide) (by decide) (by first | rfl | omega) ⟨⟨_, _, _, _, _, K⟩, O⟩
        ·
          have en := eA0 (by omega)
          have en0 : ¬ ppn tx N = 0 := by omega
          unfold ppS
          rw [if_neg en0, en.1, en.2] -- go
          refine wp_iconst (pc := 47) dX11_people_47 ?_
          refine wp_istore (pc := 48) dX11_people_48 (by decide) ?_
          refine wp_ls ?_ (lp_D_ppl hI hl (by omega) rfl (by omega) ((tx.length + 1) / 8 + 1) 0 (by omega) (by omega) _ (by rw [e0]; exact K) O)
          repeat' (first | exact LE_0 | refine LE_s rfl ?_ | refine LE_s (I_c (by first | omega | (simp only [sm]; omega))) ?_ | refine LE_s (J_c (by first | omega | exact Int.pow_succ _ _ | exact (Int.pow_succ _ _).symm | exact (Int.pow_zero _).symm | (simp only [sm]; omega))) ?_ | refine LE_n ?_)
end D8

