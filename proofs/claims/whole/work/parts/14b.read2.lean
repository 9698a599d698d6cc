/-! Rule: the readers with signs -/
section RC
variable {g : GT} {hp hp2 : Hp} {R ln p L i : Nat} {cs s : List Int} {nx : Nat → Int} {a dep : Int}
theorem lp_sgn (hn : NX nx ln) {T : Nat → PR} (hP : RdE g R ln nx MX7_readThing (5*L+6) T dep) (hG : GP ln T) (hc : cs.length ≤ p) : ∀ (m i : Nat), 40 < i + m → i ≤ 40 → ∀ (hp2 : Hp) (p' : Nat) (b : Bool) (k : RdAt hp2 R ln nx p' cs) (hS : SO hp hp2 R (R + 4)) (he : mns nx (40 - i) p' b = mns nx 40 p false) (hb : b = true → p < p') (hpp : p ≤ p'), wp g MX7_readSigned (rm (5*L+7) 0 0) (Eff (.int (B ((pG nx T p).1 = true))) (fun hp2 => RdAt hp2 R ln nx (pG nx T p).2.1 (cs ++ (pG nx T p).2.2) ∧ SO hp hp2 R (R + 4))) 0 0 4 [some (.ref R), some (.int (I dep)), some (.int (I (if b = true then 1 else 0))), some (.int (I (i : Int)))] [] hp2 := by
  intro m
  induction m with
  | zero => intro i h1 h2; exact absurd h1 (by omega)
  | succ m ih =>
    intro i h1 h2 hp2 p' b k hS he hb hpp
    have k' := k
    obtain ⟨Sg, St, Sk, s, r0, r1, r2, r3, hl, hpl, hc', hSg, hSt, hs, hSk⟩ := k
    have hr := (hn.2 p').2
    have hlt := hn.lt (p := p')
    have hg := hG p' hpl
    refine wp_iload_n (pc := 4) dX7_readSigned_4 rfl ?_
    refine wp_bipush (pc := 5) (y := 40) dX7_readSigned_5 (by decide) ?_
    refine wp_icmp_ge (pc := 7) 45 dX7_readSigned_7 (by decide) (by omega) (by omega) (fun c7 => ?_) (fun c7 => ?_)
    ·
      have hx : mns nx 40 p false = (p', b) := by rw [← he, show 40 - i = 0 by omega]; rfl
      unfold pG
      rw [hx]
      dsimp only -- go
      refine wp_aload_n (pc := 45) dX7_readSigned_45 rfl ?_
      refine wp_iload_n (pc := 46) dX7_readSigned_46 rfl ?_
      refine wp_Vs (pc := 47) dX7_readSigned_47 cl_X7_80 (hP _ p' cs k') rfl rfl (by repeat (first | assumption | exact hset_eq | refine hset_at (by omega) ?_)) (by rfl) (rm_ok (by omega) (by decide)) (Nat.le_of_ble_eq_true rfl) (fun hp47 e47 => ?_)
      obtain ⟨k2, s2⟩ := e47
      have s3 := hS.tr s2
      have k2' := k2
      obtain ⟨Sg2, St2, Sk2, s2', q0, q1, q2, q3, ql, qpl, qc, qSg, qSt, qs, qSk⟩ := k2
      first | refine wp_ifb_eq (pc := 50) 70 dX7_readSigned_50 (by decide) (fun c50 => ?_) (fun c50 => ?_) | refine wp_if_eq (pc := 50) 70 dX7_readSigned_50 (by decide) (by omega) (fun c50 => ?_) (fun c50 => ?_)
      ·
        rw [if_neg (fun z => c50 z.1), List.append_nil]
        have k6 := k2'
        have s6 := s3 -- go
        refine wp_iconst (pc := 70) dX7_readSigned_70 ?_
        first | exact wp_z1 (pc := 71) dX7_readSigned_71 rfl (Nat.le_refl 0) (Nat.le_refl 0) c50 ⟨k6, s6⟩ | exact wp_z1 (pc := 71) dX7_readSigned_71 rfl (Nat.le_refl 0) (Nat.le_refl 0) trivial ⟨k6, s6⟩ | exact wp_z0 (pc := 71) dX7_readSigned_71 rfl (Nat.le_refl 0) (Nat.le_refl 0) c50 ⟨k6, s6⟩ | exact wp_z0 (pc := 71) dX7_readSigned_71 rfl (Nat.le_refl 0) (Nat.le_refl 0) (by intro z; cases z) ⟨k6, s6⟩
      ·
        refine wp_iload_n (pc := 53) dX7_readSigned_53 rfl ?_
        first | refine wp_ifb_eq (pc := 54) 66 dX7_readSigned_54 (by decide) (fun c54 => ?_) (fun c54 => ?_) | refine wp_if_eq (pc := 54) 66 dX7_readSigned_54 (by decide) (by cases b <;> (constructor <;> decide)) (fun c54 => ?_) (fun c54 => ?_)
        ·
          have eb : b = false := by cases b; rfl; exact absurd c54 (by decide)
          subst eb
          simp only [Bool.false_eq_true, and_false, if_false, List.append_nil]
          have k6 := k2'
          have s6 := s3 -- go
          refine wp_iconst (pc := 66) dX7_readSigned_66 ?_
          refine wp_goto (pc := 67) 71 dX7_readSigned_67 (by decide) ?_
          first | exact wp_z1 (pc := 71) dX7_readSigned_71 rfl (Nat.le_refl 0) (Nat.le_refl 0) c50 ⟨k6, s6⟩ | exact wp_z1 (pc := 71) dX7_readSigned_71 rfl (Nat.le_refl 0) (Nat.le_refl 0) trivial ⟨k6, s6⟩ | exact wp_z0 (pc := 71) dX7_readSigned_71 rfl (Nat.le_refl 0) (Nat.le_refl 0) c50 ⟨k6, s6⟩ | exact wp_z0 (pc := 71) dX7_readSigned_71 rfl (Nat.le_refl 0) (Nat.le_refl 0) (by intro z; cases z) ⟨k6, s6⟩
        ·
          have eb : b = true := by cases b; exact absurd rfl c54; rfl
          subst eb -- go
          refine wp_aload_n (pc := 57) dX7_readSigned_57 rfl ?_
          refine wp_bipush (pc := 58) (y := (-126)) dX7_readSigned_58 (by decide) ?_
          refine wp_Vs (pc := 60) dX7_readSigned_60 cl_X7_71 (sp_Rule_put k2' (by rw [List.length_append]; have := hb rfl; omega)) rfl rfl q0 (by rfl) (rm_ok (by omega) (by decide)) (Nat.le_of_ble_eq_true rfl) (fun hp60 e60 => ?_)
          first | refine wp_ifb_eq (pc := 63) 70 dX7_readSigned_63 (by decide) (fun c63 => ?_) (fun c63 => ?_) | refine wp_if_eq (pc := 63) 70 dX7_readSigned_63 (by decide) (by omega) (fun c63 => ?_) (fun c63 => ?_)
          ·
            exact absurd trivial c63
          ·
            simp only [c50, and_self, if_true]
            have k6 := e60.1
            rw [List.append_assoc] at k6
            have s6 := s3.tr e60.2 -- go
            refine wp_iconst (pc := 66) dX7_readSigned_66 ?_
            refine wp_goto (pc := 67) 71 dX7_readSigned_67 (by decide) ?_
            first | exact wp_z1 (pc := 71) dX7_readSigned_71 rfl (Nat.le_refl 0) (Nat.le_refl 0) c50 ⟨k6, s6⟩ | exact wp_z1 (pc := 71) dX7_readSigned_71 rfl (Nat.le_refl 0) (Nat.le_refl 0) trivial ⟨k6, s6⟩ | exact wp_z0 (pc := 71) dX7_readSigned_71 rfl (Nat.le_refl 0) (Nat.le_refl 0) c50 ⟨k6, s6⟩ | exact wp_z0 (pc := 71) dX7_readSigned_71 rfl (Nat.le_refl 0) (Nat.le_refl 0) (by intro z; cases z) ⟨k6, s6⟩
    ·
      refine wp_aload_n (pc := 10) dX7_readSigned_10 rfl ?_
      refine wp_Vp (pc := 11) dX7_readSigned_11 cl_X7_68 (sp_Rule_next k' hn) rfl rfl (by repeat (first | assumption | exact hset_eq | refine hset_at (by omega) ?_)) (by rfl) (rm_ok (by omega) (by decide)) (Nat.le_of_ble_eq_true rfl) ?_
      refine wp_bipush (pc := 14) (y := 45) dX7_readSigned_14 (by decide) ?_
      refine wp_icmp_ne (pc := 16) 45 dX7_readSigned_16 (by decide) (by omega) (by omega) (fun c16 => ?_) (fun c16 => ?_)
      ·
        have hx : mns nx 40 p false = (p', b) := by rw [← he, show 40 - i = (39 - i) + 1 by omega]; exact if_neg c16
        unfold pG
        rw [hx]
        dsimp only -- go
        refine wp_aload_n (pc := 45) dX7_readSigned_45 rfl ?_
        refine wp_iload_n (pc := 46) dX7_readSigned_46 rfl ?_
        refine wp_Vs (pc := 47) dX7_readSigned_47 cl_X7_80 (hP _ p' cs k') rfl rfl (by repeat (first | assumption | exact hset_eq | refine hset_at (by omega) ?_)) (by rfl) (rm_ok (by omega) (by decide)) (Nat.le_of_ble_eq_true rfl) (fun hp47 e47 => ?_)
        obtain ⟨k2, s2⟩ := e47
        have s3 := hS.tr s2
        have k2' := k2
        obtain ⟨Sg2, St2, Sk2, s2', q0, q1, q2, q3, ql, qpl, qc, qSg, qSt, qs, qSk⟩ := k2
        first | refine wp_ifb_eq (pc := 50) 70 dX7_readSigned_50 (by decide) (fun c50 => ?_) (fun c50 => ?_) | refine wp_if_eq (pc := 50) 70 dX7_readSigned_50 (by decide) (by omega) (fun c50 => ?_) (fun c50 => ?_)
        ·
          rw [if_neg (fun z => c50 z.1), List.append_nil]
          have k6 := k2'
          have s6 := s3 -- go
          refine wp_iconst (pc := 70) dX7_readSigned_70 ?_
          first | exact wp_z1 (pc := 71) dX7_readSigned_71 rfl (Nat.le_refl 0) (Nat.le_refl 0) c50 ⟨k6, s6⟩ | exact wp_z1 (pc := 71) dX7_readSigned_71 rfl (Nat.le_refl 0) (Nat.le_refl 0) trivial ⟨k6, s6⟩ | exact wp_z0 (pc := 71) dX7_readSigned_71 rfl (Nat.le_refl 0) (Nat.le_refl 0) c50 ⟨k6, s6⟩ | exact wp_z0 (pc := 71) dX7_readSigned_71 rfl (Nat.le_refl 0) (Nat.le_refl 0) (by intro z; cases z) ⟨k6, s6⟩
        ·
          refine wp_iload_n (pc := 53) dX7_readSigned_53 rfl ?_
          first | refine wp_ifb_eq (pc := 54) 66 dX7_readSigned_54 (by decide) (fun c54 => ?_) (fun c54 => ?_) | refine wp_if_eq (pc := 54) 66 dX7_readSigned_54 (by decide) (by cases b <;> (constructor <;> decide)) (fun c54 => ?_) (fun c54 => ?_)
          ·
            have eb : b = false := by cases b; rfl; exact absurd c54 (by decide)
            subst eb
            simp only [Bool.false_eq_true, and_false, if_false, List.append_nil]
            have k6 := k2'
            have s6 := s3 -- go
            refine wp_iconst (pc := 66) dX7_readSigned_66 ?_
            refine wp_goto (pc := 67) 71 dX7_readSigned_67 (by decide) ?_
            first | exact wp_z1 (pc := 71) dX7_readSigned_71 rfl (Nat.le_refl 0) (Nat.le_refl 0) c50 ⟨k6, s6⟩ | exact wp_z1 (pc := 71) dX7_readSigned_71 rfl (Nat.le_refl 0) (Nat.le_refl 0) trivial ⟨k6, s6⟩ | exact wp_z0 (pc := 71) dX7_readSigned_71 rfl (Nat.le_refl 0) (Nat.le_refl 0) c50 ⟨k6, s6⟩ | exact wp_z0 (pc := 71) dX7_readSigned_71 rfl (Nat.le_refl 0) (Nat.le_refl 0) (by intro z; cases z) ⟨k6, s6⟩
          ·
            have eb : b = true := by cases b; exact absurd rfl c54; rfl
            subst eb -- go
            refine wp_aload_n (pc := 57) dX7_readSigned_57 rfl ?_
            refine wp_bipush (pc := 58) (y := (-126)) dX7_readSigned_58 (by decide) ?_
            refine wp_Vs (pc := 60) dX7_readSigned_60 cl_X7_71 (sp_Rule_put k2' (by rw [List.length_append]; have := hb rfl; omega)) rfl rfl q0 (by rfl) (rm_ok (by omega) (by decide)) (Nat.le_of_ble_eq_true rfl) (fun hp60 e60 => ?_)
            first | refine wp_ifb_eq (pc := 63) 70 dX7_readSigned_63 (by decide) (fun c63 => ?_) (fun c63 => ?_) | refine wp_if_eq (pc := 63) 70 dX7_readSigned_63 (by decide) (by omega) (fun c63 => ?_) (fun c63 => ?_)
            ·
              exact absurd trivial c63
            ·
              simp only [c50, and_self, if_true]
              have k6 := e60.1
              rw [List.append_assoc] at k6
              have s6 := s3.tr e60.2 -- go
              refine wp_iconst (pc := 66) dX7_readSigned_66 ?_
              refine wp_goto (pc := 67) 71 dX7_readSigned_67 (by decide) ?_
              first | exact wp_z1 (pc := 71) dX7_readSigned_71 rfl (Nat.le_refl 0) (Nat.le_refl 0) c50 ⟨k6, s6⟩ | exact wp_z1 (pc := 71) dX7_readSigned_71 rfl (Nat.le_refl 0) (Nat.le_refl 0) trivial ⟨k6, s6⟩ | exact wp_z0 (pc := 71) dX7_readSigned_71 rfl (Nat.le_refl 0) (Nat.le_refl 0) c50 ⟨k6, s6⟩ | exact wp_z0 (pc := 71) dX7_readSigned_71 rfl (Nat.le_refl 0) (Nat.le_refl 0) (by intro z; cases z) ⟨k6, s6⟩
      ·
        have hm : mns nx (40 - (i + 1)) (p' + 1) (!b) = mns nx 40 p false := by rw [← he, show 40 - i = (40 - (i + 1)) + 1 by omega]; exact (if_pos c16).symm
        refine wp_iload_n (pc := 19) dX7_readSigned_19 rfl ?_
        first | refine wp_ifb_ne (pc := 20) 27 dX7_readSigned_20 (by decide) (fun c20 => ?_) (fun c20 => ?_) | refine wp_if_ne (pc := 20) 27 dX7_readSigned_20 (by decide) (by cases b <;> (constructor <;> decide)) (fun c20 => ?_) (fun c20 => ?_)
        ·
          have eb : b = true := by cases b; exact absurd rfl c20; rfl
          subst eb -- go
          refine wp_iconst (pc := 27) dX7_readSigned_27 ?_
          refine wp_istore_n (pc := 28) dX7_readSigned_28 (by decide) ?_
          refine wp_aload_n (pc := 29) dX7_readSigned_29 rfl ?_
          refine wp_dup (pc := 30) dX7_readSigned_30 rfl ?_
          refine wp_getf (pc := 31) dX7_readSigned_31 gf_X7_47 (by repeat (first | assumption | exact hset_eq | refine hset_at (by omega) ?_)) (by rfl) ?_
          refine wp_iconst (pc := 34) dX7_readSigned_34 ?_
          refine wp_iadd (pc := 35) dX7_readSigned_35 ?_
          refine wp_putf (pc := 36) dX7_readSigned_36 pf_X7_47 (by repeat (first | assumption | exact hset_eq | refine hset_at (by omega) ?_)) (by first | decide | exact Nat.lt_of_sub_pos (by decide) | simp) rfl rfl (by first | decide | intro h; cases h) ?_
          refine wp_iinc (pc := 39) dX7_readSigned_39 rfl (by decide) ?_
          refine wp_goto (pc := 42) 4 dX7_readSigned_42 (by decide) ?_
          refine wp_ls ?_ (ih (i + 1) (by omega) (by omega) _ (p' + 1) _ ⟨Sg, St, Sk, s, hset_eq, (by repeat (first | assumption | exact hset_eq | refine hset_at (by omega) ?_)), (by repeat (first | assumption | exact hset_eq | refine hset_at (by omega) ?_)), (by repeat (first | assumption | exact hset_eq | refine hset_at (by omega) ?_)), hl, hlt (by omega), by omega, hSg, hSt, hs, hSk⟩ (hS.tr (by repeat (first | exact SO.rf | assumption | refine SO.set ?_ (by omega) (by omega)))) hm (fun _ => by omega) (by omega))
          repeat' (first | exact LE_0 | refine LE_s rfl ?_ | refine LE_s (I_c (by first | omega | (simp only [sm]; omega))) ?_ | refine LE_s (J_c (by first | omega | exact Int.pow_succ _ _ | exact (Int.pow_succ _ _).symm | exact (Int.pow_zero _).symm | (simp only [sm]; omega))) ?_ | refine LE_n ?_)
        ·
          have eb : b = false := by cases b; rfl; exact absurd c20 (by decide)
          subst eb -- go
          refine wp_iconst (pc := 23) dX7_readSigned_23 ?_
          refine wp_goto (pc := 24) 28 dX7_readSigned_24 (by decide) ?_
          refine wp_istore_n (pc := 28) dX7_readSigned_28 (by decide) ?_
          refine wp_aload_n (pc := 29) dX7_readSigned_29 rfl ?_
          refine wp_dup (pc := 30) dX7_readSigned_30 rfl ?_
          refine wp_getf (pc := 31) dX7_readSigned_31 gf_X7_47 (by repeat (first | assumption | exact hset_eq | refine hset_at (by omega) ?_)) (by rfl) ?_
          refine wp_iconst (pc := 34) dX7_readSigned_34 ?_
          refine wp_iadd (pc := 35) dX7_readSigned_35 ?_
          refine wp_putf (pc := 36) dX7_readSigned_36 pf_X7_47 (by repeat (first | assumption | exact hset_eq | refine hset_at (by omega) ?_)) (by first | decide | exact Nat.lt_of_sub_pos (by decide) | simp) rfl rfl (by first | decide | intro h; cases h) ?_
          refine wp_iinc (pc := 39) dX7_readSigned_39 rfl (by decide) ?_
          refine wp_goto (pc := 42) 4 dX7_readSigned_42 (by decide) ?_
          refine wp_ls ?_ (ih (i + 1) (by omega) (by omega) _ (p' + 1) _ ⟨Sg, St, Sk, s, hset_eq, (by repeat (first | assumption | exact hset_eq | refine hset_at (by omega) ?_)), (by repeat (first | assumption | exact hset_eq | refine hset_at (by omega) ?_)), (by repeat (first | assumption | exact hset_eq | refine hset_at (by omega) ?_)), hl, hlt (by omega), by omega, hSg, hSt, hs, hSk⟩ (hS.tr (by repeat (first | exact SO.rf | assumption | refine SO.set ?_ (by omega) (by omega)))) hm (fun _ => by omega) (by omega))
          repeat' (first | exact LE_0 | refine LE_s rfl ?_ | refine LE_s (I_c (by first | omega | (simp only [sm]; omega))) ?_ | refine LE_s (J_c (by first | omega | exact Int.pow_succ _ _ | exact (Int.pow_succ _ _).symm | exact (Int.pow_zero _).symm | (simp only [sm]; omega))) ?_ | refine LE_n ?_)
theorem sp_Rule_readSigned (hn : NX nx ln) {T : Nat → PR} (hP : RdE g R ln nx MX7_readThing (5*L+6) T dep) (hG : GP ln T) (k : RdAt hp R ln nx p cs) : Sp g MX7_readSigned (rm (5*L+7) 0 0) [.ref R, .int (I dep)] hp (Eff (.int (B ((pG nx T p).1 = true))) (fun hp2 => RdAt hp2 R ln nx (pG nx T p).2.1 (cs ++ (pG nx T p).2.2) ∧ SO hp hp2 R (R + 4))) := by
  have k' := k
  obtain ⟨Sg, St, Sk, s, r0, r1, r2, r3, hl, hpl, hc', hSg, hSt, hs, hSk⟩ := k
  refine Sp_mk rfl (Nat.le_of_ble_eq_true rfl) ?_
  show wp g _ _ _ 0 0 0 [some (.ref R), some (.int (I dep)), none, none] [] hp
  refine wp_iconst (pc := 0) dX7_readSigned_0 ?_
  refine wp_istore_n (pc := 1) dX7_readSigned_1 (by decide) ?_
  refine wp_iconst (pc := 2) dX7_readSigned_2 ?_
  refine wp_istore_n (pc := 3) dX7_readSigned_3 (by decide) ?_
  refine wp_ls ?_ (lp_sgn hn hP hG hc' 41 0 (by omega) (by omega) _ p false k' SO.rf rfl (fun z => by cases z) (Nat.le_refl _))
  repeat' (first | exact LE_0 | refine LE_s rfl ?_ | refine LE_s (I_c (by first | omega | (simp only [sm]; omega))) ?_ | refine LE_s (J_c (by first | omega | exact Int.pow_succ _ _ | exact (Int.pow_succ _ _).symm | exact (Int.pow_zero _).symm | (simp only [sm]; omega))) ?_ | refine LE_n ?_)
theorem lp_prd (hn : NX nx ln) {P : Nat → PR} (hP : RdE g R ln nx MX7_readSigned (5*L+7) P dep) (hG : GP ln P) : ∀ (m i : Nat), 40 < i + m → i ≤ 40 → ∀ (hp2 : Hp) (r : PR) (k : RdAt hp2 R ln nx r.2.1 (cs ++ r.2.2)) (hS : SO hp hp2 R (R + 4)) (he : chn nx 42 47 P (40 - i) r = chn nx 42 47 P 40 (P p)), wp g MX7_readProduct (rm (5*L+8) 0 0) (Eff (.int (B ((chn nx 42 47 P 40 (P p)).1 = true))) (fun hp2 => RdAt hp2 R ln nx (chn nx 42 47 P 40 (P p)).2.1 (cs ++ (chn nx 42 47 P 40 (P p)).2.2) ∧ SO hp hp2 R (R + 4))) 0 0 8 [some (.ref R), some (.int (I dep)), some (.int (B (r.1 = true))), some (.int (I (i : Int))), none] [] hp2 := by
  intro m
  induction m with
  | zero => intro i h1 h2; exact absurd h1 (by omega)
  | succ m ih =>
    intro i h1 h2 hp2 r k hS he
    have k' := k
    obtain ⟨Sg, St, Sk, s, r0, r1, r2, r3, hl, hpl, hc', hSg, hSt, hs, hSk⟩ := k
    have hr := (hn.2 r.2.1).2
    have hlt := hn.lt (p := r.2.1)
    refine wp_iload_n (pc := 8) dX7_readProduct_8 rfl ?_
    refine wp_bipush (pc := 9) (y := 40) dX7_readProduct_9 (by decide) ?_
    refine wp_icmp_ge (pc := 11) 82 dX7_readProduct_11 (by decide) (by omega) (by omega) (fun c11 => ?_) (fun c11 => ?_)
    ·
      have hx : chn nx 42 47 P 40 (P p) = r := by rw [← he, show 40 - i = 0 by omega]; rfl
      rw [hx] -- go
      refine wp_iload_n (pc := 82) dX7_readProduct_82 rfl ?_
      first | exact wp_z1 (pc := 83) dX7_readProduct_83 rfl (Nat.le_refl 0) (Nat.le_refl 0) (by omega) ⟨k', hS⟩ | exact wp_z0 (pc := 83) dX7_readProduct_83 rfl (Nat.le_refl 0) (Nat.le_refl 0) (by omega) ⟨k', hS⟩ | exact wp_zb (pc := 83) dX7_readProduct_83 rfl (Nat.le_refl 0) (Nat.le_refl 0) Iff.rfl ⟨k', hS⟩
    ·
      refine wp_iload_n (pc := 14) dX7_readProduct_14 rfl ?_
      first | refine wp_ifb_eq (pc := 15) 82 dX7_readProduct_15 (by decide) (fun c15 => ?_) (fun c15 => ?_) | refine wp_if_eq (pc := 15) 82 dX7_readProduct_15 (by decide) (by omega) (fun c15 => ?_) (fun c15 => ?_)
      ·
        have hx : chn nx 42 47 P 40 (P p) = r := by rw [← he]; exact chn_stop (fun z => c15 z.1) _
        rw [hx] -- go
        refine wp_iload_n (pc := 82) dX7_readProduct_82 rfl ?_
        first | exact wp_z1 (pc := 83) dX7_readProduct_83 rfl (Nat.le_refl 0) (Nat.le_refl 0) (by omega) ⟨k', hS⟩ | exact wp_z0 (pc := 83) dX7_readProduct_83 rfl (Nat.le_refl 0) (Nat.le_refl 0) (by omega) ⟨k', hS⟩ | exact wp_zb (pc := 83) dX7_readProduct_83 rfl (Nat.le_refl 0) (Nat.le_refl 0) Iff.rfl ⟨k', hS⟩
      ·
        refine wp_aload_n (pc := 18) dX7_readProduct_18 rfl ?_
        refine wp_Vp (pc := 19) dX7_readProduct_19 cl_X7_68 (sp_Rule_next k' hn) rfl rfl (by repeat (first | assumption | exact hset_eq | refine hset_at (by omega) ?_)) (by rfl) (rm_ok (by omega) (by decide)) (Nat.le_of_ble_eq_true rfl) ?_
        refine wp_bipush (pc := 22) (y := 42) dX7_readProduct_22 (by decide) ?_
        refine wp_icmp_eq (pc := 24) 36 dX7_readProduct_24 (by decide) (by omega) (by omega) (fun c24 => ?_) (fun c24 => ?_)
        ·
          have hop : nx r.2.1 = 42 ∨ nx r.2.1 = 47 := by omega
          have hst : chn nx 42 47 P (40 - (i + 1)) (jnr (nx r.2.1) r (P (r.2.1 + 1))) = chn nx 42 47 P 40 (P p) := by rw [← he, show 40 - i = (40 - (i + 1)) + 1 by omega]; exact (if_pos ⟨c15, hop⟩).symm
          have hg := hG (r.2.1 + 1) (hlt (by omega))
          refine wp_aload_n (pc := 36) dX7_readProduct_36 rfl ?_
          refine wp_Vp (pc := 37) dX7_readProduct_37 cl_X7_68 (sp_Rule_next k' hn) rfl rfl (by repeat (first | assumption | exact hset_eq | refine hset_at (by omega) ?_)) (by rfl) (rm_ok (by omega) (by decide)) (Nat.le_of_ble_eq_true rfl) ?_
          refine wp_istore (pc := 40) dX7_readProduct_40 (by decide) ?_
          refine wp_aload_n (pc := 42) dX7_readProduct_42 rfl ?_
          refine wp_dup (pc := 43) dX7_readProduct_43 rfl ?_
          refine wp_getf (pc := 44) dX7_readProduct_44 gf_X7_47 (by repeat (first | assumption | exact hset_eq | refine hset_at (by omega) ?_)) (by rfl) ?_
          refine wp_iconst (pc := 47) dX7_readProduct_47 ?_
          refine wp_iadd (pc := 48) dX7_readProduct_48 ?_
          refine wp_putf (pc := 49) dX7_readProduct_49 pf_X7_47 (by repeat (first | assumption | exact hset_eq | refine hset_at (by omega) ?_)) (by first | decide | exact Nat.lt_of_sub_pos (by decide) | simp) rfl rfl (by first | decide | intro h; cases h) ?_
          refine wp_aload_n (pc := 52) dX7_readProduct_52 rfl ?_
          refine wp_iload_n (pc := 53) dX7_readProduct_53 rfl ?_
          refine wp_Vs (pc := 54) dX7_readProduct_54 cl_X7_77 (hP _ (r.2.1 + 1) (cs ++ r.2.2) ⟨Sg, St, Sk, s, hset_eq, (by repeat (first | assumption | exact hset_eq | refine hset_at (by omega) ?_)), (by repeat (first | assumption | exact hset_eq | refine hset_at (by omega) ?_)), (by repeat (first | assumption | exact hset_eq | refine hset_at (by omega) ?_)), hl, hlt (by omega), by omega, hSg, hSt, hs, hSk⟩) rfl rfl (by repeat (first | assumption | exact hset_eq | refine hset_at (by omega) ?_)) (by rfl) (rm_ok (by omega) (by decide)) (Nat.le_of_ble_eq_true rfl) (fun hp54 e54 => ?_)
          obtain ⟨k2, s2⟩ := e54
          have s3 : SO hp hp54 R (R + 4) := hS.tr (SO.tr (by repeat (first | exact SO.rf | assumption | refine SO.set ?_ (by omega) (by omega))) s2)
          have k2' := k2
          obtain ⟨Sg2, St2, Sk2, s2', q0, q1, q2, q3, ql, qpl, qc, qSg, qSt, qs, qSk⟩ := k2
          first | refine wp_ifb_eq (pc := 57) 74 dX7_readProduct_57 (by decide) (fun c57 => ?_) (fun c57 => ?_) | refine wp_if_eq (pc := 57) 74 dX7_readProduct_57 (by decide) (by omega) (fun c57 => ?_) (fun c57 => ?_)
          ·
            refine wp_iconst (pc := 74) dX7_readProduct_74 ?_
            refine wp_topB (q := (P (r.2.1 + 1)).1 = true) (if_neg c57).symm ?_
            have k5 : RdAt hp54 R ln nx (jnr (nx r.2.1) r (P (r.2.1 + 1))).2.1 (cs ++ (jnr (nx r.2.1) r (P (r.2.1 + 1))).2.2) := by
              simp only [jnr, if_neg c57, List.append_nil]
              simpa only [List.append_assoc] using k2'
            have s5 := s3
            refine wp_istore_n (pc := 75) dX7_readProduct_75 (by decide) ?_
            refine wp_iinc (pc := 76) dX7_readProduct_76 rfl (by decide) ?_
            refine wp_goto (pc := 79) 8 dX7_readProduct_79 (by decide) ?_
            refine wp_ls ?_ (ih (i + 1) (by omega) (by omega) _ _ k5 s5 hst)
            repeat' (first | exact LE_0 | refine LE_s rfl ?_ | refine LE_s (I_c (by first | omega | (simp only [sm]; omega))) ?_ | refine LE_s (J_c (by first | omega | exact Int.pow_succ _ _ | exact (Int.pow_succ _ _).symm | exact (Int.pow_zero _).symm | (simp only [sm]; omega))) ?_ | refine LE_n ?_)
          ·
            refine wp_aload_n (pc := 60) dX7_readProduct_60 rfl ?_
            refine wp_iload (pc := 61) dX7_readProduct_61 rfl ?_
            refine wp_ineg (pc := 63) dX7_readProduct_63 ?_
            refine wp_Vs (pc := 64) dX7_readProduct_64 cl_X7_71 (sp_Rule_put k2' (by rw [List.length_append]; omega)) rfl rfl q0 (by rfl) (rm_ok (by omega) (by decide)) (Nat.le_of_ble_eq_true rfl) (fun hp64 e64 => ?_)
            first | refine wp_ifb_eq (pc := 67) 74 dX7_readProduct_67 (by decide) (fun c67 => ?_) (fun c67 => ?_) | refine wp_if_eq (pc := 67) 74 dX7_readProduct_67 (by decide) (by omega) (fun c67 => ?_) (fun c67 => ?_)
            ·
              exact absurd trivial c67
            ·
              refine wp_iconst (pc := 70) dX7_readProduct_70 ?_
              refine wp_topB (q := (P (r.2.1 + 1)).1 = true) (if_pos c57).symm ?_
              have k5 : RdAt hp64 R ln nx (jnr (nx r.2.1) r (P (r.2.1 + 1))).2.1 (cs ++ (jnr (nx r.2.1) r (P (r.2.1 + 1))).2.2) := by
                have z := e64.1
                simp only [jnr, if_pos c57]
                simpa only [List.append_assoc] using z
              have s5 := s3.tr e64.2
              refine wp_goto (pc := 71) 75 dX7_readProduct_71 (by decide) ?_
              refine wp_istore_n (pc := 75) dX7_readProduct_75 (by decide) ?_
              refine wp_iinc (pc := 76) dX7_readProduct_76 rfl (by decide) ?_
              refine wp_goto (pc := 79) 8 dX7_readProduct_79 (by decide) ?_
              refine wp_ls ?_ (ih (i + 1) (by omega) (by omega) _ _ k5 s5 hst)
              repeat' (first | exact LE_0 | refine LE_s rfl ?_ | refine LE_s (I_c (by first | omega | (simp only [sm]; omega))) ?_ | refine LE_s (J_c (by first | omega | exact Int.pow_succ _ _ | exact (Int.pow_succ _ _).symm | exact (Int.pow_zero _).symm | (simp only [sm]; omega))) ?_ | refine LE_n ?_)
        ·
          refine wp_aload_n (pc := 27) dX7_readProduct_27 rfl ?_
          refine wp_Vp (pc := 28) dX7_readProduct_28 cl_X7_68 (sp_Rule_next k' hn) rfl rfl (by repeat (first | assumption | exact hset_eq | refine hset_at (by omega) ?_)) (by rfl) (rm_ok (by omega) (by decide)) (Nat.le_of_ble_eq_true rfl) ?_
          refine wp_bipush (pc := 31) (y := 47) dX7_readProduct_31 (by decide) ?_
          refine wp_icmp_ne (pc := 33) 82 dX7_readProduct_33 (by decide) (by omega) (by omega) (fun c33 => ?_) (fun c33 => ?_)
          ·
            have hx : chn nx 42 47 P 40 (P p) = r := by rw [← he]; exact chn_stop (fun z => by omega) _
            rw [hx] -- go
            refine wp_iload_n (pc := 82) dX7_readProduct_82 rfl ?_
            first | exact wp_z1 (pc := 83) dX7_readProduct_83 rfl (Nat.le_refl 0) (Nat.le_refl 0) (by omega) ⟨k', hS⟩ | exact wp_z0 (pc := 83) dX7_readProduct_83 rfl (Nat.le_refl 0) (Nat.le_refl 0) (by omega) ⟨k', hS⟩ | exact wp_zb (pc := 83) dX7_readProduct_83 rfl (Nat.le_refl 0) (Nat.le_refl 0) Iff.rfl ⟨k', hS⟩
          ·
            have hop : nx r.2.1 = 42 ∨ nx r.2.1 = 47 := by omega
            have hst : chn nx 42 47 P (40 - (i + 1)) (jnr (nx r.2.1) r (P (r.2.1 + 1))) = chn nx 42 47 P 40 (P p) := by rw [← he, show 40 - i = (40 - (i + 1)) + 1 by omega]; exact (if_pos ⟨c15, hop⟩).symm
            have hg := hG (r.2.1 + 1) (hlt (by omega))
            refine wp_aload_n (pc := 36) dX7_readProduct_36 rfl ?_
            refine wp_Vp (pc := 37) dX7_readProduct_37 cl_X7_68 (sp_Rule_next k' hn) rfl rfl (by repeat (first | assumption | exact hset_eq | refine hset_at (by omega) ?_)) (by rfl) (rm_ok (by omega) (by decide)) (Nat.le_of_ble_eq_true rfl) ?_
            refine wp_istore (pc := 40) dX7_readProduct_40 (by decide) ?_
            refine wp_aload_n (pc := 42) dX7_readProduct_42 rfl ?_
            refine wp_dup (pc := 43) dX7_readProduct_43 rfl ?_
            refine wp_getf (pc := 44) dX7_readProduct_44 gf_X7_47 (by repeat (first | assumption | exact hset_eq | refine hset_at (by omega) ?_)) (by rfl) ?_
            refine wp_iconst (pc := 47) dX7_readProduct_47 ?_
            refine wp_iadd (pc := 48) dX7_readProduct_48 ?_
            refine wp_putf (pc := 49) dX7_readProduct_49 pf_X7_47 (by repeat (first | assumption | exact hset_eq | refine hset_at (by omega) ?_)) (by first | decide | exact Nat.lt_of_sub_pos (by decide) | simp) rfl rfl (by first | decide | intro h; cases h) ?_
            refine wp_aload_n (pc := 52) dX7_readProduct_52 rfl ?_
            refine wp_iload_n (pc := 53) dX7_readProduct_53 rfl ?_
            refine wp_Vs (pc := 54) dX7_readProduct_54 cl_X7_77 (hP _ (r.2.1 + 1) (cs ++ r.2.2) ⟨Sg, St, Sk, s, hset_eq, (by repeat (first | assumption | exact hset_eq | refine hset_at (by omega) ?_)), (by repeat (first | assumption | exact hset_eq | refine hset_at (by omega) ?_)), (by repeat (first | assumption | exact hset_eq | refine hset_at (by omega) ?_)), hl, hlt (by omega), by omega, hSg, hSt, hs, hSk⟩) rfl rfl (by repeat (first | assumption | exact hset_eq | refine hset_at (by omega) ?_)) (by rfl) (rm_ok (by omega) (by decide)) (Nat.le_of_ble_eq_true rfl) (fun hp54 e54 => ?_)
            obtain ⟨k2, s2⟩ := e54
            have s3 : SO hp hp54 R (R + 4) := hS.tr (SO.tr (by repeat (first | exact SO.rf | assumption | refine SO.set ?_ (by omega) (by omega))) s2)
            have k2' := k2
            obtain ⟨Sg2, St2, Sk2, s2', q0, q1, q2, q3, ql, qpl, qc, qSg, qSt, qs, qSk⟩ := k2
            first | refine wp_ifb_eq (pc := 57) 74 dX7_readProduct_57 (by decide) (fun c57 => ?_) (fun c57 => ?_) | refine wp_if_eq (pc := 57) 74 dX7_readProduct_57 (by decide) (by omega) (fun c57 => ?_) (fun c57 => ?_)
            ·
              refine wp_iconst (pc := 74) dX7_readProduct_74 ?_
              refine wp_topB (q := (P (r.2.1 + 1)).1 = true) (if_neg c57).symm ?_
              have k5 : RdAt hp54 R ln nx (jnr (nx r.2.1) r (P (r.2.1 + 1))).2.1 (cs ++ (jnr (nx r.2.1) r (P (r.2.1 + 1))).2.2) := by
                simp only [jnr, if_neg c57, List.append_nil]
                simpa only [List.append_assoc] using k2'
              have s5 := s3
              refine wp_istore_n (pc := 75) dX7_readProduct_75 (by decide) ?_
              refine wp_iinc (pc := 76) dX7_readProduct_76 rfl (by decide) ?_
              refine wp_goto (pc := 79) 8 dX7_readProduct_79 (by decide) ?_
              refine wp_ls ?_ (ih (i + 1) (by omega) (by omega) _ _ k5 s5 hst)
              repeat' (first | exact LE_0 | refine LE_s rfl ?_ | refine LE_s (I_c (by first | omega | (simp only [sm]; omega))) ?_ | refine LE_s (J_c (by first | omega | exact Int.pow_succ _ _ | exact (Int.pow_succ _ _).symm | exact (Int.pow_zero _).symm | (simp only [sm]; omega))) ?_ | refine LE_n ?_)
            ·
              refine wp_aload_n (pc := 60) dX7_readProduct_60 rfl ?_
              refine wp_iload (pc := 61) dX7_readProduct_61 rfl ?_
              refine wp_ineg (pc := 63) dX7_readProduct_63 ?_
              refine wp_Vs (pc := 64) dX7_readProduct_64 cl_X7_71 (sp_Rule_put k2' (by rw [List.length_append]; omega)) rfl rfl q0 (by rfl) (rm_ok (by omega) (by decide)) (Nat.le_of_ble_eq_true rfl) (fun hp64 e64 => ?_)
              first | refine wp_ifb_eq (pc := 67) 74 dX7_readProduct_67 (by decide) (fun c67 => ?_) (fun c67 => ?_) | refine wp_if_eq (pc := 67) 74 dX7_readProduct_67 (by decide) (by omega) (fun c67 => ?_) (fun c67 => ?_)
              ·
                exact absurd trivial c67
              ·
                refine wp_iconst (pc := 70) dX7_readProduct_70 ?_
                refine wp_topB (q := (P (r.2.1 + 1)).1 = true) (if_pos c57).symm ?_
                have k5 : RdAt hp64 R ln nx (jnr (nx r.2.1) r (P (r.2.1 + 1))).2.1 (cs ++ (jnr (nx r.2.1) r (P (r.2.1 + 1))).2.2) := by
                  have z := e64.1
                  simp only [jnr, if_pos c57]
                  simpa only [List.append_assoc] using z
                have s5 := s3.tr e64.2
                refine wp_goto (pc := 71) 75 dX7_readProduct_71 (by decide) ?_
                refine wp_istore_n (pc := 75) dX7_readProduct_75 (by decide) ?_
                refine wp_iinc (pc := 76) dX7_readProduct_76 rfl (by decide) ?_
                refine wp_goto (pc := 79) 8 dX7_readProduct_79 (by decide) ?_
                refine wp_ls ?_ (ih (i + 1) (by omega) (by omega) _ _ k5 s5 hst)
                repeat' (first | exact LE_0 | refine LE_s rfl ?_ | refine LE_s (I_c (by first | omega | (simp only [sm]; omega))) ?_ | refine LE_s (J_c (by first | omega | exact Int.pow_succ _ _ | exact (Int.pow_succ _ _).symm | exact (Int.pow_zero _).symm | (simp only [sm]; omega))) ?_ | refine LE_n ?_)
theorem sp_Rule_readProduct (hn : NX nx ln) {T : Nat → PR} (hP : RdE g R ln nx MX7_readSigned (5*L+7) (pG nx T) dep) (hT : GP ln T) (k : RdAt hp R ln nx p cs) : Sp g MX7_readProduct (rm (5*L+8) 0 0) [.ref R, .int (I dep)] hp (Eff (.int (B ((pP nx T p).1 = true))) (fun hp2 => RdAt hp2 R ln nx (pP nx T p).2.1 (cs ++ (pP nx T p).2.2) ∧ SO hp hp2 R (R + 4))) := by
  have k' := k
  obtain ⟨Sg, St, Sk, s, r0, r1, r2, r3, hl, hpl, hc', hSg, hSt, hs, hSk⟩ := k
  refine Sp_mk rfl (Nat.le_of_ble_eq_true rfl) ?_
  show wp g _ _ _ 0 0 0 [some (.ref R), some (.int (I dep)), none, none, none] [] hp
  refine wp_aload_n (pc := 0) dX7_readProduct_0 rfl ?_
  refine wp_iload_n (pc := 1) dX7_readProduct_1 rfl ?_
  refine wp_Vs (pc := 2) dX7_readProduct_2 cl_X7_77 (hP _ p cs k') rfl rfl (by repeat (first | assumption | exact hset_eq | refine hset_at (by omega) ?_)) (by rfl) (rm_ok (by omega) (by decide)) (Nat.le_of_ble_eq_true rfl) (fun hp2 e2 => ?_)
  refine wp_istore_n (pc := 5) dX7_readProduct_5 (by decide) ?_
  refine wp_iconst (pc := 6) dX7_readProduct_6 ?_
  refine wp_istore_n (pc := 7) dX7_readProduct_7 (by decide) ?_
  refine wp_ls ?_ (lp_prd hn hP (GP_G hn hT) 41 0 (by omega) (by omega) _ _ e2.1 e2.2 rfl)
  repeat' (first | exact LE_0 | refine LE_s rfl ?_ | refine LE_s (I_c (by first | omega | (simp only [sm]; omega))) ?_ | refine LE_s (J_c (by first | omega | exact Int.pow_succ _ _ | exact (Int.pow_succ _ _).symm | exact (Int.pow_zero _).symm | (simp only [sm]; omega))) ?_ | refine LE_n ?_)
theorem lp_sum (hn : NX nx ln) {P : Nat → PR} (hP : RdE g R ln nx MX7_readProduct (5*L+8) P dep) (hG : GP ln P) : ∀ (m i : Nat), 40 < i + m → i ≤ 40 → ∀ (hp2 : Hp) (r : PR) (k : RdAt hp2 R ln nx r.2.1 (cs ++ r.2.2)) (hS : SO hp hp2 R (R + 4)) (he : chn nx 43 45 P (40 - i) r = chn nx 43 45 P 40 (P p)), wp g MX7_readSum (rm (5*L+9) 0 0) (Eff (.int (B ((chn nx 43 45 P 40 (P p)).1 = true))) (fun hp2 => RdAt hp2 R ln nx (chn nx 43 45 P 40 (P p)).2.1 (cs ++ (chn nx 43 45 P 40 (P p)).2.2) ∧ SO hp hp2 R (R + 4))) 0 0 8 [some (.ref R), some (.int (I dep)), some (.int (B (r.1 = true))), some (.int (I (i : Int))), none] [] hp2 := by
  intro m
  induction m with
  | zero => intro i h1 h2; exact absurd h1 (by omega)
  | succ m ih =>
    intro i h1 h2 hp2 r k hS he
    have k' := k
    obtain ⟨Sg, St, Sk, s, r0, r1, r2, r3, hl, hpl, hc', hSg, hSt, hs, hSk⟩ := k
    have hr := (hn.2 r.2.1).2
    have hlt := hn.lt (p := r.2.1)
    refine wp_iload_n (pc := 8) dX7_readSum_8 rfl ?_
    refine wp_bipush (pc := 9) (y := 40) dX7_readSum_9 (by decide) ?_
    refine wp_icmp_ge (pc := 11) 82 dX7_readSum_11 (by decide) (by omega) (by omega) (fun c11 => ?_) (fun c11 => ?_)
    ·
      have hx : chn nx 43 45 P 40 (P p) = r := by rw [← he, show 40 - i = 0 by omega]; rfl
      rw [hx] -- go
      refine wp_iload_n (pc := 82) dX7_readSum_82 rfl ?_
      first | exact wp_z1 (pc := 83) dX7_readSum_83 rfl (Nat.le_refl 0) (Nat.le_refl 0) (by omega) ⟨k', hS⟩ | exact wp_z0 (pc := 83) dX7_readSum_83 rfl (Nat.le_refl 0) (Nat.le_refl 0) (by omega) ⟨k', hS⟩ | exact wp_zb (pc := 83) dX7_readSum_83 rfl (Nat.le_refl 0) (Nat.le_refl 0) Iff.rfl ⟨k', hS⟩
    ·
      refine wp_iload_n (pc := 14) dX7_readSum_14 rfl ?_
      first | refine wp_ifb_eq (pc := 15) 82 dX7_readSum_15 (by decide) (fun c15 => ?_) (fun c15 => ?_) | refine wp_if_eq (pc := 15) 82 dX7_readSum_15 (by decide) (by omega) (fun c15 => ?_) (fun c15 => ?_)
      ·
        have hx : chn nx 43 45 P 40 (P p) = r := by rw [← he]; exact chn_stop (fun z => c15 z.1) _
        rw [hx] -- go
        refine wp_iload_n (pc := 82) dX7_readSum_82 rfl ?_
        first | exact wp_z1 (pc := 83) dX7_readSum_83 rfl (Nat.le_refl 0) (Nat.le_refl 0) (by omega) ⟨k', hS⟩ | exact wp_z0 (pc := 83) dX7_readSum_83 rfl (Nat.le_refl 0) (Nat.le_refl 0) (by omega) ⟨k', hS⟩ | exact wp_zb (pc := 83) dX7_readSum_83 rfl (Nat.le_refl 0) (Nat.le_refl 0) Iff.rfl ⟨k', hS⟩
      ·
        refine wp_aload_n (pc := 18) dX7_readSum_18 rfl ?_
        refine wp_Vp (pc := 19) dX7_readSum_19 cl_X7_68 (sp_Rule_next k' hn) rfl rfl (by repeat (first | assumption | exact hset_eq | refine hset_at (by omega) ?_)) (by rfl) (rm_ok (by omega) (by decide)) (Nat.le_of_ble_eq_true rfl) ?_
        refine wp_bipush (pc := 22) (y := 43) dX7_readSum_22 (by decide) ?_
        refine wp_icmp_eq (pc := 24) 36 dX7_readSum_24 (by decide) (by omega) (by omega) (fun c24 => ?_) (fun c24 => ?_)
        ·
          have hop : nx r.2.1 = 43 ∨ nx r.2.1 = 45 := by omega
          have hst : chn nx 43 45 P (40 - (i + 1)) (jnr (nx r.2.1) r (P (r.2.1 + 1))) = chn nx 43 45 P 40 (P p) := by rw [← he, show 40 - i = (40 - (i + 1)) + 1 by omega]; exact (if_pos ⟨c15, hop⟩).symm
          have hg := hG (r.2.1 + 1) (hlt (by omega))
          refine wp_aload_n (pc := 36) dX7_readSum_36 rfl ?_
          refine wp_Vp (pc := 37) dX7_readSum_37 cl_X7_68 (sp_Rule_next k' hn) rfl rfl (by repeat (first | assumption | exact hset_eq | refine hset_at (by omega) ?_)) (by rfl) (rm_ok (by omega) (by decide)) (Nat.le_of_ble_eq_true rfl) ?_
          refine wp_istore (pc := 40) dX7_readSum_40 (by decide) ?_
          refine wp_aload_n (pc := 42) dX7_readSum_42 rfl ?_
          refine wp_dup (pc := 43) dX7_readSum_43 rfl ?_
          refine wp_getf (pc := 44) dX7_readSum_44 gf_X7_47 (by repeat (first | assumption | exact hset_eq | refine hset_at (by omega) ?_)) (by rfl) ?_
          refine wp_iconst (pc := 47) dX7_readSum_47 ?_
          refine wp_iadd (pc := 48) dX7_readSum_48 ?_
          refine wp_putf (pc := 49) dX7_readSum_49 pf_X7_47 (by repeat (first | assumption | exact hset_eq | refine hset_at (by omega) ?_)) (by first | decide | exact Nat.lt_of_sub_pos (by decide) | simp) rfl rfl (by first | decide | intro h; cases h) ?_
          refine wp_aload_n (pc := 52) dX7_readSum_52 rfl ?_
          refine wp_iload_n (pc := 53) dX7_readSum_53 rfl ?_
          refine wp_Vs (pc := 54) dX7_readSum_54 cl_X7_74 (hP _ (r.2.1 + 1) (cs ++ r.2.2) ⟨Sg, St, Sk, s, hset_eq, (by repeat (first | assumption | exact hset_eq | refine hset_at (by omega) ?_)), (by repeat (first | assumption | exact hset_eq | refine hset_at (by omega) ?_)), (by repeat (first | assumption | exact hset_eq | refine hset_at (by omega) ?_)), hl, hlt (by omega), by omega, hSg, hSt, hs, hSk⟩) rfl rfl (by repeat (first | assumption | exact hset_eq | refine hset_at (by omega) ?_)) (by rfl) (rm_ok (by omega) (by decide)) (Nat.le_of_ble_eq_true rfl) (fun hp54 e54 => ?_)
          obtain ⟨k2, s2⟩ := e54
          have s3 : SO hp hp54 R (R + 4) := hS.tr (SO.tr (by repeat (first | exact SO.rf | assumption | refine SO.set ?_ (by omega) (by omega))) s2)
          have k2' := k2
          obtain ⟨Sg2, St2, Sk2, s2', q0, q1, q2, q3, ql, qpl, qc, qSg, qSt, qs, qSk⟩ := k2
          first | refine wp_ifb_eq (pc := 57) 74 dX7_readSum_57 (by decide) (fun c57 => ?_) (fun c57 => ?_) | refine wp_if_eq (pc := 57) 74 dX7_readSum_57 (by decide) (by omega) (fun c57 => ?_) (fun c57 => ?_)
          ·
            refine wp_iconst (pc := 74) dX7_readSum_74 ?_
            refine wp_topB (q := (P (r.2.1 + 1)).1 = true) (if_neg c57).symm ?_
            have k5 : RdAt hp54 R ln nx (jnr (nx r.2.1) r (P (r.2.1 + 1))).2.1 (cs ++ (jnr (nx r.2.1) r (P (r.2.1 + 1))).2.2) := by
              simp only [jnr, if_neg c57, List.append_nil]
              simpa only [List.append_assoc] using k2'
            have s5 := s3
            refine wp_istore_n (pc := 75) dX7_readSum_75 (by decide) ?_
            refine wp_iinc (pc := 76) dX7_readSum_76 rfl (by decide) ?_
            refine wp_goto (pc := 79) 8 dX7_readSum_79 (by decide) ?_
            refine wp_ls ?_ (ih (i + 1) (by omega) (by omega) _ _ k5 s5 hst)
            repeat' (first | exact LE_0 | refine LE_s rfl ?_ | refine LE_s (I_c (by first | omega | (simp only [sm]; omega))) ?_ | refine LE_s (J_c (by first | omega | exact Int.pow_succ _ _ | exact (Int.pow_succ _ _).symm | exact (Int.pow_zero _).symm | (simp only [sm]; omega))) ?_ | refine LE_n ?_)
          ·
            refine wp_aload_n (pc := 60) dX7_readSum_60 rfl ?_
            refine wp_iload (pc := 61) dX7_readSum_61 rfl ?_
            refine wp_ineg (pc := 63) dX7_readSum_63 ?_
            refine wp_Vs (pc := 64) dX7_readSum_64 cl_X7_71 (sp_Rule_put k2' (by rw [List.length_append]; omega)) rfl rfl q0 (by rfl) (rm_ok (by omega) (by decide)) (Nat.le_of_ble_eq_true rfl) (fun hp64 e64 => ?_)
            first | refine wp_ifb_eq (pc := 67) 74 dX7_readSum_67 (by decide) (fun c67 => ?_) (fun c67 => ?_) | refine wp_if_eq (pc := 67) 74 dX7_readSum_67 (by decide) (by omega) (fun c67 => ?_) (fun c67 => ?_)
            ·
              exact absurd trivial c67
            ·
              refine wp_iconst (pc := 70) dX7_readSum_70 ?_
              refine wp_topB (q := (P (r.2.1 + 1)).1 = true) (if_pos c57).symm ?_
              have k5 : RdAt hp64 R ln nx (jnr (nx r.2.1) r (P (r.2.1 + 1))).2.1 (cs ++ (jnr (nx r.2.1) r (P (r.2.1 + 1))).2.2) := by
                have z := e64.1
                simp only [jnr, if_pos c57]
                simpa only [List.append_assoc] using z
              have s5 := s3.tr e64.2
              refine wp_goto (pc := 71) 75 dX7_readSum_71 (by decide) ?_
              refine wp_istore_n (pc := 75) dX7_readSum_75 (by decide) ?_
              refine wp_iinc (pc := 76) dX7_readSum_76 rfl (by decide) ?_
              refine wp_goto (pc := 79) 8 dX7_readSum_79 (by decide) ?_
              refine wp_ls ?_ (ih (i + 1) (by omega) (by omega) _ _ k5 s5 hst)
              repeat' (first | exact LE_0 | refine LE_s rfl ?_ | refine LE_s (I_c (by first | omega | (simp only [sm]; omega))) ?_ | refine LE_s (J_c (by first | omega | exact Int.pow_succ _ _ | exact (Int.pow_succ _ _).symm | exact (Int.pow_zero _).symm | (simp only [sm]; omega))) ?_ | refine LE_n ?_)
        ·
          refine wp_aload_n (pc := 27) dX7_readSum_27 rfl ?_
          refine wp_Vp (pc := 28) dX7_readSum_28 cl_X7_68 (sp_Rule_next k' hn) rfl rfl (by repeat (first | assumption | exact hset_eq | refine hset_at (by omega) ?_)) (by rfl) (rm_ok (by omega) (by decide)) (Nat.le_of_ble_eq_true rfl) ?_
          refine wp_bipush (pc := 31) (y := 45) dX7_readSum_31 (by decide) ?_
          refine wp_icmp_ne (pc := 33) 82 dX7_readSum_33 (by decide) (by omega) (by omega) (fun c33 => ?_) (fun c33 => ?_)
          ·
            have hx : chn nx 43 45 P 40 (P p) = r := by rw [← he]; exact chn_stop (fun z => by omega) _
            rw [hx] -- go
            refine wp_iload_n (pc := 82) dX7_readSum_82 rfl ?_
            first | exact wp_z1 (pc := 83) dX7_readSum_83 rfl (Nat.le_refl 0) (Nat.le_refl 0) (by omega) ⟨k', hS⟩ | exact wp_z0 (pc := 83) dX7_readSum_83 rfl (Nat.le_refl 0) (Nat.le_refl 0) (by omega) ⟨k', hS⟩ | exact wp_zb (pc := 83) dX7_readSum_83 rfl (Nat.le_refl 0) (Nat.le_refl 0) Iff.rfl ⟨k', hS⟩
          ·
            have hop : nx r.2.1 = 43 ∨ nx r.2.1 = 45 := by omega
            have hst : chn nx 43 45 P (40 - (i + 1)) (jnr (nx r.2.1) r (P (r.2.1 + 1))) = chn nx 43 45 P 40 (P p) := by rw [← he, show 40 - i = (40 - (i + 1)) + 1 by omega]; exact (if_pos ⟨c15, hop⟩).symm
            have hg := hG (r.2.1 + 1) (hlt (by omega))
            refine wp_aload_n (pc := 36) dX7_readSum_36 rfl ?_
            refine wp_Vp (pc := 37) dX7_readSum_37 cl_X7_68 (sp_Rule_next k' hn) rfl rfl (by repeat (first | assumption | exact hset_eq | refine hset_at (by omega) ?_)) (by rfl) (rm_ok (by omega) (by decide)) (Nat.le_of_ble_eq_true rfl) ?_
            refine wp_istore (pc := 40) dX7_readSum_40 (by decide) ?_
            refine wp_aload_n (pc := 42) dX7_readSum_42 rfl ?_
            refine wp_dup (pc := 43) dX7_readSum_43 rfl ?_
            refine wp_getf (pc := 44) dX7_readSum_44 gf_X7_47 (by repeat (first | assumption | exact hset_eq | refine hset_at (by omega) ?_)) (by rfl) ?_
            refine wp_iconst (pc := 47) dX7_readSum_47 ?_
            refine wp_iadd (pc := 48) dX7_readSum_48 ?_
            refine wp_putf (pc := 49) dX7_readSum_49 pf_X7_47 (by repeat (first | assumption | exact hset_eq | refine hset_at (by omega) ?_)) (by first | decide | exact Nat.lt_of_sub_pos (by decide) | simp) rfl rfl (by first | decide | intro h; cases h) ?_
            refine wp_aload_n (pc := 52) dX7_readSum_52 rfl ?_
            refine wp_iload_n (pc := 53) dX7_readSum_53 rfl ?_
            refine wp_Vs (pc := 54) dX7_readSum_54 cl_X7_74 (hP _ (r.2.1 + 1) (cs ++ r.2.2) ⟨Sg, St, Sk, s, hset_eq, (by repeat (first | assumption | exact hset_eq | refine hset_at (by omega) ?_)), (by repeat (first | assumption | exact hset_eq | refine hset_at (by omega) ?_)), (by repeat (first | assumption | exact hset_eq | refine hset_at (by omega) ?_)), hl, hlt (by omega), by omega, hSg, hSt, hs, hSk⟩) rfl rfl (by repeat (first | assumption | exact hset_eq | refine hset_at (by omega) ?_)) (by rfl) (rm_ok (by omega) (by decide)) (Nat.le_of_ble_eq_true rfl) (fun hp54 e54 => ?_)
            obtain ⟨k2, s2⟩ := e54
            have s3 : SO hp hp54 R (R + 4) := hS.tr (SO.tr (by repeat (first | exact SO.rf | assumption | refine SO.set ?_ (by omega) (by omega))) s2)
            have k2' := k2
            obtain ⟨Sg2, St2, Sk2, s2', q0, q1, q2, q3, ql, qpl, qc, qSg, qSt, qs, qSk⟩ := k2
            first | refine wp_ifb_eq (pc := 57) 74 dX7_readSum_57 (by decide) (fun c57 => ?_) (fun c57 => ?_) | refine wp_if_eq (pc := 57) 74 dX7_readSum_57 (by decide) (by omega) (fun c57 => ?_) (fun c57 => ?_)
            ·
              refine wp_iconst (pc := 74) dX7_readSum_74 ?_
              refine wp_topB (q := (P (r.2.1 + 1)).1 = true) (if_neg c57).symm ?_
              have k5 : RdAt hp54 R ln nx (jnr (nx r.2.1) r (P (r.2.1 + 1))).2.1 (cs ++ (jnr (nx r.2.1) r (P (r.2.1 + 1))).2.2) := by
                simp only [jnr, if_neg c57, List.append_nil]
                simpa only [List.append_assoc] using k2'
              have s5 := s3
              refine wp_istore_n (pc := 75) dX7_readSum_75 (by decide) ?_
              refine wp_iinc (pc := 76) dX7_readSum_76 rfl (by decide) ?_
              refine wp_goto (pc := 79) 8 dX7_readSum_79 (by decide) ?_
              refine wp_ls ?_ (ih (i + 1) (by omega) (by omega) _ _ k5 s5 hst)
              repeat' (first | exact LE_0 | refine LE_s rfl ?_ | refine LE_s (I_c (by first | omega | (simp only [sm]; omega))) ?_ | refine LE_s (J_c (by first | omega | exact Int.pow_succ _ _ | exact (Int.pow_succ _ _).symm | exact (Int.pow_zero _).symm | (simp only [sm]; omega))) ?_ | refine LE_n ?_)
            ·
              refine wp_aload_n (pc := 60) dX7_readSum_60 rfl ?_
              refine wp_iload (pc := 61) dX7_readSum_61 rfl ?_
              refine wp_ineg (pc := 63) dX7_readSum_63 ?_
              refine wp_Vs (pc := 64) dX7_readSum_64 cl_X7_71 (sp_Rule_put k2' (by rw [List.length_append]; omega)) rfl rfl q0 (by rfl) (rm_ok (by omega) (by decide)) (Nat.le_of_ble_eq_true rfl) (fun hp64 e64 => ?_)
              first | refine wp_ifb_eq (pc := 67) 74 dX7_readSum_67 (by decide) (fun c67 => ?_) (fun c67 => ?_) | refine wp_if_eq (pc := 67) 74 dX7_readSum_67 (by decide) (by omega) (fun c67 => ?_) (fun c67 => ?_)
              ·
                exact absurd trivial c67
              ·
                refine wp_iconst (pc := 70) dX7_readSum_70 ?_
                refine wp_topB (q := (P (r.2.1 + 1)).1 = true) (if_pos c57).symm ?_
                have k5 : RdAt hp64 R ln nx (jnr (nx r.2.1) r (P (r.2.1 + 1))).2.1 (cs ++ (jnr (nx r.2.1) r (P (r.2.1 + 1))).2.2) := by
                  have z := e64.1
                  simp only [jnr, if_pos c57]
                  simpa only [List.append_assoc] using z
                have s5 := s3.tr e64.2
                refine wp_goto (pc := 71) 75 dX7_readSum_71 (by decide) ?_
                refine wp_istore_n (pc := 75) dX7_readSum_75 (by decide) ?_
                refine wp_iinc (pc := 76) dX7_readSum_76 rfl (by decide) ?_
                refine wp_goto (pc := 79) 8 dX7_readSum_79 (by decide) ?_
                refine wp_ls ?_ (ih (i + 1) (by omega) (by omega) _ _ k5 s5 hst)
                repeat' (first | exact LE_0 | refine LE_s rfl ?_ | refine LE_s (I_c (by first | omega | (simp only [sm]; omega))) ?_ | refine LE_s (J_c (by first | omega | exact Int.pow_succ _ _ | exact (Int.pow_succ _ _).symm | exact (Int.pow_zero _).symm | (simp only [sm]; omega))) ?_ | refine LE_n ?_)
theorem sp_Rule_readSum (hn : NX nx ln) {T : Nat → PR} (hP : RdE g R ln nx MX7_readProduct (5*L+8) (pP nx T) dep) (hT : GP ln T) (k : RdAt hp R ln nx p cs) : Sp g MX7_readSum (rm (5*L+9) 0 0) [.ref R, .int (I dep)] hp (Eff (.int (B ((pS nx T p).1 = true))) (fun hp2 => RdAt hp2 R ln nx (pS nx T p).2.1 (cs ++ (pS nx T p).2.2) ∧ SO hp hp2 R (R + 4))) := by
  have k' := k
  obtain ⟨Sg, St, Sk, s, r0, r1, r2, r3, hl, hpl, hc', hSg, hSt, hs, hSk⟩ := k
  refine Sp_mk rfl (Nat.le_of_ble_eq_true rfl) ?_
  show wp g _ _ _ 0 0 0 [some (.ref R), some (.int (I dep)), none, none, none] [] hp
  refine wp_aload_n (pc := 0) dX7_readSum_0 rfl ?_
  refine wp_iload_n (pc := 1) dX7_readSum_1 rfl ?_
  refine wp_Vs (pc := 2) dX7_readSum_2 cl_X7_74 (hP _ p cs k') rfl rfl (by repeat (first | assumption | exact hset_eq | refine hset_at (by omega) ?_)) (by rfl) (rm_ok (by omega) (by decide)) (Nat.le_of_ble_eq_true rfl) (fun hp2 e2 => ?_)
  refine wp_istore_n (pc := 5) dX7_readSum_5 (by decide) ?_
  refine wp_iconst (pc := 6) dX7_readSum_6 ?_
  refine wp_istore_n (pc := 7) dX7_readSum_7 (by decide) ?_
  refine wp_ls ?_ (lp_sum hn hP (GP_P hn hT) 41 0 (by omega) (by omega) _ _ e2.1 e2.2 rfl)
  repeat' (first | exact LE_0 | refine LE_s rfl ?_ | refine LE_s (I_c (by first | omega | (simp only [sm]; omega))) ?_ | refine LE_s (J_c (by first | omega | exact Int.pow_succ _ _ | exact (Int.pow_succ _ _).symm | exact (Int.pow_zero _).symm | (simp only [sm]; omega))) ?_ | refine LE_n ?_)
theorem sp_Rule_readExpression (hn : NX nx ln) {T : Nat → PR} (hP : RdE g R ln nx MX7_readSum (5*L+9) (pS nx T) dep) (hT : GP ln T) (k : RdAt hp R ln nx p cs) : Sp g MX7_readExpression (rm (5*L+10) 0 0) [.ref R, .int (I dep)] hp (Eff (.int (B ((pX nx T p).1 = true))) (fun hp2 => RdAt hp2 R ln nx (pX nx T p).2.1 (cs ++ (pX nx T p).2.2) ∧ SO hp hp2 R (R + 4))) := by
  have k' := k
  obtain ⟨Sg, St, Sk, s, r0, r1, r2, r3, hl, hpl, hc', hSg, hSt, hs, hSk⟩ := k
  have hG := GP_S hn hT
  have hg0 := hG p hpl
  refine Sp_mk rfl (Nat.le_of_ble_eq_true rfl) ?_
  show wp g _ _ _ 0 0 0 [some (.ref R), some (.int (I dep)), none] [] hp
  refine wp_aload_n (pc := 0) dX7_readExpression_0 rfl ?_
  refine wp_iload_n (pc := 1) dX7_readExpression_1 rfl ?_
  refine wp_Vs (pc := 2) dX7_readExpression_2 cl_X7_65 (hP _ p cs k') rfl rfl (by repeat (first | assumption | exact hset_eq | refine hset_at (by omega) ?_)) (by rfl) (rm_ok (by omega) (by decide)) (Nat.le_of_ble_eq_true rfl) (fun hp2 e2 => ?_)
  obtain ⟨k2, s2⟩ := e2
  have k2' := k2
  obtain ⟨Sg2, St2, Sk2, s2', q0, q1, q2, q3, ql, qpl, qc, qSg, qSt, qs, qSk⟩ := k2
  have hr := (hn.2 (pS nx T p).2.1).2
  have hlt := hn.lt (p := (pS nx T p).2.1)
  first | refine wp_ifb_ne (pc := 5) 10 dX7_readExpression_5 (by decide) (fun c5 => ?_) (fun c5 => ?_) | refine wp_if_ne (pc := 5) 10 dX7_readExpression_5 (by decide) (by omega) (fun c5 => ?_) (fun c5 => ?_)
  ·
    refine wp_aload_n (pc := 10) dX7_readExpression_10 rfl ?_
    refine wp_Vp (pc := 11) dX7_readExpression_11 cl_X7_68 (sp_Rule_next k2' hn) rfl rfl (by repeat (first | assumption | exact hset_eq | refine hset_at (by omega) ?_)) (by rfl) (rm_ok (by omega) (by decide)) (Nat.le_of_ble_eq_true rfl) ?_
    refine wp_istore_n (pc := 14) dX7_readExpression_14 (by decide) ?_
    refine wp_iload_n (pc := 15) dX7_readExpression_15 rfl ?_
    refine wp_bipush (pc := 16) (y := 60) dX7_readExpression_16 (by decide) ?_
    refine wp_icmp_eq (pc := 18) 35 dX7_readExpression_18 (by decide) (by omega) (by omega) (fun c18 => ?_) (fun c18 => ?_)
    ·
      unfold pX
      rw [if_pos ⟨c5, by omega⟩]
      have hg := hG ((pS nx T p).2.1 + 1) (hlt (by omega))
      refine wp_aload_n (pc := 35) dX7_readExpression_35 rfl ?_
      refine wp_dup (pc := 36) dX7_readExpression_36 rfl ?_
      refine wp_getf (pc := 37) dX7_readExpression_37 gf_X7_47 (by repeat (first | assumption | exact hset_eq | refine hset_at (by omega) ?_)) (by rfl) ?_
      refine wp_iconst (pc := 40) dX7_readExpression_40 ?_
      refine wp_iadd (pc := 41) dX7_readExpression_41 ?_
      refine wp_putf (pc := 42) dX7_readExpression_42 pf_X7_47 (by repeat (first | assumption | exact hset_eq | refine hset_at (by omega) ?_)) (by first | decide | exact Nat.lt_of_sub_pos (by decide) | simp) rfl rfl (by first | decide | intro h; cases h) ?_
      refine wp_aload_n (pc := 45) dX7_readExpression_45 rfl ?_
      refine wp_iload_n (pc := 46) dX7_readExpression_46 rfl ?_
      refine wp_Vs (pc := 47) dX7_readExpression_47 cl_X7_65 (hP _ ((pS nx T p).2.1 + 1) (cs ++ (pS nx T p).2.2) ⟨Sg2, St2, Sk2, s2', hset_eq, (by repeat (first | assumption | exact hset_eq | refine hset_at (by omega) ?_)), (by repeat (first | assumption | exact hset_eq | refine hset_at (by omega) ?_)), (by repeat (first | assumption | exact hset_eq | refine hset_at (by omega) ?_)), ql, hlt (by omega), by omega, qSg, qSt, qs, qSk⟩) rfl rfl (by repeat (first | assumption | exact hset_eq | refine hset_at (by omega) ?_)) (by rfl) (rm_ok (by omega) (by decide)) (Nat.le_of_ble_eq_true rfl) (fun hp47 e47 => ?_)
      obtain ⟨k3, s3⟩ := e47
      have s4 : SO hp hp47 R (R + 4) := s2.tr (SO.tr (by repeat (first | exact SO.rf | assumption | refine SO.set ?_ (by omega) (by omega))) s3)
      have k3' := k3
      obtain ⟨Sg3, St3, Sk3, s3', v0, v1, v2, v3, vl, vpl, vc, vSg, vSt, vs, vSk⟩ := k3
      first | refine wp_ifb_eq (pc := 50) 66 dX7_readExpression_50 (by decide) (fun c50 => ?_) (fun c50 => ?_) | refine wp_if_eq (pc := 50) 66 dX7_readExpression_50 (by decide) (by omega) (fun c50 => ?_) (fun c50 => ?_)
      ·
        have k6 : RdAt hp47 R ln nx (jnr (nx (pS nx T p).2.1) (pS nx T p) (pS nx T ((pS nx T p).2.1 + 1))).2.1 (cs ++ (jnr (nx (pS nx T p).2.1) (pS nx T p) (pS nx T ((pS nx T p).2.1 + 1))).2.2) := by
          simp only [jnr, if_neg c50, List.append_nil]
          simpa only [List.append_assoc] using k3'
        have s6 := s4 -- go
        refine wp_iconst (pc := 66) dX7_readExpression_66 ?_
        first | exact wp_z1 (pc := 67) dX7_readExpression_67 rfl (Nat.le_refl 0) (Nat.le_refl 0) c50 ⟨k6, s6⟩ | exact wp_z0 (pc := 67) dX7_readExpression_67 rfl (Nat.le_refl 0) (Nat.le_refl 0) c50 ⟨k6, s6⟩
      ·
        refine wp_aload_n (pc := 53) dX7_readExpression_53 rfl ?_
        refine wp_iload_n (pc := 54) dX7_readExpression_54 rfl ?_
        refine wp_ineg (pc := 55) dX7_readExpression_55 ?_
        refine wp_Vs (pc := 56) dX7_readExpression_56 cl_X7_71 (sp_Rule_put k3' (by rw [List.length_append]; omega)) rfl rfl v0 (by rfl) (rm_ok (by omega) (by decide)) (Nat.le_of_ble_eq_true rfl) (fun hp56 e56 => ?_)
        first | refine wp_ifb_eq (pc := 59) 66 dX7_readExpression_59 (by decide) (fun c59 => ?_) (fun c59 => ?_) | refine wp_if_eq (pc := 59) 66 dX7_readExpression_59 (by decide) (by omega) (fun c59 => ?_) (fun c59 => ?_)
        ·
          exact absurd trivial c59
        ·
          have k6 : RdAt hp56 R ln nx (jnr (nx (pS nx T p).2.1) (pS nx T p) (pS nx T ((pS nx T p).2.1 + 1))).2.1 (cs ++ (jnr (nx (pS nx T p).2.1) (pS nx T p) (pS nx T ((pS nx T p).2.1 + 1))).2.2) := by
            have z := e56.1
            simp only [jnr, if_pos c50]
            simpa only [List.append_assoc] using z
          have s6 := s4.tr e56.2 -- go
          refine wp_iconst (pc := 62) dX7_readExpression_62 ?_
          refine wp_goto (pc := 63) 67 dX7_readExpression_63 (by decide) ?_
          first | exact wp_z1 (pc := 67) dX7_readExpression_67 rfl (Nat.le_refl 0) (Nat.le_refl 0) c50 ⟨k6, s6⟩ | exact wp_z0 (pc := 67) dX7_readExpression_67 rfl (Nat.le_refl 0) (Nat.le_refl 0) c50 ⟨k6, s6⟩
    ·
      refine wp_iload_n (pc := 21) dX7_readExpression_21 rfl ?_
      refine wp_bipush (pc := 22) (y := 62) dX7_readExpression_22 (by decide) ?_
      refine wp_icmp_eq (pc := 24) 35 dX7_readExpression_24 (by decide) (by omega) (by omega) (fun c24 => ?_) (fun c24 => ?_)
      ·
        unfold pX
        rw [if_pos ⟨c5, by omega⟩]
        have hg := hG ((pS nx T p).2.1 + 1) (hlt (by omega))
        refine wp_aload_n (pc := 35) dX7_readExpression_35 rfl ?_
        refine wp_dup (pc := 36) dX7_readExpression_36 rfl ?_
        refine wp_getf (pc := 37) dX7_readExpression_37 gf_X7_47 (by repeat (first | assumption | exact hset_eq | refine hset_at (by omega) ?_)) (by rfl) ?_
        refine wp_iconst (pc := 40) dX7_readExpression_40 ?_
        refine wp_iadd (pc := 41) dX7_readExpression_41 ?_
        refine wp_putf (pc := 42) dX7_readExpression_42 pf_X7_47 (by repeat (first | assumption | exact hset_eq | refine hset_at (by omega) ?_)) (by first | decide | exact Nat.lt_of_sub_pos (by decide) | simp) rfl rfl (by first | decide | intro h; cases h) ?_
        refine wp_aload_n (pc := 45) dX7_readExpression_45 rfl ?_
        refine wp_iload_n (pc := 46) dX7_readExpression_46 rfl ?_
        refine wp_Vs (pc := 47) dX7_readExpression_47 cl_X7_65 (hP _ ((pS nx T p).2.1 + 1) (cs ++ (pS nx T p).2.2) ⟨Sg2, St2, Sk2, s2', hset_eq, (by repeat (first | assumption | exact hset_eq | refine hset_at (by omega) ?_)), (by repeat (first | assumption | exact hset_eq | refine hset_at (by omega) ?_)), (by repeat (first | assumption | exact hset_eq | refine hset_at (by omega) ?_)), ql, hlt (by omega), by omega, qSg, qSt, qs, qSk⟩) rfl rfl (by repeat (first | assumption | exact hset_eq | refine hset_at (by omega) ?_)) (by rfl) (rm_ok (by omega) (by decide)) (Nat.le_of_ble_eq_true rfl) (fun hp47 e47 => ?_)
        obtain ⟨k3, s3⟩ := e47
        have s4 : SO hp hp47 R (R + 4) := s2.tr (SO.tr (by repeat (first | exact SO.rf | assumption | refine SO.set ?_ (by omega) (by omega))) s3)
        have k3' := k3
        obtain ⟨Sg3, St3, Sk3, s3', v0, v1, v2, v3, vl, vpl, vc, vSg, vSt, vs, vSk⟩ := k3
        first | refine wp_ifb_eq (pc := 50) 66 dX7_readExpression_50 (by decide) (fun c50 => ?_) (fun c50 => ?_) | refine wp_if_eq (pc := 50) 66 dX7_readExpression_50 (by decide) (by omega) (fun c50 => ?_) (fun c50 => ?_)
        ·
          have k6 : RdAt hp47 R ln nx (jnr (nx (pS nx T p).2.1) (pS nx T p) (pS nx T ((pS nx T p).2.1 + 1))).2.1 (cs ++ (jnr (nx (pS nx T p).2.1) (pS nx T p) (pS nx T ((pS nx T p).2.1 + 1))).2.2) := by
            simp only [jnr, if_neg c50, List.append_nil]
            simpa only [List.append_assoc] using k3'
          have s6 := s4 -- go
          refine wp_iconst (pc := 66) dX7_readExpression_66 ?_
          first | exact wp_z1 (pc := 67) dX7_readExpression_67 rfl (Nat.le_refl 0) (Nat.le_refl 0) c50 ⟨k6, s6⟩ | exact wp_z0 (pc := 67) dX7_readExpression_67 rfl (Nat.le_refl 0) (Nat.le_refl 0) c50 ⟨k6, s6⟩
        ·
          refine wp_aload_n (pc := 53) dX7_readExpression_53 rfl ?_
          refine wp_iload_n (pc := 54) dX7_readExpression_54 rfl ?_
          refine wp_ineg (pc := 55) dX7_readExpression_55 ?_
          refine wp_Vs (pc := 56) dX7_readExpression_56 cl_X7_71 (sp_Rule_put k3' (by rw [List.length_append]; omega)) rfl rfl v0 (by rfl) (rm_ok (by omega) (by decide)) (Nat.le_of_ble_eq_true rfl) (fun hp56 e56 => ?_)
          first | refine wp_ifb_eq (pc := 59) 66 dX7_readExpression_59 (by decide) (fun c59 => ?_) (fun c59 => ?_) | refine wp_if_eq (pc := 59) 66 dX7_readExpression_59 (by decide) (by omega) (fun c59 => ?_) (fun c59 => ?_)
          ·
            exact absurd trivial c59
          ·
            have k6 : RdAt hp56 R ln nx (jnr (nx (pS nx T p).2.1) (pS nx T p) (pS nx T ((pS nx T p).2.1 + 1))).2.1 (cs ++ (jnr (nx (pS nx T p).2.1) (pS nx T p) (pS nx T ((pS nx T p).2.1 + 1))).2.2) := by
              have z := e56.1
              simp only [jnr, if_pos c50]
              simpa only [List.append_assoc] using z
            have s6 := s4.tr e56.2 -- go
            refine wp_iconst (pc := 62) dX7_readExpression_62 ?_
            refine wp_goto (pc := 63) 67 dX7_readExpression_63 (by decide) ?_
            first | exact wp_z1 (pc := 67) dX7_readExpression_67 rfl (Nat.le_refl 0) (Nat.le_refl 0) c50 ⟨k6, s6⟩ | exact wp_z0 (pc := 67) dX7_readExpression_67 rfl (Nat.le_refl 0) (Nat.le_refl 0) c50 ⟨k6, s6⟩
      ·
        refine wp_iload_n (pc := 27) dX7_readExpression_27 rfl ?_
        refine wp_bipush (pc := 28) (y := 61) dX7_readExpression_28 (by decide) ?_
        refine wp_icmp_eq (pc := 30) 35 dX7_readExpression_30 (by decide) (by omega) (by omega) (fun c30 => ?_) (fun c30 => ?_)
        ·
          unfold pX
          rw [if_pos ⟨c5, by omega⟩]
          have hg := hG ((pS nx T p).2.1 + 1) (hlt (by omega))
          refine wp_aload_n (pc := 35) dX7_readExpression_35 rfl ?_
          refine wp_dup (pc := 36) dX7_readExpression_36 rfl ?_
          refine wp_getf (pc := 37) dX7_readExpression_37 gf_X7_47 (by repeat (first | assumption | exact hset_eq | refine hset_at (by omega) ?_)) (by rfl) ?_
          refine wp_iconst (pc := 40) dX7_readExpression_40 ?_
          refine wp_iadd (pc := 41) dX7_readExpression_41 ?_
          refine wp_putf (pc := 42) dX7_readExpression_42 pf_X7_47 (by repeat (first | assumption | exact hset_eq | refine hset_at (by omega) ?_)) (by first | decide | exact Nat.lt_of_sub_pos (by decide) | simp) rfl rfl (by first | decide | intro h; cases h) ?_
          refine wp_aload_n (pc := 45) dX7_readExpression_45 rfl ?_
          refine wp_iload_n (pc := 46) dX7_readExpression_46 rfl ?_
          refine wp_Vs (pc := 47) dX7_readExpression_47 cl_X7_65 (hP _ ((pS nx T p).2.1 + 1) (cs ++ (pS nx T p).2.2) ⟨Sg2, St2, Sk2, s2', hset_eq, (by repeat (first | assumption | exact hset_eq | refine hset_at (by omega) ?_)), (by repeat (first | assumption | exact hset_eq | refine hset_at (by omega) ?_)), (by repeat (first | assumption | exact hset_eq | refine hset_at (by omega) ?_)), ql, hlt (by omega), by omega, qSg, qSt, qs, qSk⟩) rfl rfl (by repeat (first | assumption | exact hset_eq | refine hset_at (by omega) ?_)) (by rfl) (rm_ok (by omega) (by decide)) (Nat.le_of_ble_eq_true rfl) (fun hp47 e47 => ?_)
          obtain ⟨k3, s3⟩ := e47
          have s4 : SO hp hp47 R (R + 4) := s2.tr (SO.tr (by repeat (first | exact SO.rf | assumption | refine SO.set ?_ (by omega) (by omega))) s3)
          have k3' := k3
          obtain ⟨Sg3, St3, Sk3, s3', v0, v1, v2, v3, vl, vpl, vc, vSg, vSt, vs, vSk⟩ := k3
          first | refine wp_ifb_eq (pc := 50) 66 dX7_readExpression_50 (by decide) (fun c50 => ?_) (fun c50 => ?_) | refine wp_if_eq (pc := 50) 66 dX7_readExpression_50 (by decide) (by omega) (fun c50 => ?_) (fun c50 => ?_)
          ·
            have k6 : RdAt hp47 R ln nx (jnr (nx (pS nx T p).2.1) (pS nx T p) (pS nx T ((pS nx T p).2.1 + 1))).2.1 (cs ++ (jnr (nx (pS nx T p).2.1) (pS nx T p) (pS nx T ((pS nx T p).2.1 + 1))).2.2) := by
              simp only [jnr, if_neg c50, List.append_nil]
              simpa only [List.append_assoc] using k3'
            have s6 := s4 -- go
            refine wp_iconst (pc := 66) dX7_readExpression_66 ?_
            first | exact wp_z1 (pc := 67) dX7_readExpression_67 rfl (Nat.le_refl 0) (Nat.le_refl 0) c50 ⟨k6, s6⟩ | exact wp_z0 (pc := 67) dX7_readExpression_67 rfl (Nat.le_refl 0) (Nat.le_refl 0) c50 ⟨k6, s6⟩
          ·
            refine wp_aload_n (pc := 53) dX7_readExpression_53 rfl ?_
            refine wp_iload_n (pc := 54) dX7_readExpression_54 rfl ?_
            refine wp_ineg (pc := 55) dX7_readExpression_55 ?_
            refine wp_Vs (pc := 56) dX7_readExpression_56 cl_X7_71 (sp_Rule_put k3' (by rw [List.length_append]; omega)) rfl rfl v0 (by rfl) (rm_ok (by omega) (by decide)) (Nat.le_of_ble_eq_true rfl) (fun hp56 e56 => ?_)
            first | refine wp_ifb_eq (pc := 59) 66 dX7_readExpression_59 (by decide) (fun c59 => ?_) (fun c59 => ?_) | refine wp_if_eq (pc := 59) 66 dX7_readExpression_59 (by decide) (by omega) (fun c59 => ?_) (fun c59 => ?_)
            ·
              exact absurd trivial c59
            ·
              have k6 : RdAt hp56 R ln nx (jnr (nx (pS nx T p).2.1) (pS nx T p) (pS nx T ((pS nx T p).2.1 + 1))).2.1 (cs ++ (jnr (nx (pS nx T p).2.1) (pS nx T p) (pS nx T ((pS nx T p).2.1 + 1))).2.2) := by
                have z := e56.1
                simp only [jnr, if_pos c50]
                simpa only [List.append_assoc] using z
              have s6 := s4.tr e56.2 -- go
              refine wp_iconst (pc := 62) dX7_readExpression_62 ?_
              refine wp_goto (pc := 63) 67 dX7_readExpression_63 (by decide) ?_
              first | exact wp_z1 (pc := 67) dX7_readExpression_67 rfl (Nat.le_refl 0) (Nat.le_refl 0) c50 ⟨k6, s6⟩ | exact wp_z0 (pc := 67) dX7_readExpression_67 rfl (Nat.le_refl 0) (Nat.le_refl 0) c50 ⟨k6, s6⟩
        ·
          unfold pX
          rw [if_neg (fun z => by omega)] -- go
          refine wp_iconst (pc := 33) dX7_readExpression_33 ?_
          exact wp_z1 (pc := 34) dX7_readExpression_34 rfl (Nat.le_refl 0) (Nat.le_refl 0) c5 ⟨k2', s2⟩
  ·
    unfold pX
    rw [if_neg (fun z => c5 z.1)] -- go
    refine wp_iconst (pc := 8) dX7_readExpression_8 ?_
    exact wp_z0 (pc := 9) dX7_readExpression_9 rfl (Nat.le_refl 0) (Nat.le_refl 0) c5 ⟨k2', s2⟩
theorem rd_up (hn : NX nx ln) (hT : RdE g R ln nx MX7_readThing (5*L+6) (pTL nx L) dep) : RdE g R ln nx MX7_readExpression (5*L+10) (pE nx L) dep := by
  have hG := GP_L hn L
  rw [pE_eq]
  exact fun hp p cs k => sp_Rule_readExpression hn (fun hp p cs k => sp_Rule_readSum hn (fun hp p cs k => sp_Rule_readProduct hn (fun hp p cs k => sp_Rule_readSigned hn hT hG k) hG k) hG k) hG k
theorem rd_all (hn : NX nx ln) : ∀ L : Nat, L ≤ 4 → RdE g R ln nx MX7_readExpression (5*L+10) (pE nx L) (4 - (L : Int))
  | 0, h => rd_up hn fun hp p cs k => sp_Rule_readThing hn rfl (by omega) (fun L' e => by omega) k
  | L + 1, h => rd_up hn fun hp p cs k => sp_Rule_readThing hn rfl (by omega) (fun L' e => by
      obtain rfl : L = L' := by omega
      have := rd_all hn L (by omega)
      rw [show (4 : Int) - ((L + 1 : Nat) : Int) + 1 = 4 - (L : Int) by omega]
      exact this) k
/-- a rule's object and arrays, whatever is in them -/
def RawAt (hp : Hp) (R : Nat) : Prop := ∃ (x y z : Int) (Sg St Sk : Int → Int) (s : List Int), hp.2 R = some (robj R x y z s.length) ∧ hp.2 (R + 1) = some (.inl (.int, 40, Sg)) ∧ hp.2 (R + 2) = some (.inl (.int, 40, St)) ∧ hp.2 (R + 3) = some (.inl (.int, 40, Sk)) ∧ s.length ≤ 40 ∧ SkR Sk s
theorem RawAt.off (k : RawAt hp R) (hS : ∀ x, R ≤ x → x < R + 4 → hp2.2 x = hp.2 x) : RawAt hp2 R := by
  obtain ⟨x, y, z, Sg, St, Sk, s, r0, r1, r2, r3, q⟩ := k
  exact ⟨x, y, z, Sg, St, Sk, s, (hS _ (by omega) (by omega)).trans r0, (hS _ (by omega) (by omega)).trans r1, (hS _ (by omega) (by omega)).trans r2, (hS _ (by omega) (by omega)).trans r3, q⟩
theorem RawAt.fr (k : RawAt hp R) {lo hi : Nat} (hS : SO hp hp2 lo hi) (hd : hi ≤ R ∨ R + 4 ≤ lo) : RawAt hp2 R := k.off fun x _ _ => hS.2 x (by omega)
theorem RuleAt.raw (k : RuleAt hp R cs) : RawAt hp R := by
  obtain ⟨⟨s, ln, at_, Sg, St, Sk, r0, r1, r2, r3, hcs2, hSt, hs, hSk⟩, -⟩ := k
  exact ⟨_, _, _, _, _, _, _, r0, r1, r2, r3, hs, hSk⟩
theorem RdAt.raw (k : RdAt hp R ln nx p cs) : RawAt hp R := by
  obtain ⟨Sg, St, Sk, s, r0, r1, r2, r3, hl, hpl, hc', hSg, hSt, hs, hSk⟩ := k
  exact ⟨_, _, _, _, _, _, _, r0, r1, r2, r3, hs, hSk⟩
theorem RdAt.rule (k : RdAt hp R ln nx p cs) (h : ∀ c ∈ cs, okc c) : RuleAt hp R cs := by
  obtain ⟨Sg, St, Sk, s, r0, r1, r2, r3, hl, hpl, hc', hSg, hSt, hs, hSk⟩ := k
  exact ⟨⟨s, _, _, _, _, _, r0, r1, r2, r3, by omega, hSt, hs, hSk⟩, h⟩
theorem sp_Rule_readAll (hn : NX nx ln) {y z : Int} {Sg St Sk : Int → Int} (r0 : hp.2 R = some (robj R (ln : Int) y z s.length)) (r1 : hp.2 (R + 1) = some (.inl (.int, 40, Sg))) (r2 : hp.2 (R + 2) = some (.inl (.int, 40, St))) (r3 : hp.2 (R + 3) = some (.inl (.int, 40, Sk))) (hs : s.length ≤ 40) (hSk : SkR Sk s) (hSg : ∀ j : Nat, j < ln → Sg j = nx j) : Sp g MX7_readAll (rm 31 0 0) [.ref R] hp (Eff (.int (B ((pE nx 4 0).1 = true ∧ (pE nx 4 0).2.1 = ln))) (fun hp2 => RdAt hp2 R ln nx (pE nx 4 0).2.1 (pE nx 4 0).2.2 ∧ SO hp hp2 R (R + 4))) := by
  have hl := hn.1
  refine Sp_mk rfl (Nat.le_of_ble_eq_true rfl) ?_
  show wp g _ _ _ 0 0 0 [some (.ref R)] [] hp
  refine wp_aload_n (pc := 0) dX7_readAll_0 rfl ?_
  refine wp_iconst (pc := 1) dX7_readAll_1 ?_
  refine wp_putf (pc := 2) dX7_readAll_2 pf_X7_47 (by repeat (first | assumption | exact hset_eq | refine hset_at (by omega) ?_)) (by first | decide | exact Nat.lt_of_sub_pos (by decide) | simp) rfl rfl (by first | decide | intro h; cases h) ?_
  refine wp_aload_n (pc := 5) dX7_readAll_5 rfl ?_
  refine wp_iconst (pc := 6) dX7_readAll_6 ?_
  refine wp_putf (pc := 7) dX7_readAll_7 pf_X7_58 (by repeat (first | assumption | exact hset_eq | refine hset_at (by omega) ?_)) (by first | decide | exact Nat.lt_of_sub_pos (by decide) | simp) rfl rfl (by first | decide | intro h; cases h) ?_
  refine wp_aload_n (pc := 10) dX7_readAll_10 rfl ?_
  refine wp_iconst (pc := 11) dX7_readAll_11 ?_
  refine wp_Vs (pc := 12) dX7_readAll_12 cl_X7_61 (rd_all hn 4 (by omega) _ 0 [] ⟨Sg, St, Sk, s, hset_eq, (by repeat (first | assumption | exact hset_eq | refine hset_at (by omega) ?_)), (by repeat (first | assumption | exact hset_eq | refine hset_at (by omega) ?_)), (by repeat (first | assumption | exact hset_eq | refine hset_at (by omega) ?_)), hl, Nat.zero_le _, Nat.le_refl _, hSg, (fun j hj => by cases hj), hs, hSk⟩) rfl rfl (by repeat (first | assumption | exact hset_eq | refine hset_at (by omega) ?_)) (by rfl) (by decide) (Nat.le_of_ble_eq_true rfl) (fun hp12 e12 => ?_)
  obtain ⟨k2, s2⟩ := e12
  rw [List.nil_append] at k2
  have s3 : SO hp hp12 R (R + 4) := SO.tr (by repeat (first | exact SO.rf | assumption | refine SO.set ?_ (by omega) (by omega))) s2
  have k2' := k2
  obtain ⟨Sg2, St2, Sk2, s2', q0, q1, q2, q3, ql, qpl, qc, qSg, qSt, qs, qSk⟩ := k2
  first | refine wp_ifb_eq (pc := 15) 33 dX7_readAll_15 (by decide) (fun c15 => ?_) (fun c15 => ?_) | refine wp_if_eq (pc := 15) 33 dX7_readAll_15 (by decide) (by omega) (fun c15 => ?_) (fun c15 => ?_)
  ·
    refine wp_iconst (pc := 33) dX7_readAll_33 ?_
    first | exact wp_z1 (pc := 34) dX7_readAll_34 rfl (by decide) (by decide) ⟨c15, by omega⟩ ⟨k2', s3⟩ | exact wp_z0 (pc := 34) dX7_readAll_34 rfl (by decide) (by decide) (fun z => c15 z.1) ⟨k2', s3⟩ | exact wp_z0 (pc := 34) dX7_readAll_34 rfl (by decide) (by decide) (fun z => by omega) ⟨k2', s3⟩
  ·
    refine wp_aload_n (pc := 18) dX7_readAll_18 rfl ?_
    refine wp_getf (pc := 19) dX7_readAll_19 gf_X7_47 (by repeat (first | assumption | exact hset_eq | refine hset_at (by omega) ?_)) (by rfl) ?_
    refine wp_aload_n (pc := 22) dX7_readAll_22 rfl ?_
    refine wp_getf (pc := 23) dX7_readAll_23 gf_X7_36 (by repeat (first | assumption | exact hset_eq | refine hset_at (by omega) ?_)) (by rfl) ?_
    refine wp_icmp_ne (pc := 26) 33 dX7_readAll_26 (by decide) (by omega) (by omega) (fun c26 => ?_) (fun c26 => ?_)
    ·
      refine wp_iconst (pc := 33) dX7_readAll_33 ?_
      first | exact wp_z1 (pc := 34) dX7_readAll_34 rfl (by decide) (by decide) ⟨c15, by omega⟩ ⟨k2', s3⟩ | exact wp_z0 (pc := 34) dX7_readAll_34 rfl (by decide) (by decide) (fun z => c15 z.1) ⟨k2', s3⟩ | exact wp_z0 (pc := 34) dX7_readAll_34 rfl (by decide) (by decide) (fun z => by omega) ⟨k2', s3⟩
    ·
      refine wp_iconst (pc := 29) dX7_readAll_29 ?_
      refine wp_goto (pc := 30) 34 dX7_readAll_30 (by decide) ?_
      first | exact wp_z1 (pc := 34) dX7_readAll_34 rfl (by decide) (by decide) ⟨c15, by omega⟩ ⟨k2', s3⟩ | exact wp_z0 (pc := 34) dX7_readAll_34 rfl (by decide) (by decide) (fun z => c15 z.1) ⟨k2', s3⟩ | exact wp_z0 (pc := 34) dX7_readAll_34 rfl (by decide) (by decide) (fun z => by omega) ⟨k2', s3⟩
end RC

