/-! Rule.read -/
section RD
variable {g : GT} {hp hp2 : Hp} {R t i ln p : Nat} {s cs l : List Int} {a : Int}
def rdl (l : List Int) : PR := pE (nxL l) 4 0
/-- what read answers -/
def rdv (l : List Int) : Int := if l = [] then -1 else if (rdl l).1 = true ∧ (rdl l).2.1 = l.length then -1 else (rdl l).2.1
/-- the steps of a text that is right -/
def stl (l : List Int) : List Int := if l = [] then csF else (rdl l).2.2
abbrev byl (l : List Int) : Prop := ∀ v ∈ l, 0 ≤ v ∧ v ≤ 255
theorem lp_read {y z : Int} {St Sk : Int → Int} (hT : TextAt hp t l) (hl : byl l) (hne : l ≠ []) (hd : t + 2 ≤ R ∨ R + 4 ≤ t) (hs : s.length ≤ 40) (hSk : SkR Sk s) (hln : ln = min l.length 40) : ∀ (m i : Nat), ln < i + m → i ≤ ln → ∀ (hp2 : Hp) (Sg : Int → Int) (r0 : hp2.2 R = some (robj R ln y z s.length)) (r1 : hp2.2 (R + 1) = some (.inl (.int, 40, Sg))) (r2 : hp2.2 (R + 2) = some (.inl (.int, 40, St))) (r3 : hp2.2 (R + 3) = some (.inl (.int, 40, Sk))) (hS : SO hp hp2 R (R + 4)) (hSg : ∀ j : Nat, j < i → Sg j = nxL l j), wp g MX7_read (rm 33 0 0) (Eff (.int (I (rdv l))) (fun hp2 => RawAt hp2 R ∧ (rdv l = -1 → RuleAt hp2 R (stl l)) ∧ SO hp hp2 R (R + 4))) 0 0 28 [some (.ref R), some (.ref t), some (.int (I (i : Int)))] [] hp2 := by
  intro m
  induction m with
  | zero => intro i h1 h2; exact absurd h1 (by omega)
  | succ m ih =>
    intro i h1 h2 hp2 Sg r0 r1 r2 r3 hS hSg
    have hT2 := hT.fr hS (by omega)
    have hT3 := hT2
    obtain ⟨F, t0, t1, tl, tF⟩ := hT3
    have hn : NX (nxL l) ln := by rw [hln]; exact NX_L hl
    have hG := GP_E hn 4 0 (Nat.zero_le _)
    refine wp_iload_n (pc := 28) dX7_read_28 rfl ?_
    refine wp_aload_n (pc := 29) dX7_read_29 rfl ?_
    refine wp_getf (pc := 30) dX7_read_30 gf_X7_36 (by repeat (first | assumption | exact hset_eq | refine hset_at (by omega) ?_)) (by rfl) ?_
    refine wp_icmp_ge (pc := 33) 53 dX7_read_33 (by decide) (by omega) (by omega) (fun c33 => ?_) (fun c33 => ?_)
    ·
      refine wp_aload_n (pc := 53) dX7_read_53 rfl ?_
      refine wp_Vs (pc := 54) dX7_read_54 cl_X7_43 (sp_Rule_readAll (nx := nxL l) hn r0 r1 r2 r3 hs hSk (fun j hj => hSg j (by omega))) rfl rfl r0 (by rfl) (by decide) (Nat.le_of_ble_eq_true rfl) (fun hp54 e54 => ?_)
      obtain ⟨k4, s4⟩ := e54
      have hT5 := hT2.fr s4 (by omega)
      have k4' := k4
      obtain ⟨Sg2, St2, Sk2, s2', q0, q1, q2, q3, ql, qpl, qc, qSg, qSt, qs, qSk⟩ := k4'
      have hT6 := hT5
      obtain ⟨F5, v0, v1, vl, vF⟩ := hT6
      have s5 := hS.tr s4
      first | refine wp_ifb_eq (pc := 57) 75 dX7_read_57 (by decide) (fun c57 => ?_) (fun c57 => ?_) | refine wp_if_eq (pc := 57) 75 dX7_read_57 (by decide) (by omega) (fun c57 => ?_) (fun c57 => ?_)
      ·
        have hv : rdv l = ((rdl l).2.1 : Nat) := by unfold rdv; rw [if_neg hne]; exact if_neg (fun z => c57 ⟨z.1, by have h1 : (rdl l).2.1 ≤ ln := hG.2.1; have := z.2; show (rdl l).2.1 = ln; omega⟩) -- go
        refine wp_aload_n (pc := 75) dX7_read_75 rfl ?_
        refine wp_getf (pc := 76) dX7_read_76 gf_X7_47 (by repeat (first | assumption | exact hset_eq | refine hset_at (by omega) ?_)) (by rfl) ?_
        first | exact wp_ir (pc := 79) dX7_read_79 rfl (by decide) (by decide) hv.symm ⟨k4.raw, fun z => by omega, s5⟩ | exact wp_ir (pc := 79) dX7_read_79 rfl (by decide) (by decide) hv.symm ⟨k4.raw, fun z => by unfold stl; rw [if_neg hne]; exact k4.rule hG.2.2, s5⟩
      ·
        refine wp_aload_n (pc := 60) dX7_read_60 rfl ?_
        refine wp_Vp (pc := 61) dX7_read_61 cl_X7_24 (sp_Text_length hT5) rfl rfl v0 (by rfl) (by decide) (Nat.le_of_ble_eq_true rfl) ?_
        refine wp_aload_n (pc := 64) dX7_read_64 rfl ?_
        refine wp_getf (pc := 65) dX7_read_65 gf_X7_36 (by repeat (first | assumption | exact hset_eq | refine hset_at (by omega) ?_)) (by rfl) ?_
        refine wp_icmp_ne (pc := 68) 75 dX7_read_68 (by decide) (by omega) (by omega) (fun c68 => ?_) (fun c68 => ?_)
        ·
          have hv : rdv l = ((rdl l).2.1 : Nat) := by unfold rdv; rw [if_neg hne]; exact if_neg (fun z => by have h1 : (rdl l).2.1 ≤ ln := hG.2.1; have := z.2; have := c57.2; omega) -- go
          refine wp_aload_n (pc := 75) dX7_read_75 rfl ?_
          refine wp_getf (pc := 76) dX7_read_76 gf_X7_47 (by repeat (first | assumption | exact hset_eq | refine hset_at (by omega) ?_)) (by rfl) ?_
          first | exact wp_ir (pc := 79) dX7_read_79 rfl (by decide) (by decide) hv.symm ⟨k4.raw, fun z => by omega, s5⟩ | exact wp_ir (pc := 79) dX7_read_79 rfl (by decide) (by decide) hv.symm ⟨k4.raw, fun z => by unfold stl; rw [if_neg hne]; exact k4.rule hG.2.2, s5⟩
        ·
          have hv : rdv l = -1 := by unfold rdv; rw [if_neg hne]; exact if_pos ⟨c57.1, by have : (rdl l).2.1 = ln := c57.2; omega⟩ -- go
          refine wp_iconst (pc := 71) dX7_read_71 ?_
          refine wp_goto (pc := 72) 79 dX7_read_72 (by decide) ?_
          first | exact wp_ir (pc := 79) dX7_read_79 rfl (by decide) (by decide) hv.symm ⟨k4.raw, fun z => by omega, s5⟩ | exact wp_ir (pc := 79) dX7_read_79 rfl (by decide) (by decide) hv.symm ⟨k4.raw, fun z => by unfold stl; rw [if_neg hne]; exact k4.rule hG.2.2, s5⟩
    ·
      refine wp_aload_n (pc := 36) dX7_read_36 rfl ?_
      refine wp_getf (pc := 37) dX7_read_37 gf_X7_11 (by repeat (first | assumption | exact hset_eq | refine hset_at (by omega) ?_)) (by rfl) ?_
      refine wp_iload_n (pc := 40) dX7_read_40 rfl ?_
      refine wp_aload_n (pc := 41) dX7_read_41 rfl ?_
      refine wp_iload_n (pc := 42) dX7_read_42 rfl ?_
      refine wp_Vp (pc := 43) dX7_read_43 cl_X7_39 (sp_Text_at (i := (i : Int)) hT2 (by omega)) rfl rfl (by repeat (first | assumption | exact hset_eq | refine hset_at (by omega) ?_)) (by rfl) (by decide) (Nat.le_of_ble_eq_true rfl) ?_
      refine wp_iast (pc := 46) dX7_read_46 (by repeat (first | assumption | exact hset_eq | refine hset_at (by omega) ?_)) (by omega) (by omega) (by decide) ?_
      refine wp_iinc (pc := 47) dX7_read_47 rfl (by decide) ?_
      refine wp_goto (pc := 50) 28 dX7_read_50 (by decide) ?_
      refine wp_ls ?_ (ih (i + 1) (by omega) (by omega) _ _ (by repeat (first | assumption | exact hset_eq | refine hset_at (by omega) ?_)) (by repeat (first | assumption | exact hset_eq | refine hset_at (by omega) ?_)) (by repeat (first | assumption | exact hset_eq | refine hset_at (by omega) ?_)) (by repeat (first | assumption | exact hset_eq | refine hset_at (by omega) ?_)) (hS.tr (by repeat (first | exact SO.rf | assumption | refine SO.set ?_ (by omega) (by omega)))) (fun j hj => ?_))
      · repeat' (first | exact LE_0 | refine LE_s rfl ?_ | refine LE_s (I_c (by first | omega | (simp only [sm]; omega))) ?_ | refine LE_s (J_c (by first | omega | exact Int.pow_succ _ _ | exact (Int.pow_succ _ _).symm | exact (Int.pow_zero _).symm | (simp only [sm]; omega))) ?_ | refine LE_n ?_)
      · by_cases e : j = i
        · rw [e, updI_eq]
          unfold tat nxL
          rw [if_pos (by omega), if_pos (by omega)]
          rfl
        · rw [updI_ne (by omega)]
          exact hSg j (by omega)
theorem sp_Rule_read (k : RawAt hp R) (hT : TextAt hp t l) (hl : byl l) (hd : t + 2 ≤ R ∨ R + 4 ≤ t) : Sp g MX7_read (rm 33 0 0) [.ref R, .ref t] hp (Eff (.int (I (rdv l))) (fun hp2 => RawAt hp2 R ∧ (rdv l = -1 → RuleAt hp2 R (stl l)) ∧ SO hp hp2 R (R + 4))) := by
  have k' := k
  obtain ⟨x, y, z, Sg, St, Sk, s, r0, r1, r2, r3, hs, hSk⟩ := k
  have hT2 := hT
  obtain ⟨F, t0, t1, tl, tF⟩ := hT2
  refine Sp_mk rfl (Nat.le_of_ble_eq_true rfl) ?_
  show wp g _ _ _ 0 0 0 [some (.ref R), some (.ref t), none] [] hp
  refine wp_aload_n (pc := 0) dX7_read_0 rfl ?_
  refine wp_Vp (pc := 1) dX7_read_1 cl_X7_24 (sp_Text_length (by first | assumption | omega)) rfl rfl (by repeat (first | assumption | exact hset_eq | refine hset_at (by omega) ?_)) (by rfl) (by decide) (Nat.le_of_ble_eq_true rfl) ?_
  first | refine wp_ifb_ne (pc := 4) 13 dX7_read_4 (by decide) (fun c4 => ?_) (fun c4 => ?_) | refine wp_if_ne (pc := 4) 13 dX7_read_4 (by decide) (by omega) (fun c4 => ?_) (fun c4 => ?_)
  ·
    refine wp_aload_n (pc := 13) dX7_read_13 rfl ?_
    refine wp_aload_n (pc := 14) dX7_read_14 rfl ?_
    refine wp_Vp (pc := 15) dX7_read_15 cl_X7_24 (sp_Text_length (by first | assumption | omega)) rfl rfl (by repeat (first | assumption | exact hset_eq | refine hset_at (by omega) ?_)) (by rfl) (by decide) (Nat.le_of_ble_eq_true rfl) ?_
    refine wp_bipush (pc := 18) (y := 40) dX7_read_18 (by decide) ?_
    refine wp_min (pc := 20) dX7_read_20 ml_X7_30 ma_min_s ma_ini ma_min_c (by decide) (by decide) (by decide) (by decide) (Nat.le_of_ble_eq_true rfl) (by omega) (by omega) ?_
    refine wp_topE (b := ((min l.length 40 : Nat) : Int)) (by unfold mi; split <;> omega) ?_
    refine wp_putf (pc := 23) dX7_read_23 pf_X7_36 (by repeat (first | assumption | exact hset_eq | refine hset_at (by omega) ?_)) (by first | decide | exact Nat.lt_of_sub_pos (by decide) | simp) rfl rfl (by first | decide | intro h; cases h) ?_
    refine wp_iconst (pc := 26) dX7_read_26 ?_
    refine wp_istore_n (pc := 27) dX7_read_27 (by decide) ?_
    refine wp_ls ?_ (lp_read hT hl (fun z => c4 (by rw [z]; rfl)) hd hs hSk rfl (min l.length 40 + 1) 0 (by omega) (by omega) _ Sg (by repeat (first | assumption | exact hset_eq | refine hset_at (by omega) ?_)) (by repeat (first | assumption | exact hset_eq | refine hset_at (by omega) ?_)) (by repeat (first | assumption | exact hset_eq | refine hset_at (by omega) ?_)) (by repeat (first | assumption | exact hset_eq | refine hset_at (by omega) ?_)) (by repeat (first | exact SO.rf | assumption | refine SO.set ?_ (by omega) (by omega))) (fun j hj => by omega))
    repeat' (first | exact LE_0 | refine LE_s rfl ?_ | refine LE_s (I_c (by first | omega | (simp only [sm]; omega))) ?_ | refine LE_s (J_c (by first | omega | exact Int.pow_succ _ _ | exact (Int.pow_succ _ _).symm | exact (Int.pow_zero _).symm | (simp only [sm]; omega))) ?_ | refine LE_n ?_)
  ·
    have e0 : l = [] := List.length_eq_zero_iff.mp (by omega)
    have hv : rdv l = -1 := if_pos e0 -- go
    refine wp_aload_n (pc := 7) dX7_read_7 rfl ?_
    refine wp_Vn (pc := 8) dX7_read_8 cl_X7_21 (sp_Rule_readFirst k') rfl rfl (by repeat (first | assumption | exact hset_eq | refine hset_at (by omega) ?_)) (by rfl) (by decide) (Nat.le_of_ble_eq_true rfl) (fun hp8 e8 => ?_)
    refine wp_iconst (pc := 11) dX7_read_11 ?_
    exact wp_ir (pc := 12) dX7_read_12 rfl (by decide) (by decide) hv.symm ⟨e8.1.raw, fun _ => by unfold stl; rw [if_pos e0]; exact e8.1, e8.2⟩
end RD

