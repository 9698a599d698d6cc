section MP
variable {g : GT} {M : MI} {R : Room} {Q : Option Value → Hp → Prop} {k n pc : Nat} {ls : List (Option Value)} {st : List Value} {hp : Hp}
abbrev JR (a : Int) : Prop := -9223372036854775808 ≤ a ∧ a < 9223372036854775808
theorem maxl_code : cJ9_max_f86c9 = Lib.MathLoose.max_long.code := by decide +kernel
theorem maxl_name : yJ9_max_f86c9 = Lib.MathLoose.max_long.x := by decide +kernel
theorem wp_maxl {a b : Int} {idx : Nat} (d : decode M.2.1 pc = .ok (.invokestatic idx, 3)) (G : CS M.1.cls idx MJ9_max_f86c9 2) (hf : 1 ≤ R.frames) (hlo : 23 ≤ R.locals) (hk : k ≤ R.cells) (hn : n ≤ R.slots) (hst : (st.map fun v => v.category).sum ≤ 8) (ra : JR a) (rb : JR b) (h : wp g M R Q k n (pc + 3) ls (.long (J (mx a b)) :: st) hp) : wp g M R Q k n pc ls (.long (J b) :: .long (J a) :: st) hp := by
  intro p e s m args below meth c H locs lsA C P L A
  have hts := C.2.2.2.2.2.1
  have hc := cat_cv (g := g) hst
  obtain ⟨⟨hl, hini, hcode, -⟩, hsta⟩ := G
  have hcode' : (Cond.code Lib.MathLoose.max_long.x Lib.MathLoose.max_long.code 4 (some .long)).before args s = true := by
    have := hts _ hcode
    rw [show MJ9_max_f86c9.1 = Lib.MathLoose.max_long.x from maxl_name, show MJ9_max_f86c9.2.1 = Lib.MathLoose.max_long.code from maxl_code] at this
    exact this
  have hsta' : (Cond.static Lib.MathLoose.max_long.x).before args s = true := by
    have := hts _ hsta
    rw [show MJ9_max_f86c9.1 = Lib.MathLoose.max_long.x from maxl_name] at this
    exact this
  rcases hl with hl | ⟨host, hl⟩
  · have hl' : (Cond.methodLink M.1.cls idx Lib.MathLoose.max_long.x).before args s = true := by
      have := hts _ hl
      rw [show MJ9_max_f86c9.1 = Lib.MathLoose.max_long.x from maxl_name] at this
      exact this
    refine va_mmax_long C.1 C.2.1 (by rw [C.2.2.1]; exact A.1.symm) C.2.2.2.2.1 hl' hsta' (hts _ hini) hcode' hf (by omega) hk hn d ?_
    have ee : (if J b < J a then J a else J b) = J (mx a b) := by
      have h1 : (J b < J a) ↔ b < a := by rw [Int64.lt_iff_toInt_lt, J_toInt ra, J_toInt rb]
      unfold mx
      by_cases z : b < a
      · rw [if_pos (h1.mpr z), if_neg (by omega)]
      · rw [if_neg (fun y => z (h1.mp y))]
        by_cases z2 : a < b
        · rw [if_pos z2]
        · rw [if_neg z2, show a = b by omega]
    rw [ee]
    exact h p e s m args below meth c H locs lsA C P L A
  · have : (Cond.methodLinkNest M.1.cls idx MJ9_max_f86c9.1 host) ∈ lw_tbl := (List.mem_filter.mp hl).1
    exact absurd this (by
      intro z
      have h1 : lw_tbl.all (fun w => match w with | .methodLinkNest _ _ y _ => y.name != "max" | _ => true) = true := by decide +kernel
      have h2 := List.all_eq_true.mp h1 _ z
      simp [yJ9_max_f86c9] at h2)
theorem wp_lcst {z : Fin 2} {y : Int} (d : decode M.2.1 pc = .ok (.lconst z, 1)) (hy : ((z : Nat) : Int) = y) (h : wp g M R Q k n (pc + 1) ls (.long (J y) :: st) hp) : wp g M R Q k n pc ls st hp := by
  subst hy
  exact wp_lconst d h
theorem I_c {x y : Int} (h : x = y) : some (Value.int (I x)) = some (Value.int (I y)) := by rw [h]
theorem J_c {x y : Int} (h : x = y) : some (Value.long (J x)) = some (Value.long (J y)) := by rw [h]
theorem wp_topJ {a b : Int} (e : a = b) (h : wp g M R Q k n pc ls (.long (J b) :: st) hp) : wp g M R Q k n pc ls (.long (J a) :: st) hp := by
  rw [e]
  exact h
end MP
