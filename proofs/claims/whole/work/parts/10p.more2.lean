section MP
variable {g : GT} {M : MI} {R : Room} {Q : Option Value → Hp → Prop} {k n pc : Nat} {ls : List (Option Value)} {st : List Value} {hp : Hp}
abbrev JR (a : Int) : Prop := -9223372036854775808 ≤ a ∧ a < 9223372036854775808
theorem maxl_code : cJ9_max_f86c9 = Lib.MathLoose.max_long.code := by decide +kernel
theorem maxl_name : yJ9_max_f86c9 = Lib.MathLoose.max_long.x := by decide +kernel
theorem wp_maxl {a b : Int} {idx : Nat} (d : decode M.2.1 pc = .ok (.invokestatic idx, 3)) (G : CS M.1.cls idx MJ9_max_f86c9 2) (hf : 1 ≤ R.frames) (hlo : 23 ≤ R.locals) (hk : k ≤ R.cells) (hn : n ≤ R.slots) (hst : (st.map fun v => v.category).sum ≤ 8) (ra : JR a) (rb : JR b) (h : wp g M R Q k n (pc + 3) ls (.long (J (mx a b)) :: st) hp) : wp g M R Q k n pc ls (.long (J b) :: .long (J a) :: st) hp := by
  intro p e s m args below meth c H locs lsA C P L A
  have hts := C.2.2.2.2.2.1
  have hc := cat_cv (g := g) hst
  obtain ⟨⟨hl, hini, hcode, -⟩, hsta⟩ := G
  have hcode' : (Cond.code Lib.MathLoose.max_long.x Lib.MathLoose.max_long.code 4 (some .long)).before args s = true := by
    have := hts _ hcode
    rw [show MJ9_max_f86c9.1 = Lib.MathLoose.max_long.x from maxl_name, show MJ9_max_f86c9.2.1 = Lib.MathLoose.max_long.code from maxl_code] at this
    exact this
  have hsta' : (Cond.static Lib.MathLoose.max_long.x).before args s = true := by
    have := hts _ hsta
    rw [show MJ9_max_f86c9.1 = Lib.MathLoose.max_long.x from maxl_name] at this
    exact this
  rcases hl with hl | ⟨host, hl⟩
  · have hl' : (Cond.methodLink M.1.cls idx Lib.MathLoose.max_long.x).before args s = true := by
      have := hts _ hl
      rw [show MJ9_max_f86c9.1 = Lib.MathLoose.max_long.x from maxl_name] at this
      exact this
    refine va_mmax_long C.1 C.2.1 (by rw [C.2.2.1]; exact A.1.symm) C.2.2.2.2.1 hl' hsta' (hts _ hini) hcode' hf (by omega) hk hn d ?_
    have ee : (if J b < J a then J a else J b) = J (mx a b) := by
      have h1 : (J b < J a) ↔ b < a := by rw [Int64.lt_iff_toInt_lt, J_toInt ra, J_toInt rb]
      unfold mx
      by_cases z : b < a
      · rw [if_pos (h1.mpr z), if_neg (by omega)]
      · rw [if_neg (fun y => z (h1.mp y))]
        by_cases z2 : a < b
        · rw [if_pos z2]
        · rw [if_neg z2, show a = b by omega]
    rw [ee]
    exact h p e s m args below meth c H locs lsA C P L A
  · have : (Cond.methodLinkNest M.1.cls idx MJ9_max_f86c9.1 host) ∈ lw_tbl := (List.mem_filter.mp hl).1
    exact absurd this (by
      intro z
      have h1 : lw_tbl.all (fun w => match w with | .methodLinkNest _ _ y _ => y.name != "max" | _ => true) = true := by decide +kernel
      have h2 := List.all_eq_true.mp h1 _ z
      simp [yJ9_max_f86c9] at h2)
theorem wp_lcst {z : Fin 2} {y : Int} (d : decode M.2.1 pc = .ok (.lconst z, 1)) (hy : ((z : Nat) : Int) = y) (h : wp g M R Q k n (pc + 1) ls (.long (J y) :: st) hp) : wp g M R Q k n pc ls st hp := by
  subst hy
  exact wp_lconst d h
theorem I_c {x y : Int} (h : x = y) : some (Value.int (I x)) = some (Value.int (I y)) := by rw [h]
theorem J_c {x y : Int} (h : x = y) : some (Value.long (J x)) = some (Value.long (J y)) := by rw [h]
theorem wp_topJ {a b : Int} (e : a = b) (h : wp g M R Q k n pc ls (.long (J b) :: st) hp) : wp g M R Q k n pc ls (.long (J a) :: st) hp := by
  rw [e]
  exact h
/-! the String constant: address 1, its bytes 2; the formatter 3 -/
theorem Rep.old {g : GT} {s : State} {H : Heap} (P : Rep g s hp H) (O : (hp0 g).size = bs g) : ∀ a : Nat, a < (hp0 g).size → ¬ bs g ≤ a → H[a]? = (hp0 g)[a]? := fun a h _ => P.2.1 a (by rw [O] at h; exact h)
theorem wp_ldcS (d : decode M.2.1 pc = .ok (.ldc 49, 2)) (ho : M.1.cls = "DeadTillSix$Rule") (h : wp g M R Q k n (pc + 2) ls (.ref 1 :: st) hp) : wp g M R Q k n pc ls st hp := by
  intro p e s m args below meth c H locs lsA C P L A
  obtain ⟨s0, O, hal, hr⟩ := C.2.2.2.2.2.2.2.2.2.2
  exact va_ldcS C.1 C.2.1 (own := "DeadTillSix$Rule") (by rw [← ho]; exact C.2.2.2.2.1) hr d (h p e s m args below meth c H locs lsA C P L A)
theorem wp_getSt {C n' ds own ref : String} {idx : Nat} {v : Value} (d : decode M.2.1 pc = .ok (.getstatic idx, 3)) (hl : Cond.fieldLink M.1.cls idx C n' ds ∈ gt) (hZ : ∀ s0, Old g s0 → va_Z C n' ds (cv g v) (fun q => bs g ≤ q) s0 (hp0 g)) (h : wp g M R Q k n (pc + 3) ls (v :: st) hp) : wp g M R Q k n pc ls st hp := by
  intro p e s m args below meth c H locs lsA C P L A
  obtain ⟨s0, O, hal, -⟩ := C.2.2.2.2.2.2.2.2.2.2
  obtain ⟨cf, kf, fi, f, a, cell, h1, h2, h3, h4, h5, h6, h7, h8⟩ := ((hZ s0 O).moved hal).kept (P.old O.2.1)
  exact W.gets C.1 C.2.1 C.2.2.2.2.1 (C.2.2.2.2.2.1 _ hl) h1 h2 h3 h4 h5 (fun e => by rw [e] at h6; cases h6) h7 rfl d (h p e s m args below meth c H locs lsA C P L A)
theorem wp_getOf {o n' ds : String} {idx q : Nat} {v : Value} (d : decode M.2.1 pc = .ok (.getfield idx, 3)) (hl : Cond.fieldLink M.1.cls idx o n' ds ∈ gt) (hZ : ∀ s0, Old g s0 → va_OF o n' ds (cv g v) (ad g q) (fun q => bs g ≤ q) s0 (hp0 g)) (h : wp g M R Q k n (pc + 3) ls (v :: st) hp) : wp g M R Q k n pc ls (.ref q :: st) hp := by
  intro p e s m args below meth c H locs lsA C P L A
  obtain ⟨s0, O, hal, -⟩ := C.2.2.2.2.2.2.2.2.2.2
  obtain ⟨cf, kf, fi, f, cell, h1, h2, h3, h4, h5, h6⟩ := (va_OF.moved hal (hZ s0 O)).kept (P.old O.2.1)
  exact W.getf C.1 C.2.1 C.2.2.2.2.1 (C.2.2.2.2.2.1 _ hl) h1 h2 h3 h4 (v := cv g v) h5 rfl rfl d (h p e s m args below meth c H locs lsA C P L A)
theorem wp_i2c {x v : Int32} (d : decode M.2.1 pc = .ok (.i2c, 1)) (hv : (x.toUInt32 % 65536).toInt32 = v) (h : wp g M R Q k n (pc + 1) ls (.int v :: st) hp) : wp g M R Q k n pc ls (.int x :: st) hp := by
  intro p e s m args below meth c H locs lsA C P L A
  exact lv_i2c C.1 C.2.1 d hv (h p e s m args below meth c H locs lsA C P L A)
end MP
