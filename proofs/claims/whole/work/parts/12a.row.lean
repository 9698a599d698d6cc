/-! Row, Text, Draws -/
section RW
variable {g : GT} {hp hp2 : Hp} {r t n : Nat} {l : List Int} {F S : Int → Int} {a b c v i : Int}
theorem gd_l {l m : List Int} {j : Nat} (h : j < l.length) : (l ++ m).getD j 0 = l.getD j 0 := by simp [List.getD, List.getElem?_append_left h]
theorem gd_r {l m : List Int} {j : Nat} (h : l.length ≤ j) : (l ++ m).getD j 0 = m.getD (j - l.length) 0 := by simp [List.getD, List.getElem?_append_right h]
def RowAt (hp : Hp) (r : Nat) (l : List Int) : Prop := ∃ F : Int → Int, hp.2 r = some (.inr (.inr (6, [.ref (r + 1), .int (I (l.length : Int))]))) ∧ hp.2 (r + 1) = some (.inl (.long, 6, F)) ∧ l.length ≤ 6 ∧ ∀ i : Nat, i < l.length → F (i : Int) = l.getD i 0
theorem RowAt.off (h : RowAt hp r l) (hS : ∀ x, r ≤ x → x < r + 2 → hp2.2 x = hp.2 x) : RowAt hp2 r l := by
  obtain ⟨F, r0, r1, hl, hF⟩ := h
  exact ⟨F, (hS _ (by omega) (by omega)).trans r0, (hS _ (by omega) (by omega)).trans r1, hl, hF⟩
theorem RowAt.fr (h : RowAt hp r l) {lo hi : Nat} (hS : SO hp hp2 lo hi) (hd : hi ≤ r ∨ r + 2 ≤ lo) : RowAt hp2 r l := h.off fun x _ _ => hS.2 x (by omega)
theorem sp_Row_clear (h : RowAt hp r l) : Sp g MX6_clear (rm 0 0 0) [.ref r] hp (Vod (fun hp2 => RowAt hp2 r [] ∧ SO hp hp2 r (r + 2))) := by
  obtain ⟨F, r0, r1, hl, hF⟩ := h
  refine Sp_mk rfl (Nat.le_of_ble_eq_true rfl) ?_
  show wp g _ _ _ 0 0 0 [some (.ref r)] [] hp
  refine wp_aload_n (pc := 0) dX6_clear_0 rfl ?_
  refine wp_iconst (pc := 1) dX6_clear_1 ?_
  refine wp_putf (pc := 2) dX6_clear_2 pf_X6_15 (by repeat (first | assumption | exact hset_eq | refine hset_at (by omega) ?_)) (by first | decide | exact Nat.lt_of_sub_pos (by decide) | simp) rfl rfl (by first | decide | intro h; cases h) ?_
  exact wp_vr (pc := 5) dX6_clear_5 rfl (by decide) (by decide) ⟨⟨F, hset_eq, hset_at (by omega) r1, by decide, fun i hi => by cases hi⟩, (by repeat (first | exact SO.rf | assumption | refine SO.set ?_ (by omega) (by omega)))⟩
theorem sp_Row_add (h : RowAt hp r l) (hn : l.length < 6) : Sp g MX6_add (rm 0 0 0) [.ref r, .long (J v)] hp (Vod (fun hp2 => RowAt hp2 r (l ++ [v]) ∧ SO hp hp2 r (r + 2))) := by
  obtain ⟨F, r0, r1, hl, hF⟩ := h
  refine Sp_mk rfl (Nat.le_of_ble_eq_true rfl) ?_
  show wp g _ _ _ 0 0 0 [some (.ref r), some (.long (J v)), none] [] hp
  refine wp_aload_n (pc := 0) dX6_add_0 rfl ?_
  refine wp_getf (pc := 1) dX6_add_1 gf_X6_15 (by repeat (first | assumption | exact hset_eq | refine hset_at (by omega) ?_)) (by rfl) ?_
  refine wp_aload_n (pc := 4) dX6_add_4 rfl ?_
  refine wp_getf (pc := 5) dX6_add_5 gf_X6_9 (by repeat (first | assumption | exact hset_eq | refine hset_at (by omega) ?_)) (by rfl) ?_
  refine wp_alen (pc := 8) dX6_add_8 (by repeat (first | assumption | exact hset_eq | refine hset_at (by omega) ?_)) ?_
  refine wp_icmp_ge (pc := 9) 32 dX6_add_9 (by decide) (by omega) (by omega) (fun c9 => ?_) (fun c9 => ?_)
  ·
    omega
  ·
    refine wp_aload_n (pc := 12) dX6_add_12 rfl ?_
    refine wp_getf (pc := 13) dX6_add_13 gf_X6_9 (by repeat (first | assumption | exact hset_eq | refine hset_at (by omega) ?_)) (by rfl) ?_
    refine wp_aload_n (pc := 16) dX6_add_16 rfl ?_
    refine wp_getf (pc := 17) dX6_add_17 gf_X6_15 (by repeat (first | assumption | exact hset_eq | refine hset_at (by omega) ?_)) (by rfl) ?_
    refine wp_lload_n (pc := 20) dX6_add_20 rfl ?_
    refine wp_last (pc := 21) dX6_add_21 (by repeat (first | assumption | exact hset_eq | refine hset_at (by omega) ?_)) (by omega) (by omega) (by decide) ?_
    refine wp_aload_n (pc := 22) dX6_add_22 rfl ?_
    refine wp_dup (pc := 23) dX6_add_23 rfl ?_
    refine wp_getf (pc := 24) dX6_add_24 gf_X6_15 (by repeat (first | assumption | exact hset_eq | refine hset_at (by omega) ?_)) (by rfl) ?_
    refine wp_iconst (pc := 27) dX6_add_27 ?_
    refine wp_iadd (pc := 28) dX6_add_28 ?_
    refine wp_putf (pc := 29) dX6_add_29 pf_X6_15 (by repeat (first | assumption | exact hset_eq | refine hset_at (by omega) ?_)) (by first | decide | exact Nat.lt_of_sub_pos (by decide) | simp) rfl rfl (by first | decide | intro h; cases h) ?_
    refine wp_vr dX6_add_32 rfl (by decide) (by decide) ⟨⟨updI F (l.length : Int) v, by rw [List.length_append]; exact hset_eq, hset_at (by omega) hset_eq, by rw [List.length_append]; exact hn, fun i hi => ?_⟩, (by repeat (first | exact SO.rf | assumption | refine SO.set ?_ (by omega) (by omega)))⟩
    rw [List.length_append] at hi
    by_cases e : i = l.length
    · subst e
      rw [updI_eq]
      simp
    · have hi2 : i < l.length := by simp at hi; omega
      rw [updI_ne (by omega), hF i hi2]
      simp [List.getD, List.getElem?_append_left hi2]
theorem sp_Row_tell (h : RowAt hp r l) : Sp g MX6_tell (rm 1 0 0) [.ref r, .long (J a)] hp (Vod (fun hp2 => RowAt hp2 r [a] ∧ SO hp hp2 r (r + 2))) := by
  have h' := h
  obtain ⟨F, r0, r1, hl, hF⟩ := h
  refine Sp_mk rfl (Nat.le_of_ble_eq_true rfl) ?_
  show wp g _ _ _ 0 0 0 [some (.ref r), some (.long (J a)), none] [] hp
  refine wp_aload_n (pc := 0) dX6_tell_0 rfl ?_
  refine wp_Vn (pc := 1) dX6_tell_1 cl_X6_19 (sp_Row_clear (by first | assumption | omega)) rfl rfl (by repeat (first | assumption | exact hset_eq | refine hset_at (by omega) ?_)) (by rfl) (by decide) (Nat.le_of_ble_eq_true rfl) (fun hp1 e1 => ?_)
  obtain ⟨h3, s3⟩ := e1
  have h3' := h3
  obtain ⟨F3, q0, q1, ql, qF⟩ := h3
  refine wp_aload_n (pc := 4) dX6_tell_4 rfl ?_
  refine wp_lload_n (pc := 5) dX6_tell_5 rfl ?_
  refine wp_Vn (pc := 6) dX6_tell_6 cl_X6_22 (sp_Row_add h3' (by decide)) rfl rfl (by repeat (first | assumption | exact hset_eq | refine hset_at (by omega) ?_)) (by rfl) (by decide) (Nat.le_of_ble_eq_true rfl) (fun hp6 e6 => ?_)
  exact wp_vr (pc := 9) dX6_tell_9 rfl (by decide) (by decide) ⟨e6.1, s3.tr e6.2⟩
theorem sp_Row_tell_ (h : RowAt hp r l) : Sp g MX6_tell_ (rm 2 0 0) [.ref r, .long (J a), .long (J b)] hp (Vod (fun hp2 => RowAt hp2 r [a, b] ∧ SO hp hp2 r (r + 2))) := by
  have h' := h
  obtain ⟨F, r0, r1, hl, hF⟩ := h
  refine Sp_mk rfl (Nat.le_of_ble_eq_true rfl) ?_
  show wp g _ _ _ 0 0 0 [some (.ref r), some (.long (J a)), none, some (.long (J b)), none] [] hp
  refine wp_aload_n (pc := 0) dX6_tell__0 rfl ?_
  refine wp_lload_n (pc := 1) dX6_tell__1 rfl ?_
  refine wp_Vn (pc := 2) dX6_tell__2 cl_X6_26 (sp_Row_tell (by first | assumption | omega)) rfl rfl (by repeat (first | assumption | exact hset_eq | refine hset_at (by omega) ?_)) (by rfl) (by decide) (Nat.le_of_ble_eq_true rfl) (fun hp2 e2 => ?_)
  obtain ⟨h3, s3⟩ := e2
  have h3' := h3
  obtain ⟨F3, q0, q1, ql, qF⟩ := h3
  refine wp_aload_n (pc := 5) dX6_tell__5 rfl ?_
  refine wp_lload_n (pc := 6) dX6_tell__6 rfl ?_
  refine wp_Vn (pc := 7) dX6_tell__7 cl_X6_22 (sp_Row_add h3' (by simp)) rfl rfl (by repeat (first | assumption | exact hset_eq | refine hset_at (by omega) ?_)) (by rfl) (by decide) (Nat.le_of_ble_eq_true rfl) (fun hp7 e7 => ?_)
  exact wp_vr (pc := 10) dX6_tell__10 rfl (by decide) (by decide) ⟨e7.1, s3.tr e7.2⟩
theorem sp_Row_tell__ (h : RowAt hp r l) : Sp g MX6_tell__ (rm 3 0 0) [.ref r, .long (J a), .long (J b), .long (J c)] hp (Vod (fun hp2 => RowAt hp2 r [a, b, c] ∧ SO hp hp2 r (r + 2))) := by
  have h' := h
  obtain ⟨F, r0, r1, hl, hF⟩ := h
  refine Sp_mk rfl (Nat.le_of_ble_eq_true rfl) ?_
  show wp g _ _ _ 0 0 0 [some (.ref r), some (.long (J a)), none, some (.long (J b)), none, some (.long (J c)), none] [] hp
  refine wp_aload_n (pc := 0) dX6_tell___0 rfl ?_
  refine wp_lload_n (pc := 1) dX6_tell___1 rfl ?_
  refine wp_lload_n (pc := 2) dX6_tell___2 rfl ?_
  refine wp_Vn (pc := 3) dX6_tell___3 cl_X6_29 (sp_Row_tell_ (by first | assumption | omega)) rfl rfl (by repeat (first | assumption | exact hset_eq | refine hset_at (by omega) ?_)) (by rfl) (by decide) (Nat.le_of_ble_eq_true rfl) (fun hp3 e3 => ?_)
  obtain ⟨h3, s3⟩ := e3
  have h3' := h3
  obtain ⟨F3, q0, q1, ql, qF⟩ := h3
  refine wp_aload_n (pc := 6) dX6_tell___6 rfl ?_
  refine wp_lload (pc := 7) dX6_tell___7 rfl ?_
  refine wp_Vn (pc := 9) dX6_tell___9 cl_X6_22 (sp_Row_add h3' (by simp)) rfl rfl (by repeat (first | assumption | exact hset_eq | refine hset_at (by omega) ?_)) (by rfl) (by decide) (Nat.le_of_ble_eq_true rfl) (fun hp9 e9 => ?_)
  exact wp_vr (pc := 12) dX6_tell___12 rfl (by decide) (by decide) ⟨e9.1, s3.tr e9.2⟩
theorem sp_Row_size (h : RowAt hp r l) : Sp g MX6_size (rm 0 0 0) [.ref r] hp (Pur (.int (I (l.length : Int))) hp) := by
  obtain ⟨F, r0, r1, hl, hF⟩ := h
  refine Sp_mk rfl (Nat.le_of_ble_eq_true rfl) ?_
  show wp g _ _ _ 0 0 0 [some (.ref r)] [] hp
  refine wp_aload_n (pc := 0) dX6_size_0 rfl ?_
  refine wp_getf (pc := 1) dX6_size_1 gf_X6_15 (by repeat (first | assumption | exact hset_eq | refine hset_at (by omega) ?_)) (by rfl) ?_
  exact wp_ir (pc := 4) dX6_size_4 rfl (by decide) (by decide) (by first | rfl | omega) rfl
theorem sp_Row_at (h : RowAt hp r l) (ri : InR i) : Sp g MX6_at (rm 0 0 0) [.ref r, .int (I i)] hp (Pur (.long (J (if 0 ≤ i ∧ i < l.length then l.getD i.toNat 0 else 0))) hp) := by
  obtain ⟨F, r0, r1, hl, hF⟩ := h
  refine Sp_mk rfl (Nat.le_of_ble_eq_true rfl) ?_
  show wp g _ _ _ 0 0 0 [some (.ref r), some (.int (I i))] [] hp
  refine wp_iload_n (pc := 0) dX6_at_0 rfl ?_
  refine wp_if_lt (pc := 1) 21 dX6_at_1 (by decide) (by omega) (fun c1 => ?_) (fun c1 => ?_)
  ·
    refine wp_lcst (pc := 21) (y := 0) dX6_at_21 rfl ?_
    exact wp_lr (pc := 22) dX6_at_22 rfl (by decide) (by decide) (by first | (rw [if_neg (by omega)]; done) | (rw [if_pos (by omega)]; have := hF i.toNat (by omega); rwa [Int.toNat_of_nonneg (by omega)] at this)) rfl
  ·
    refine wp_iload_n (pc := 4) dX6_at_4 rfl ?_
    refine wp_aload_n (pc := 5) dX6_at_5 rfl ?_
    refine wp_getf (pc := 6) dX6_at_6 gf_X6_15 (by repeat (first | assumption | exact hset_eq | refine hset_at (by omega) ?_)) (by rfl) ?_
    refine wp_icmp_ge (pc := 9) 21 dX6_at_9 (by decide) (by omega) (by omega) (fun c9 => ?_) (fun c9 => ?_)
    ·
      refine wp_lcst (pc := 21) (y := 0) dX6_at_21 rfl ?_
      exact wp_lr (pc := 22) dX6_at_22 rfl (by decide) (by decide) (by first | (rw [if_neg (by omega)]; done) | (rw [if_pos (by omega)]; have := hF i.toNat (by omega); rwa [Int.toNat_of_nonneg (by omega)] at this)) rfl
    ·
      refine wp_aload_n (pc := 12) dX6_at_12 rfl ?_
      refine wp_getf (pc := 13) dX6_at_13 gf_X6_9 (by repeat (first | assumption | exact hset_eq | refine hset_at (by omega) ?_)) (by rfl) ?_
      refine wp_iload_n (pc := 16) dX6_at_16 rfl ?_
      refine wp_lald (pc := 17) dX6_at_17 (by repeat (first | assumption | exact hset_eq | refine hset_at (by omega) ?_)) (by omega) (by omega) (by decide) ?_
      refine wp_goto (pc := 18) 22 dX6_at_18 (by decide) ?_
      exact wp_lr (pc := 22) dX6_at_22 rfl (by decide) (by decide) (by first | (rw [if_neg (by omega)]; done) | (rw [if_pos (by omega)]; have := hF i.toNat (by omega); rwa [Int.toNat_of_nonneg (by omega)] at this)) rfl
/-! THE TEXT: signs 0 .. 255 -/
def TextAt (hp : Hp) (t : Nat) (l : List Int) : Prop := ∃ S : Int → Int, hp.2 t = some (.inr (.inr (9, [.ref (t + 1), .int (I (l.length : Int))]))) ∧ hp.2 (t + 1) = some (.inl (.int, 80, S)) ∧ l.length ≤ 80 ∧ ∀ i : Nat, i < l.length → S (i : Int) = l.getD i 0
theorem TextAt.off (h : TextAt hp t l) (hS : ∀ x, t ≤ x → x < t + 2 → hp2.2 x = hp.2 x) : TextAt hp2 t l := by
  obtain ⟨F, r0, r1, hl, hF⟩ := h
  exact ⟨F, (hS _ (by omega) (by omega)).trans r0, (hS _ (by omega) (by omega)).trans r1, hl, hF⟩
theorem TextAt.fr (h : TextAt hp t l) {lo hi : Nat} (hS : SO hp hp2 lo hi) (hd : hi ≤ t ∨ t + 2 ≤ lo) : TextAt hp2 t l := h.off fun x _ _ => hS.2 x (by omega)
theorem sp_Text_clear (h : TextAt hp t l) : Sp g MX9_clear (rm 0 0 0) [.ref t] hp (Vod (fun hp2 => TextAt hp2 t [] ∧ SO hp hp2 t (t + 2))) := by
  obtain ⟨F, r0, r1, hl, hF⟩ := h
  refine Sp_mk rfl (Nat.le_of_ble_eq_true rfl) ?_
  show wp g _ _ _ 0 0 0 [some (.ref t)] [] hp
  refine wp_aload_n (pc := 0) dX9_clear_0 rfl ?_
  refine wp_iconst (pc := 1) dX9_clear_1 ?_
  refine wp_putf (pc := 2) dX9_clear_2 pf_X9_15 (by repeat (first | assumption | exact hset_eq | refine hset_at (by omega) ?_)) (by first | decide | exact Nat.lt_of_sub_pos (by decide) | simp) rfl rfl (by first | decide | intro h; cases h) ?_
  exact wp_vr (pc := 5) dX9_clear_5 rfl (by decide) (by decide) ⟨⟨F, hset_eq, hset_at (by omega) r1, by decide, fun i hi => by cases hi⟩, (by repeat (first | exact SO.rf | assumption | refine SO.set ?_ (by omega) (by omega)))⟩
theorem sp_Text_length (h : TextAt hp t l) : Sp g MX9_length (rm 0 0 0) [.ref t] hp (Pur (.int (I (l.length : Int))) hp) := by
  obtain ⟨F, r0, r1, hl, hF⟩ := h
  refine Sp_mk rfl (Nat.le_of_ble_eq_true rfl) ?_
  show wp g _ _ _ 0 0 0 [some (.ref t)] [] hp
  refine wp_aload_n (pc := 0) dX9_length_0 rfl ?_
  refine wp_getf (pc := 1) dX9_length_1 gf_X9_15 (by repeat (first | assumption | exact hset_eq | refine hset_at (by omega) ?_)) (by rfl) ?_
  exact wp_ir (pc := 4) dX9_length_4 rfl (by decide) (by decide) (by first | rfl | omega) rfl
def tat (l : List Int) (i : Int) : Int := if 0 ≤ i ∧ i < l.length then l.getD i.toNat 0 else -1
theorem sp_Text_at (h : TextAt hp t l) (ri : InR i) : Sp g MX9_at (rm 0 0 0) [.ref t, .int (I i)] hp (Pur (.int (I (tat l i))) hp) := by
  obtain ⟨F, r0, r1, hl, hF⟩ := h
  refine Sp_mk rfl (Nat.le_of_ble_eq_true rfl) ?_
  show wp g _ _ _ 0 0 0 [some (.ref t), some (.int (I i))] [] hp
  refine wp_iload_n (pc := 0) dX9_at_0 rfl ?_
  refine wp_if_lt (pc := 1) 21 dX9_at_1 (by decide) (by omega) (fun c1 => ?_) (fun c1 => ?_)
  ·
    refine wp_iconst (pc := 21) dX9_at_21 ?_
    exact wp_ir (pc := 22) dX9_at_22 rfl (by decide) (by decide) (by unfold tat; first | (rw [if_neg (by omega)]; done) | (rw [if_pos (by omega)]; have := hF i.toNat (by omega); rwa [Int.toNat_of_nonneg (by omega)] at this)) rfl
  ·
    refine wp_iload_n (pc := 4) dX9_at_4 rfl ?_
    refine wp_aload_n (pc := 5) dX9_at_5 rfl ?_
    refine wp_getf (pc := 6) dX9_at_6 gf_X9_15 (by repeat (first | assumption | exact hset_eq | refine hset_at (by omega) ?_)) (by rfl) ?_
    refine wp_icmp_ge (pc := 9) 21 dX9_at_9 (by decide) (by omega) (by omega) (fun c9 => ?_) (fun c9 => ?_)
    ·
      refine wp_iconst (pc := 21) dX9_at_21 ?_
      exact wp_ir (pc := 22) dX9_at_22 rfl (by decide) (by decide) (by unfold tat; first | (rw [if_neg (by omega)]; done) | (rw [if_pos (by omega)]; have := hF i.toNat (by omega); rwa [Int.toNat_of_nonneg (by omega)] at this)) rfl
    ·
      refine wp_aload_n (pc := 12) dX9_at_12 rfl ?_
      refine wp_getf (pc := 13) dX9_at_13 gf_X9_11 (by repeat (first | assumption | exact hset_eq | refine hset_at (by omega) ?_)) (by rfl) ?_
      refine wp_iload_n (pc := 16) dX9_at_16 rfl ?_
      refine wp_iald (pc := 17) dX9_at_17 (by repeat (first | assumption | exact hset_eq | refine hset_at (by omega) ?_)) (by omega) (by omega) (by decide) ?_
      refine wp_goto (pc := 18) 22 dX9_at_18 (by decide) ?_
      exact wp_ir (pc := 22) dX9_at_22 rfl (by decide) (by decide) (by unfold tat; first | (rw [if_neg (by omega)]; done) | (rw [if_pos (by omega)]; have := hF i.toNat (by omega); rwa [Int.toNat_of_nonneg (by omega)] at this)) rfl
theorem sp_Text_cut (h : TextAt hp t l) (ri : InR i) : Sp g MX9_cut (rm 0 0 0) [.ref t, .int (I i)] hp (Eff (.int (B (0 ≤ i ∧ i ≤ l.length))) (fun hp2 => TextAt hp2 t (if 0 ≤ i ∧ i ≤ l.length then l.take i.toNat else l) ∧ SO hp hp2 t (t + 2))) := by
  have h' := h
  obtain ⟨F, r0, r1, hl, hF⟩ := h
  refine Sp_mk rfl (Nat.le_of_ble_eq_true rfl) ?_
  show wp g _ _ _ 0 0 0 [some (.ref t), some (.int (I i))] [] hp
  refine wp_iload_n (pc := 0) dX9_cut_0 rfl ?_
  refine wp_if_lt (pc := 1) 12 dX9_cut_1 (by decide) (by omega) (fun c1 => ?_) (fun c1 => ?_)
  ·
    refine wp_iconst (pc := 12) dX9_cut_12 ?_
    exact wp_z0 dX9_cut_13 rfl (by decide) (by decide) (by omega) ⟨by rw [if_neg (by omega)]; exact h', SO.rf⟩
  ·
    refine wp_iload_n (pc := 4) dX9_cut_4 rfl ?_
    refine wp_aload_n (pc := 5) dX9_cut_5 rfl ?_
    refine wp_getf (pc := 6) dX9_cut_6 gf_X9_15 (by repeat (first | assumption | exact hset_eq | refine hset_at (by omega) ?_)) (by rfl) ?_
    refine wp_icmp_le (pc := 9) 14 dX9_cut_9 (by decide) (by omega) (by omega) (fun c9 => ?_) (fun c9 => ?_)
    ·
      refine wp_aload_n (pc := 14) dX9_cut_14 rfl ?_
      refine wp_iload_n (pc := 15) dX9_cut_15 rfl ?_
      refine wp_putf (pc := 16) dX9_cut_16 pf_X9_15 (by repeat (first | assumption | exact hset_eq | refine hset_at (by omega) ?_)) (by first | decide | exact Nat.lt_of_sub_pos (by decide) | simp) rfl rfl (by first | decide | intro h; cases h) ?_
      refine wp_iconst (pc := 19) dX9_cut_19 ?_
      have e : ((l.take i.toNat).length : Int) = i := by rw [List.length_take]; omega
      exact wp_z1 dX9_cut_20 rfl (by decide) (by decide) (by omega) ⟨by rw [if_pos (by omega)]; exact ⟨F, by rw [e]; exact hset_eq, hset_at (by omega) r1, by omega, fun j hj => by rw [hF j (by omega)]; simp only [List.getD]; rw [List.getElem?_take, if_pos (by omega)]⟩, (by repeat (first | exact SO.rf | assumption | refine SO.set ?_ (by omega) (by omega)))⟩
    ·
      refine wp_iconst (pc := 12) dX9_cut_12 ?_
      exact wp_z0 dX9_cut_13 rfl (by decide) (by decide) (by omega) ⟨by rw [if_neg (by omega)]; exact h', SO.rf⟩
/-- the byte number k of an int, the highest first -/
def byt (x : Int32) (k : Nat) : Int := ((x.toBitVec.toNat / 2 ^ (24 - 8 * k) % 256 : Nat) : Int)
theorem byt_ok (x : Int32) {k : Nat} (hk : k < 4) : (x.toUInt32 >>> ((I (24 - 8 * (k : Int))).toUInt32 &&& Int32.toUInt32 31)).toInt32 &&& I 255 = I (byt x k) := by
  have h1 : ∀ k : Fin 4, (((I (24 - 8 * ((k : Nat) : Int))).toUInt32 &&& Int32.toUInt32 31).toBitVec % 32).toNat = 24 - 8 * (k : Nat) := by decide +kernel
  have h2 := pk_ushr x (I (24 - 8 * (k : Int))) (24 - 8 * k) (h1 ⟨k, hk⟩)
  have h3 := pk_and ((x.toUInt32 >>> ((I (24 - 8 * (k : Int))).toUInt32 &&& Int32.toUInt32 31)).toInt32) (m := I 255) 8 (by decide)
  rw [h3, h2]
  unfold byt
  rw [I_nat]
  rfl
def by4 (x : Int32) : List Int := [byt x 0, byt x 1, byt x 2, byt x 3]
theorem by4_get (x : Int32) {k : Nat} (hk : k < 4) : (by4 x).getD k 0 = byt x k := by
  match k, hk with
  | 0, _ => rfl
  | 1, _ => rfl
  | 2, _ => rfl
  | 3, _ => rfl
theorem byt_in (x : Int32) (k : Nat) : 0 ≤ byt x k ∧ byt x k < 256 := by unfold byt; omega
theorem lp_Text_add {x : Int32} (hl : l.length + 4 ≤ 80) : ∀ (m i : Nat), 4 < i + m → i ≤ 4 → ∀ (hp2 : Hp) (S : Int → Int), hp2.2 t = some (.inr (.inr (9, [.ref (t + 1), .int (I (l.length : Int))]))) → hp2.2 (t + 1) = some (.inl (.int, 80, S)) → (∀ j : Nat, j < l.length + i → S (j : Int) = (l ++ by4 x).getD j 0) → SO hp hp2 t (t + 2) → wp g MX9_add (rm 0 0 0) (Eff (.int (I ((l.length + 4 : Nat) : Int))) (fun hp2 => TextAt hp2 t (l ++ by4 x) ∧ SO hp hp2 t (t + 2))) 0 0 15 [some (.ref t), some (.int x), some (.int (I (i : Int)))] [] hp2 := by
  intro m
  induction m with
  | zero => intro i h1 h2; exact absurd h1 (by omega)
  | succ m ih =>
    intro i h1 h2 hp2 S r0 r1 hF hS
    refine wp_iload_n (pc := 15) dX9_add_15 rfl ?_
    refine wp_iconst (pc := 16) dX9_add_16 ?_
    refine wp_icmp_ge (pc := 17) 50 dX9_add_17 (by decide) (by omega) (by omega) (fun c17 => ?_) (fun c17 => ?_)
    ·
      have e : i = 4 := by omega
      subst e -- go
      refine wp_aload_n (pc := 50) dX9_add_50 rfl ?_
      refine wp_dup (pc := 51) dX9_add_51 rfl ?_
      refine wp_getf (pc := 52) dX9_add_52 gf_X9_15 (by repeat (first | assumption | exact hset_eq | refine hset_at (by omega) ?_)) (by rfl) ?_
      refine wp_iconst (pc := 55) dX9_add_55 ?_
      refine wp_iadd (pc := 56) dX9_add_56 ?_
      refine wp_putf (pc := 57) dX9_add_57 pf_X9_15 (by repeat (first | assumption | exact hset_eq | refine hset_at (by omega) ?_)) (by first | decide | exact Nat.lt_of_sub_pos (by decide) | simp) rfl rfl (by first | decide | intro h; cases h) ?_
      refine wp_aload_n (pc := 60) dX9_add_60 rfl ?_
      refine wp_getf (pc := 61) dX9_add_61 gf_X9_15 (by repeat (first | assumption | exact hset_eq | refine hset_at (by omega) ?_)) (by rfl) ?_
      exact wp_ir dX9_add_64 rfl (by decide) (by decide) rfl ⟨⟨S, by rw [List.length_append]; exact hset_eq, hset_at (by omega) r1, by rw [List.length_append]; exact hl, fun j hj => hF j (by rw [List.length_append] at hj; exact hj)⟩, hS.set (by omega) (by omega)⟩
    ·
      skip -- go
      refine wp_aload_n (pc := 20) dX9_add_20 rfl ?_
      refine wp_getf (pc := 21) dX9_add_21 gf_X9_11 (by repeat (first | assumption | exact hset_eq | refine hset_at (by omega) ?_)) (by rfl) ?_
      refine wp_aload_n (pc := 24) dX9_add_24 rfl ?_
      refine wp_getf (pc := 25) dX9_add_25 gf_X9_15 (by repeat (first | assumption | exact hset_eq | refine hset_at (by omega) ?_)) (by rfl) ?_
      refine wp_iload_n (pc := 28) dX9_add_28 rfl ?_
      refine wp_iadd (pc := 29) dX9_add_29 ?_
      refine wp_iload_n (pc := 30) dX9_add_30 rfl ?_
      refine wp_bipush (pc := 31) (y := 24) dX9_add_31 (by decide) ?_
      refine wp_bipush (pc := 33) (y := 8) dX9_add_33 (by decide) ?_
      refine wp_iload_n (pc := 35) dX9_add_35 rfl ?_
      refine wp_imul (pc := 36) dX9_add_36 ?_
      refine wp_isub (pc := 37) dX9_add_37 ?_
      refine wp_iushr (pc := 38) dX9_add_38 rfl ?_
      refine wp_sipush (pc := 39) (y := 255) dX9_add_39 (by decide) ?_
      refine wp_iand (pc := 42) dX9_add_42 (byt_ok x (by omega)) ?_
      refine wp_iast (pc := 43) dX9_add_43 (by repeat (first | assumption | exact hset_eq | refine hset_at (by omega) ?_)) (by omega) (by omega) (by decide) ?_
      refine wp_iinc (pc := 44) dX9_add_44 rfl (by decide) ?_
      refine wp_goto (pc := 47) 15 dX9_add_47 (by decide) ?_
      refine wp_ls ?_ (ih (i + 1) (by omega) (by omega) _ (updI S ((l.length : Int) + (i : Int)) (byt x i)) (hset_at (by omega) r0) hset_eq (fun j hj => ?_) (hS.set (by omega) (by omega)))
      · repeat' (first | exact LE_0 | refine LE_s rfl ?_ | refine LE_s (I_c (by first | omega | (simp only [sm]; omega))) ?_ | refine LE_s (J_c (by first | omega | exact Int.pow_succ _ _ | exact (Int.pow_succ _ _).symm | (simp only [sm]; omega))) ?_ | refine LE_n ?_)
      · by_cases e : j = l.length + i
        · subst e
          rw [show ((l.length + i : Nat) : Int) = (l.length : Int) + (i : Int) from rfl, updI_eq]
          rw [gd_r (by omega), Nat.add_sub_cancel_left, by4_get x (by omega)]
        · rw [updI_ne (by omega), hF j (by omega)]
theorem sp_Text_add {x : Int32} (h : TextAt hp t l) : Sp g MX9_add (rm 0 0 0) [.ref t, .int x] hp (Eff (.int (I (if l.length + 4 ≤ 80 then (l.length : Int) + 4 else -1))) (fun hp2 => TextAt hp2 t (if l.length + 4 ≤ 80 then l ++ by4 x else l) ∧ SO hp hp2 t (t + 2))) := by
  have h' := h
  obtain ⟨F, r0, r1, hl, hF⟩ := h
  refine Sp_mk rfl (Nat.le_of_ble_eq_true rfl) ?_
  show wp g _ _ _ 0 0 0 [some (.ref t), some (.int x), none] [] hp
  refine wp_aload_n (pc := 0) dX9_add_0 rfl ?_
  refine wp_getf (pc := 1) dX9_add_1 gf_X9_15 (by repeat (first | assumption | exact hset_eq | refine hset_at (by omega) ?_)) (by rfl) ?_
  refine wp_iconst (pc := 4) dX9_add_4 ?_
  refine wp_iadd (pc := 5) dX9_add_5 ?_
  refine wp_bipush (pc := 6) (y := 80) dX9_add_6 (by decide) ?_
  refine wp_icmp_le (pc := 8) 13 dX9_add_8 (by decide) (by omega) (by omega) (fun c8 => ?_) (fun c8 => ?_)
  ·
    refine wp_iconst (pc := 13) dX9_add_13 ?_
    refine wp_istore_n (pc := 14) dX9_add_14 (by decide) ?_
    rw [if_pos (show l.length + 4 ≤ 80 by omega), if_pos (show l.length + 4 ≤ 80 by omega)]
    refine lp_Text_add (by omega) 5 0 (by omega) (by omega) hp F r0 r1 (fun j hj => ?_) SO.rf
    rw [hF j (by omega), gd_l (by omega)]
  ·
    refine wp_iconst (pc := 11) dX9_add_11 ?_
    exact wp_ir (pc := 12) dX9_add_12 rfl (by decide) (by decide) (by rw [if_neg (by omega)]) ⟨by rw [if_neg (by omega)]; exact h', SO.rf⟩
/-! draws -/
def DrawAt (hp : Hp) (t : Nat) (s : Int) : Prop := hp.2 t = some (.inr (.inr (1, [.int (I s)])))
def nxt (s : Int) : Int := s * 1103515245 + 12345
def hi16 (s : Int) : Int := (((I s).toBitVec.toNat / 65536 : Nat) : Int)
theorem hi16_in (s : Int) : 0 ≤ hi16 s ∧ hi16 s < 65536 := by
  unfold hi16
  have := (I s).toBitVec.isLt
  omega
theorem hi16_ok (s : Int) : ((I s).toUInt32 >>> ((I 16).toUInt32 &&& Int32.toUInt32 31)).toInt32 = I (hi16 s) := by
  have h2 := pk_ushr (I s) (I 16) 16 (by decide)
  have hlt := (I s).toBitVec.isLt
  apply Int32.toBitVec_inj.mp
  apply BitVec.eq_of_toNat_eq
  rw [h2]
  unfold hi16
  rw [I_nat]
  have := pk_tn (n := (I s).toBitVec.toNat / 65536) (by omega)
  exact this.symm
theorem sp_Draws_start {s : Int} (h : DrawAt hp t s) : Sp g MX1_start (rm 0 0 0) [.ref t, .int (I a)] hp (Vod (fun hp2 => DrawAt hp2 t a ∧ SO hp hp2 t (t + 1))) := by
  unfold DrawAt at h
  refine Sp_mk rfl (Nat.le_of_ble_eq_true rfl) ?_
  show wp g _ _ _ 0 0 0 [some (.ref t), some (.int (I a))] [] hp
  refine wp_aload_n (pc := 0) dX1_start_0 rfl ?_
  refine wp_iload_n (pc := 1) dX1_start_1 rfl ?_
  refine wp_putf (pc := 2) dX1_start_2 pf_X1_7 (by repeat (first | assumption | exact hset_eq | refine hset_at (by omega) ?_)) (by first | decide | exact Nat.lt_of_sub_pos (by decide) | simp) rfl rfl (by first | decide | intro h; cases h) ?_
  exact wp_vr (pc := 5) dX1_start_5 rfl (by decide) (by decide) ⟨hset_eq, (by repeat (first | exact SO.rf | assumption | refine SO.set ?_ (by omega) (by omega)))⟩
theorem sp_Draws_of {s : Int} (h : DrawAt hp t s) (hn : 0 < a) (hn2 : a < 65536) : Sp g MX1_of (rm 0 0 0) [.ref t, .int (I a)] hp (Eff (.int (I (hi16 (nxt s) % a))) (fun hp2 => DrawAt hp2 t (nxt s) ∧ SO hp hp2 t (t + 1))) := by
  unfold DrawAt at h
  have hh := hi16_in (nxt s)
  refine Sp_mk rfl (Nat.le_of_ble_eq_true rfl) ?_
  show wp g _ _ _ 0 0 0 [some (.ref t), some (.int (I a))] [] hp
  refine wp_aload_n (pc := 0) dX1_of_0 rfl ?_
  refine wp_aload_n (pc := 1) dX1_of_1 rfl ?_
  refine wp_getf (pc := 2) dX1_of_2 gf_X1_7 (by repeat (first | assumption | exact hset_eq | refine hset_at (by omega) ?_)) (by rfl) ?_
  refine wp_ldc (pc := 5) dX1_of_5 kc_X1_13 ?_
  refine wp_imul (pc := 7) dX1_of_7 ?_
  refine wp_sipush (pc := 8) (y := 12345) dX1_of_8 (by decide) ?_
  refine wp_iadd (pc := 11) dX1_of_11 ?_
  refine wp_putf (pc := 12) dX1_of_12 pf_X1_7 (by repeat (first | assumption | exact hset_eq | refine hset_at (by omega) ?_)) (by first | decide | exact Nat.lt_of_sub_pos (by decide) | simp) rfl rfl (by first | decide | intro h; cases h) ?_
  refine wp_iload_n (pc := 15) dX1_of_15 rfl ?_
  refine wp_if_gt (pc := 16) 23 dX1_of_16 (by decide) (by omega) (fun c16 => ?_) (fun c16 => ?_)
  ·
    refine wp_aload_n (pc := 23) dX1_of_23 rfl ?_
    refine wp_getf (pc := 24) dX1_of_24 gf_X1_7 (by repeat (first | assumption | exact hset_eq | refine hset_at (by omega) ?_)) (by rfl) ?_
    refine wp_bipush (pc := 27) (y := 16) dX1_of_27 (by decide) ?_
    refine wp_iushr (pc := 29) dX1_of_29 (hi16_ok _) ?_
    refine wp_iload_n (pc := 30) dX1_of_30 rfl ?_
    refine wp_irem (pc := 31) dX1_of_31 (I_ne0 (by omega) (by omega)) (I_rem hh.1 (by have := hh.2; unfold nxt at this; omega) (by omega) (by omega)) ?_
    exact wp_ir (pc := 32) dX1_of_32 rfl (by decide) (by decide) (by first | rfl | omega) ⟨hset_eq, (by repeat (first | exact SO.rf | assumption | refine SO.set ?_ (by omega) (by omega)))⟩
  ·
    omega
end RW

