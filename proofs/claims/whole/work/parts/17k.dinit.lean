/-! the class: making it -/
section DI
variable {g : GT} {M : MI} {R : Room} {Q : Option Value → Hp → Prop} {k n pc : Nat} {ls : List (Option Value)} {st : List Value} {hp hp2 : Hp} {A D b : Nat}
theorem lp_Past_init (e1 : hp.1 + 4 = A + 1) : ∀ (m i : Nat), 13 < i + m → i ≤ 13 → ∀ (hp2 : Hp) (F : Nat → Option Nat) (e : hp2.1 + 4 = A + 2 + 8 * i) (p0 : hp2.2 A = some (.inr (.inr (5, [.ref (A + 1), .int (I 0), .int (I 0)])))) (p1 : hp2.2 (A + 1) = some (.inr (.inl ("DeadTillSix$Town", 13, F)))) (hF : ∀ j, j < i → F j = some (A + 2 + 8 * j)) (hT : ∀ j, j < i → TownAt hp2 (A + 2 + 8 * j) (fun _ _ => 0)) (o : ∀ x, x < A → hp2.2 x = hp.2 x), wp g MX5_init (rm 2 105 1456) (Vod (fun hp3 => LAt hp3 A [] (fun _ _ => 0) ∧ NO hp hp3 A 105)) (1 + 8 * i) (13 + 111 * i) 15 [some (.ref A), some (.int (I (i : Int)))] [] hp2 := by
  intro m
  induction m with
  | zero => intro i h1 h2; exact absurd h1 (by omega)
  | succ m ih =>
    intro i h1 h2 hp2 F e p0 p1 hF hT o
    refine wp_iload_n (pc := 15) dX5_init_15 rfl ?_
    refine wp_bipush (pc := 16) (y := 13) dX5_init_16 (by decide) ?_
    refine wp_icmp_ge (pc := 18) 40 dX5_init_18 (by decide) (by omega) (by omega) (fun c => ?_) (fun c => ?_)
    · have ei : i = 13 := by omega
      subst ei
      exact wp_vr (pc := 40) dX5_init_40 rfl (by decide) (by decide) ⟨⟨fun _ _ _ => 0, 0, ⟨p0, ⟨F, p1, hF⟩, hT, by decide, by decide⟩, fun i hi => absurd hi (by simp), rfl⟩, by omega, o⟩
    · refine wp_aload_n (pc := 21) dX5_init_21 rfl ?_
      refine wp_getf (pc := 22) dX5_init_22 gf_X5_11 p0 (by rfl) ?_
      refine wp_iload_n (pc := 25) dX5_init_25 rfl ?_
      refine wp_nwo (pc := 26) (b := A + 2 + 8 * i) dX5_init_26 e nw_X5_9 rfl (by show _ ≤ 105; omega) (by show _ ≤ 1456; omega) ?_
      refine wp_dup (pc := 29) dX5_init_29 rfl ?_
      refine wp_callI (pc := 30) dX5_init_30 cl_X5_15 (as := []) (sp_Town_init (A := A + 2 + 8 * i) (by show hp2.1 + 1 + 4 = _; omega) hnw_eq) ⟨by decide, by decide, by show _ + 7 ≤ 105; omega, by show _ + 102 ≤ 1456; omega⟩ (Nat.le_of_ble_eq_true rfl) rfl (fun v hp3 hv => ?_)
      obtain ⟨rfl, t3, no⟩ := hv
      have n3 : hp3.1 = hp2.1 + 1 + 7 := no.1
      have q1 : hp3.2 (A + 1) = some (.inr (.inl ("DeadTillSix$Town", 13, F))) := (no.2 _ (by omega)).trans ((hnw_ne (by omega)).trans p1)
      show wp g _ _ _ (1 + 8 * i + 1 + 7) (13 + 111 * i + 9 + 102) _ _ [.ref (A + 2 + 8 * i), .int (I (i : Int)), .ref (A + 1)] _
      rw [show 1 + 8 * i + 1 + 7 = 1 + 8 * (i + 1) by omega, show 13 + 111 * i + 9 + 102 = 13 + 111 * (i + 1) by omega]
      refine wp_aast (pc := 33) dX5_init_33 q1 (by omega) (by omega) (by decide) t3.1 rfl ?_
      refine wp_iinc (pc := 34) dX5_init_34 rfl (by decide) ?_
      refine wp_goto (pc := 37) 15 dX5_init_37 (by decide) ?_
      refine wp_ls ?_ (ih (i + 1) (by omega) (by omega) _ (updR F ((i : Int)).toNat (some (A + 2 + 8 * i))) ?_ ?_ hset_eq ?_ ?_ ?_)
      · repeat' (first | exact LE_0 | refine LE_s rfl ?_ | refine LE_s (I_c (by first | omega | (simp only [sm]; omega))) ?_ | refine LE_s (J_c (by first | omega | exact Int.pow_succ _ _ | exact (Int.pow_succ _ _).symm | exact (Int.pow_zero _).symm | (simp only [sm]; omega))) ?_ | refine LE_n ?_)
      · show hp3.1 + 4 = _; omega
      · exact (hset_ne (by omega)).trans ((no.2 _ (by omega)).trans ((hnw_ne (by omega)).trans p0))
      · intro j hj
        show updR F i (some (A + 2 + 8 * i)) j = _
        unfold updR
        by_cases q : j = i
        · rw [if_pos q, q]
        · rw [if_neg q]; exact hF j (by omega)
      · intro j hj
        by_cases q : j = i
        · subst q
          exact t3.off fun x _ _ => hset_ne (by omega)
        · exact (hT j (by omega)).off fun x _ _ => (hset_ne (by omega)).trans ((no.2 _ (by omega)).trans (hnw_ne (by omega)))
      · intro x hx
        exact (hset_ne (by omega)).trans ((no.2 _ (by omega)).trans ((hnw_ne (by omega)).trans (o x hx)))
theorem sp_Past_init (e0 : hp.1 + 4 = A + 1) (h0 : hp.2 A = some (.inr (.inr (5, [.null, .int (I 0), .int (I 0)])))) : Sp g MX5_init (rm 2 105 1456) [.ref A] hp (Vod (fun hp2 => LAt hp2 A [] (fun _ _ => 0) ∧ NO hp hp2 A 105)) := by
  refine Sp_mk rfl (Nat.le_of_ble_eq_true rfl) ?_
  show wp g _ _ _ 0 0 0 [some (.ref A), none] [] hp
  refine wp_aload_n (pc := 0) dX5_init_0 rfl ?_
  refine wp_obj (pc := 1) dX5_init_1 ol_X5_3 oi_inst oi_code (by decide) (by decide) (Nat.le_of_ble_eq_true rfl) ?_
  refine wp_aload_n (pc := 4) dX5_init_4 rfl ?_
  refine wp_bipush (pc := 5) (y := 13) dX5_init_5 (by decide) ?_
  refine wp_nwr (pc := 7) (b := A + 1) dX5_init_7 e0 aw_X5_9 ao_Town (N := 13) rfl (by decide) (by decide) (by decide) ?_
  refine wp_putf (pc := 10) dX5_init_10 pf_X5_11 (hnw_at (by omega) h0) (by first | decide | exact Nat.lt_of_sub_pos (by decide) | simp) rfl rfl (by first | decide | intro h; cases h) ?_
  refine wp_iconst (pc := 13) dX5_init_13 ?_
  refine wp_istore_n (pc := 14) dX5_init_14 (by decide) ?_
  refine wp_ls ?_ (lp_Past_init e0 14 0 (by omega) (by omega) _ (fun _ => none) (by show hp.1 + 1 + 4 = _; omega) hset_eq ((hset_ne (by omega)).trans hnw_eq) (fun j hj => by omega) (fun j hj => by omega) (fun x hx => (hset_ne (by omega)).trans (hnw_ne (by omega))))
  repeat' (first | exact LE_0 | refine LE_s rfl ?_ | refine LE_s (I_c (by first | omega | (simp only [sm]; omega))) ?_ | refine LE_s (J_c (by first | omega | exact Int.pow_succ _ _ | exact (Int.pow_succ _ _).symm | exact (Int.pow_zero _).symm | (simp only [sm]; omega))) ?_ | refine LE_n ?_)
theorem sp_D_init (e0 : hp.1 + 4 = D + 1) (h0 : hp.2 D = some (.inr (.inr (11, [.null, .null, .null, .null, .null, .null, .null, .null, .int (I 0), .int (I 0), .null, .null, .null, .null, .null, .null, .null])))) : Sp g MX11_init (rm 34 170 3370) [.ref D] hp (Vod (fun hp2 => DX hp2 D T0 [] [] [] [] [] [] (fun _ => none) ∧ NO hp hp2 D 170)) := by
  refine Sp_mk rfl (Nat.le_of_ble_eq_true rfl) ?_
  show wp g _ _ _ 0 0 0 [some (.ref D)] [] hp
  refine wp_aload_n (pc := 0) dX11_init_0 rfl ?_
  refine wp_obj (pc := 1) dX11_init_1 ol_X11_3 oi_inst oi_code (by decide) (by decide) (Nat.le_of_ble_eq_true rfl) ?_
  have d0 := h0
  have n0 := e0
  have o0 : ∀ x, x < D → hp.2 x = hp.2 x := fun _ _ => rfl
  refine wp_aload_n (pc := 4) dX11_init_4 rfl ?_
  refine wp_nwo (pc := 5) (b := D + 1) dX11_init_5 (by omega) nw_X11_9 rfl (by decide) (by decide) ?_
  refine wp_dup (pc := 8) dX11_init_8 rfl ?_
  refine wp_callI (pc := 9) dX11_init_9 cl_X11_11 (as := []) (sp_Text_init (A := D + 1) (by show hp.1 + 1 + 4 = _; omega) hnw_eq) ⟨by decide, by decide, by decide, by decide⟩ (Nat.le_of_ble_eq_true rfl) rfl (fun v x1 hv => ?_)
  obtain ⟨rfl, t1, no1⟩ := hv
  have m1 : x1.1 = hp.1 + 1 + 1 := no1.1
  show wp g _ _ _ 2 82 _ _ [.ref (D + 1), .ref D] _
  have g1 : x1.2 D = some (.inr (.inr (11, [.null, .null, .null, .null, .null, .null, .null, .null, .int (I 0), .int (I 0), .null, .null, .null, .null, .null, .null, .null]))) := (no1.2 _ (by omega)).trans ((hnw_ne (by omega)).trans d0)
  refine wp_putf (pc := 12) dX11_init_12 pf_X11_12 g1 (by first | decide | exact Nat.lt_of_sub_pos (by decide) | simp) rfl rfl (by first | decide | (intro h; cases h) | (intro _; rfl)) ?_
  refine wp_gen (fun y1 e1 => ?_)
  have d1 : y1.2 D = some (.inr (.inr (11, [.ref (D + 1), .null, .null, .null, .null, .null, .null, .null, .int (I 0), .int (I 0), .null, .null, .null, .null, .null, .null, .null]))) := by rw [e1]; exact hset_eq
  have n1 : y1.1 + 4 = D + 3 := by rw [e1]; show x1.1 + 4 = _; omega
  have s1 : ∀ x, D < x → x < D + 1 → y1.2 x = hp.2 x := fun x a b => by rw [e1]; exact (hset_ne (by omega)).trans ((no1.2 x b).trans (hnw_ne (by omega)))
  have o1 : ∀ x, x < D → y1.2 x = hp.2 x := fun x a => by rw [e1]; exact (hset_ne (by omega)).trans ((no1.2 x (by omega)).trans ((hnw_ne (by omega)).trans (o0 x a)))
  replace t1 : TextAt y1 (D + 1) [] := by rw [e1]; exact t1.off fun x _ _ => hset_ne (by omega)
  clear e1 g1 no1 m1 s1 d0 n0 o0
  refine wp_aload_n (pc := 15) dX11_init_15 rfl ?_
  refine wp_nwo (pc := 16) (b := D + 3) dX11_init_16 (by omega) nw_X11_16 rfl (by decide) (by decide) ?_
  refine wp_dup (pc := 19) dX11_init_19 rfl ?_
  refine wp_callI (pc := 20) dX11_init_20 cl_X11_18 (as := []) (sp_Row_init (A := D + 3) (by show y1.1 + 1 + 4 = _; omega) hnw_eq) ⟨by decide, by decide, by decide, by decide⟩ (Nat.le_of_ble_eq_true rfl) rfl (fun v x2 hv => ?_)
  obtain ⟨rfl, t2, no2⟩ := hv
  have m2 : x2.1 = y1.1 + 1 + 1 := no2.1
  show wp g _ _ _ 4 90 _ _ [.ref (D + 3), .ref D] _
  have g2 : x2.2 D = some (.inr (.inr (11, [.ref (D + 1), .null, .null, .null, .null, .null, .null, .null, .int (I 0), .int (I 0), .null, .null, .null, .null, .null, .null, .null]))) := (no2.2 _ (by omega)).trans ((hnw_ne (by omega)).trans d1)
  refine wp_putf (pc := 23) dX11_init_23 pf_X11_19 g2 (by first | decide | exact Nat.lt_of_sub_pos (by decide) | simp) rfl rfl (by first | decide | (intro h; cases h) | (intro _; rfl)) ?_
  refine wp_gen (fun y2 e2 => ?_)
  have d2 : y2.2 D = some (.inr (.inr (11, [.ref (D + 1), .ref (D + 3), .null, .null, .null, .null, .null, .null, .int (I 0), .int (I 0), .null, .null, .null, .null, .null, .null, .null]))) := by rw [e2]; exact hset_eq
  have n2 : y2.1 + 4 = D + 5 := by rw [e2]; show x2.1 + 4 = _; omega
  have s2 : ∀ x, D < x → x < D + 3 → y2.2 x = y1.2 x := fun x a b => by rw [e2]; exact (hset_ne (by omega)).trans ((no2.2 x b).trans (hnw_ne (by omega)))
  have o2 : ∀ x, x < D → y2.2 x = hp.2 x := fun x a => by rw [e2]; exact (hset_ne (by omega)).trans ((no2.2 x (by omega)).trans ((hnw_ne (by omega)).trans (o1 x a)))
  replace t2 : RowAt y2 (D + 3) [] := by rw [e2]; exact t2.off fun x _ _ => hset_ne (by omega)
  replace t1 := t1.off (hp2 := y2) fun x _ _ => s2 x (by omega) (by omega)
  clear e2 g2 no2 m2 s2 d1 n1 o1
  refine wp_aload_n (pc := 26) dX11_init_26 rfl ?_
  refine wp_nwo (pc := 27) (b := D + 5) dX11_init_27 (by omega) nw_X11_23 rfl (by decide) (by decide) ?_
  refine wp_dup (pc := 30) dX11_init_30 rfl ?_
  refine wp_callI (pc := 31) dX11_init_31 cl_X11_25 (as := []) (sp_Town_init (A := D + 5) (by show y2.1 + 1 + 4 = _; omega) hnw_eq) ⟨by decide, by decide, by decide, by decide⟩ (Nat.le_of_ble_eq_true rfl) rfl (fun v x3 hv => ?_)
  obtain ⟨rfl, t3, no3⟩ := hv
  have m3 : x3.1 = y2.1 + 1 + 7 := no3.1
  show wp g _ _ _ 12 201 _ _ [.ref (D + 5), .ref D] _
  have g3 : x3.2 D = some (.inr (.inr (11, [.ref (D + 1), .ref (D + 3), .null, .null, .null, .null, .null, .null, .int (I 0), .int (I 0), .null, .null, .null, .null, .null, .null, .null]))) := (no3.2 _ (by omega)).trans ((hnw_ne (by omega)).trans d2)
  refine wp_putf (pc := 34) dX11_init_34 pf_X11_26 g3 (by first | decide | exact Nat.lt_of_sub_pos (by decide) | simp) rfl rfl (by first | decide | (intro h; cases h) | (intro _; rfl)) ?_
  refine wp_gen (fun y3 e3 => ?_)
  have d3 : y3.2 D = some (.inr (.inr (11, [.ref (D + 1), .ref (D + 3), .ref (D + 5), .null, .null, .null, .null, .null, .int (I 0), .int (I 0), .null, .null, .null, .null, .null, .null, .null]))) := by rw [e3]; exact hset_eq
  have n3 : y3.1 + 4 = D + 13 := by rw [e3]; show x3.1 + 4 = _; omega
  have s3 : ∀ x, D < x → x < D + 5 → y3.2 x = y2.2 x := fun x a b => by rw [e3]; exact (hset_ne (by omega)).trans ((no3.2 x b).trans (hnw_ne (by omega)))
  have o3 : ∀ x, x < D → y3.2 x = hp.2 x := fun x a => by rw [e3]; exact (hset_ne (by omega)).trans ((no3.2 x (by omega)).trans ((hnw_ne (by omega)).trans (o2 x a)))
  replace t3 : TownAt y3 (D + 5) (fun _ _ => 0) := by rw [e3]; exact t3.off fun x _ _ => hset_ne (by omega)
  replace t1 := t1.off (hp2 := y3) fun x _ _ => s3 x (by omega) (by omega)
  replace t2 := t2.off (hp2 := y3) fun x _ _ => s3 x (by omega) (by omega)
  clear e3 g3 no3 m3 s3 d2 n2 o2
  refine wp_aload_n (pc := 37) dX11_init_37 rfl ?_
  refine wp_nwo (pc := 38) (b := D + 13) dX11_init_38 (by omega) nw_X11_23 rfl (by decide) (by decide) ?_
  refine wp_dup (pc := 41) dX11_init_41 rfl ?_
  refine wp_callI (pc := 42) dX11_init_42 cl_X11_25 (as := []) (sp_Town_init (A := D + 13) (by show y3.1 + 1 + 4 = _; omega) hnw_eq) ⟨by decide, by decide, by decide, by decide⟩ (Nat.le_of_ble_eq_true rfl) rfl (fun v x4 hv => ?_)
  obtain ⟨rfl, t4, no4⟩ := hv
  have m4 : x4.1 = y3.1 + 1 + 7 := no4.1
  show wp g _ _ _ 20 312 _ _ [.ref (D + 13), .ref D] _
  have g4 : x4.2 D = some (.inr (.inr (11, [.ref (D + 1), .ref (D + 3), .ref (D + 5), .null, .null, .null, .null, .null, .int (I 0), .int (I 0), .null, .null, .null, .null, .null, .null, .null]))) := (no4.2 _ (by omega)).trans ((hnw_ne (by omega)).trans d3)
  refine wp_putf (pc := 45) dX11_init_45 pf_X11_30 g4 (by first | decide | exact Nat.lt_of_sub_pos (by decide) | simp) rfl rfl (by first | decide | (intro h; cases h) | (intro _; rfl)) ?_
  refine wp_gen (fun y4 e4 => ?_)
  have d4 : y4.2 D = some (.inr (.inr (11, [.ref (D + 1), .ref (D + 3), .ref (D + 5), .ref (D + 13), .null, .null, .null, .null, .int (I 0), .int (I 0), .null, .null, .null, .null, .null, .null, .null]))) := by rw [e4]; exact hset_eq
  have n4 : y4.1 + 4 = D + 21 := by rw [e4]; show x4.1 + 4 = _; omega
  have s4 : ∀ x, D < x → x < D + 13 → y4.2 x = y3.2 x := fun x a b => by rw [e4]; exact (hset_ne (by omega)).trans ((no4.2 x b).trans (hnw_ne (by omega)))
  have o4 : ∀ x, x < D → y4.2 x = hp.2 x := fun x a => by rw [e4]; exact (hset_ne (by omega)).trans ((no4.2 x (by omega)).trans ((hnw_ne (by omega)).trans (o3 x a)))
  replace t4 : TownAt y4 (D + 13) (fun _ _ => 0) := by rw [e4]; exact t4.off fun x _ _ => hset_ne (by omega)
  replace t1 := t1.off (hp2 := y4) fun x _ _ => s4 x (by omega) (by omega)
  replace t2 := t2.off (hp2 := y4) fun x _ _ => s4 x (by omega) (by omega)
  replace t3 := t3.off (hp2 := y4) fun x _ _ => s4 x (by omega) (by omega)
  clear e4 g4 no4 m4 s4 d3 n3 o3
  refine wp_aload_n (pc := 48) dX11_init_48 rfl ?_
  refine wp_nwo (pc := 49) (b := D + 21) dX11_init_49 (by omega) nw_X11_33 rfl (by decide) (by decide) ?_
  refine wp_dup (pc := 52) dX11_init_52 rfl ?_
  refine wp_callI (pc := 53) dX11_init_53 cl_X11_35 (as := []) (sp_Clock_init (A := D + 21) (by show y4.1 + 1 + 4 = _; omega) hnw_eq) ⟨by decide, by decide, by decide, by decide⟩ (Nat.le_of_ble_eq_true rfl) rfl (fun v x5 hv => ?_)
  obtain ⟨rfl, t5, no5⟩ := hv
  have m5 : x5.1 = y4.1 + 1 + 1 := no5.1
  show wp g _ _ _ 22 349 _ _ [.ref (D + 21), .ref D] _
  have g5 : x5.2 D = some (.inr (.inr (11, [.ref (D + 1), .ref (D + 3), .ref (D + 5), .ref (D + 13), .null, .null, .null, .null, .int (I 0), .int (I 0), .null, .null, .null, .null, .null, .null, .null]))) := (no5.2 _ (by omega)).trans ((hnw_ne (by omega)).trans d4)
  refine wp_putf (pc := 56) dX11_init_56 pf_X11_36 g5 (by first | decide | exact Nat.lt_of_sub_pos (by decide) | simp) rfl rfl (by first | decide | (intro h; cases h) | (intro _; rfl)) ?_
  refine wp_gen (fun y5 e5 => ?_)
  have d5 : y5.2 D = some (.inr (.inr (11, [.ref (D + 1), .ref (D + 3), .ref (D + 5), .ref (D + 13), .ref (D + 21), .null, .null, .null, .int (I 0), .int (I 0), .null, .null, .null, .null, .null, .null, .null]))) := by rw [e5]; exact hset_eq
  have n5 : y5.1 + 4 = D + 23 := by rw [e5]; show x5.1 + 4 = _; omega
  have s5 : ∀ x, D < x → x < D + 21 → y5.2 x = y4.2 x := fun x a b => by rw [e5]; exact (hset_ne (by omega)).trans ((no5.2 x b).trans (hnw_ne (by omega)))
  have o5 : ∀ x, x < D → y5.2 x = hp.2 x := fun x a => by rw [e5]; exact (hset_ne (by omega)).trans ((no5.2 x (by omega)).trans ((hnw_ne (by omega)).trans (o4 x a)))
  replace t5 : ClockAt y5 (D + 21) := by rw [e5]; exact t5.off fun x _ _ => hset_ne (by omega)
  replace t1 := t1.off (hp2 := y5) fun x _ _ => s5 x (by omega) (by omega)
  replace t2 := t2.off (hp2 := y5) fun x _ _ => s5 x (by omega) (by omega)
  replace t3 := t3.off (hp2 := y5) fun x _ _ => s5 x (by omega) (by omega)
  replace t4 := t4.off (hp2 := y5) fun x _ _ => s5 x (by omega) (by omega)
  clear e5 g5 no5 m5 s5 d4 n4 o4
  refine wp_aload_n (pc := 59) dX11_init_59 rfl ?_
  refine wp_nwo (pc := 60) (b := D + 23) dX11_init_60 (by omega) nw_X11_40 rfl (by decide) (by decide) ?_
  refine wp_dup (pc := 63) dX11_init_63 rfl ?_
  refine wp_callI (pc := 64) dX11_init_64 cl_X11_42 (as := []) (sp_Past_init (A := D + 23) (by show y5.1 + 1 + 4 = _; omega) hnw_eq) ⟨by decide, by decide, by decide, by decide⟩ (Nat.le_of_ble_eq_true rfl) rfl (fun v x6 hv => ?_)
  obtain ⟨rfl, t6, no6⟩ := hv
  have m6 : x6.1 = y5.1 + 1 + 105 := no6.1
  show wp g _ _ _ 128 1808 _ _ [.ref (D + 23), .ref D] _
  have g6 : x6.2 D = some (.inr (.inr (11, [.ref (D + 1), .ref (D + 3), .ref (D + 5), .ref (D + 13), .ref (D + 21), .null, .null, .null, .int (I 0), .int (I 0), .null, .null, .null, .null, .null, .null, .null]))) := (no6.2 _ (by omega)).trans ((hnw_ne (by omega)).trans d5)
  refine wp_putf (pc := 67) dX11_init_67 pf_X11_43 g6 (by first | decide | exact Nat.lt_of_sub_pos (by decide) | simp) rfl rfl (by first | decide | (intro h; cases h) | (intro _; rfl)) ?_
  refine wp_gen (fun y6 e6 => ?_)
  have d6 : y6.2 D = some (.inr (.inr (11, [.ref (D + 1), .ref (D + 3), .ref (D + 5), .ref (D + 13), .ref (D + 21), .ref (D + 23), .null, .null, .int (I 0), .int (I 0), .null, .null, .null, .null, .null, .null, .null]))) := by rw [e6]; exact hset_eq
  have n6 : y6.1 + 4 = D + 129 := by rw [e6]; show x6.1 + 4 = _; omega
  have s6 : ∀ x, D < x → x < D + 23 → y6.2 x = y5.2 x := fun x a b => by rw [e6]; exact (hset_ne (by omega)).trans ((no6.2 x b).trans (hnw_ne (by omega)))
  have o6 : ∀ x, x < D → y6.2 x = hp.2 x := fun x a => by rw [e6]; exact (hset_ne (by omega)).trans ((no6.2 x (by omega)).trans ((hnw_ne (by omega)).trans (o5 x a)))
  replace t6 : LAt y6 (D + 23) [] (fun _ _ => 0) := by rw [e6]; exact t6.off fun x _ _ => hset_ne (by omega)
  replace t1 := t1.off (hp2 := y6) fun x _ _ => s6 x (by omega) (by omega)
  replace t2 := t2.off (hp2 := y6) fun x _ _ => s6 x (by omega) (by omega)
  replace t3 := t3.off (hp2 := y6) fun x _ _ => s6 x (by omega) (by omega)
  replace t4 := t4.off (hp2 := y6) fun x _ _ => s6 x (by omega) (by omega)
  replace t5 := t5.off (hp2 := y6) fun x _ _ => s6 x (by omega) (by omega)
  clear e6 g6 no6 m6 s6 d5 n5 o5
  refine wp_aload_n (pc := 70) dX11_init_70 rfl ?_
  refine wp_nwo (pc := 71) (b := D + 129) dX11_init_71 (by omega) nw_X11_23 rfl (by decide) (by decide) ?_
  refine wp_dup (pc := 74) dX11_init_74 rfl ?_
  refine wp_callI (pc := 75) dX11_init_75 cl_X11_25 (as := []) (sp_Town_init (A := D + 129) (by show y6.1 + 1 + 4 = _; omega) hnw_eq) ⟨by decide, by decide, by decide, by decide⟩ (Nat.le_of_ble_eq_true rfl) rfl (fun v x7 hv => ?_)
  obtain ⟨rfl, t7, no7⟩ := hv
  have m7 : x7.1 = y6.1 + 1 + 7 := no7.1
  show wp g _ _ _ 136 1919 _ _ [.ref (D + 129), .ref D] _
  have g7 : x7.2 D = some (.inr (.inr (11, [.ref (D + 1), .ref (D + 3), .ref (D + 5), .ref (D + 13), .ref (D + 21), .ref (D + 23), .null, .null, .int (I 0), .int (I 0), .null, .null, .null, .null, .null, .null, .null]))) := (no7.2 _ (by omega)).trans ((hnw_ne (by omega)).trans d6)
  refine wp_putf (pc := 78) dX11_init_78 pf_X11_47 g7 (by first | decide | exact Nat.lt_of_sub_pos (by decide) | simp) rfl rfl (by first | decide | (intro h; cases h) | (intro _; rfl)) ?_
  refine wp_gen (fun y7 e7 => ?_)
  have d7 : y7.2 D = some (.inr (.inr (11, [.ref (D + 1), .ref (D + 3), .ref (D + 5), .ref (D + 13), .ref (D + 21), .ref (D + 23), .ref (D + 129), .null, .int (I 0), .int (I 0), .null, .null, .null, .null, .null, .null, .null]))) := by rw [e7]; exact hset_eq
  have n7 : y7.1 + 4 = D + 137 := by rw [e7]; show x7.1 + 4 = _; omega
  have s7 : ∀ x, D < x → x < D + 129 → y7.2 x = y6.2 x := fun x a b => by rw [e7]; exact (hset_ne (by omega)).trans ((no7.2 x b).trans (hnw_ne (by omega)))
  have o7 : ∀ x, x < D → y7.2 x = hp.2 x := fun x a => by rw [e7]; exact (hset_ne (by omega)).trans ((no7.2 x (by omega)).trans ((hnw_ne (by omega)).trans (o6 x a)))
  replace t7 : TownAt y7 (D + 129) (fun _ _ => 0) := by rw [e7]; exact t7.off fun x _ _ => hset_ne (by omega)
  replace t1 := t1.off (hp2 := y7) fun x _ _ => s7 x (by omega) (by omega)
  replace t2 := t2.off (hp2 := y7) fun x _ _ => s7 x (by omega) (by omega)
  replace t3 := t3.off (hp2 := y7) fun x _ _ => s7 x (by omega) (by omega)
  replace t4 := t4.off (hp2 := y7) fun x _ _ => s7 x (by omega) (by omega)
  replace t5 := t5.off (hp2 := y7) fun x _ _ => s7 x (by omega) (by omega)
  replace t6 := t6.off (hp2 := y7) fun x _ _ => s7 x (by omega) (by omega)
  clear e7 g7 no7 m7 s7 d6 n6 o6
  refine wp_aload_n (pc := 81) dX11_init_81 rfl ?_
  refine wp_nwo (pc := 82) (b := D + 137) dX11_init_82 (by omega) nw_X11_23 rfl (by decide) (by decide) ?_
  refine wp_dup (pc := 85) dX11_init_85 rfl ?_
  refine wp_callI (pc := 86) dX11_init_86 cl_X11_25 (as := []) (sp_Town_init (A := D + 137) (by show y7.1 + 1 + 4 = _; omega) hnw_eq) ⟨by decide, by decide, by decide, by decide⟩ (Nat.le_of_ble_eq_true rfl) rfl (fun v x8 hv => ?_)
  obtain ⟨rfl, t8, no8⟩ := hv
  have m8 : x8.1 = y7.1 + 1 + 7 := no8.1
  show wp g _ _ _ 144 2030 _ _ [.ref (D + 137), .ref D] _
  have g8 : x8.2 D = some (.inr (.inr (11, [.ref (D + 1), .ref (D + 3), .ref (D + 5), .ref (D + 13), .ref (D + 21), .ref (D + 23), .ref (D + 129), .null, .int (I 0), .int (I 0), .null, .null, .null, .null, .null, .null, .null]))) := (no8.2 _ (by omega)).trans ((hnw_ne (by omega)).trans d7)
  refine wp_putf (pc := 89) dX11_init_89 pf_X11_50 g8 (by first | decide | exact Nat.lt_of_sub_pos (by decide) | simp) rfl rfl (by first | decide | (intro h; cases h) | (intro _; rfl)) ?_
  refine wp_gen (fun y8 e8 => ?_)
  have d8 : y8.2 D = some (.inr (.inr (11, [.ref (D + 1), .ref (D + 3), .ref (D + 5), .ref (D + 13), .ref (D + 21), .ref (D + 23), .ref (D + 129), .ref (D + 137), .int (I 0), .int (I 0), .null, .null, .null, .null, .null, .null, .null]))) := by rw [e8]; exact hset_eq
  have n8 : y8.1 + 4 = D + 145 := by rw [e8]; show x8.1 + 4 = _; omega
  have s8 : ∀ x, D < x → x < D + 137 → y8.2 x = y7.2 x := fun x a b => by rw [e8]; exact (hset_ne (by omega)).trans ((no8.2 x b).trans (hnw_ne (by omega)))
  have o8 : ∀ x, x < D → y8.2 x = hp.2 x := fun x a => by rw [e8]; exact (hset_ne (by omega)).trans ((no8.2 x (by omega)).trans ((hnw_ne (by omega)).trans (o7 x a)))
  replace t8 : TownAt y8 (D + 137) (fun _ _ => 0) := by rw [e8]; exact t8.off fun x _ _ => hset_ne (by omega)
  replace t1 := t1.off (hp2 := y8) fun x _ _ => s8 x (by omega) (by omega)
  replace t2 := t2.off (hp2 := y8) fun x _ _ => s8 x (by omega) (by omega)
  replace t3 := t3.off (hp2 := y8) fun x _ _ => s8 x (by omega) (by omega)
  replace t4 := t4.off (hp2 := y8) fun x _ _ => s8 x (by omega) (by omega)
  replace t5 := t5.off (hp2 := y8) fun x _ _ => s8 x (by omega) (by omega)
  replace t6 := t6.off (hp2 := y8) fun x _ _ => s8 x (by omega) (by omega)
  replace t7 := t7.off (hp2 := y8) fun x _ _ => s8 x (by omega) (by omega)
  clear e8 g8 no8 m8 s8 d7 n7 o7
  refine wp_aload_n (pc := 92) dX11_init_92 rfl ?_
  refine wp_nwo (pc := 93) (b := D + 145) dX11_init_93 (by omega) nw_X11_53 rfl (by decide) (by decide) ?_
  refine wp_dup (pc := 96) dX11_init_96 rfl ?_
  refine wp_callI (pc := 97) dX11_init_97 cl_X11_55 (as := []) (sp_Hearsay_init (A := D + 145) (by show y8.1 + 1 + 4 = _; omega) hnw_eq) ⟨by decide, by decide, by decide, by decide⟩ (Nat.le_of_ble_eq_true rfl) rfl (fun v x9 hv => ?_)
  obtain ⟨rfl, t9, no9⟩ := hv
  have m9 : x9.1 = y8.1 + 1 + 2 := no9.1
  show wp g _ _ _ 147 2057 _ _ [.ref (D + 145), .ref D] _
  have g9 : x9.2 D = some (.inr (.inr (11, [.ref (D + 1), .ref (D + 3), .ref (D + 5), .ref (D + 13), .ref (D + 21), .ref (D + 23), .ref (D + 129), .ref (D + 137), .int (I 0), .int (I 0), .null, .null, .null, .null, .null, .null, .null]))) := (no9.2 _ (by omega)).trans ((hnw_ne (by omega)).trans d8)
  refine wp_putf (pc := 100) dX11_init_100 pf_X11_56 g9 (by first | decide | exact Nat.lt_of_sub_pos (by decide) | simp) rfl rfl (by first | decide | (intro h; cases h) | (intro _; rfl)) ?_
  refine wp_gen (fun y9 e9 => ?_)
  have d9 : y9.2 D = some (.inr (.inr (11, [.ref (D + 1), .ref (D + 3), .ref (D + 5), .ref (D + 13), .ref (D + 21), .ref (D + 23), .ref (D + 129), .ref (D + 137), .int (I 0), .int (I 0), .ref (D + 145), .null, .null, .null, .null, .null, .null]))) := by rw [e9]; exact hset_eq
  have n9 : y9.1 + 4 = D + 148 := by rw [e9]; show x9.1 + 4 = _; omega
  have s9 : ∀ x, D < x → x < D + 145 → y9.2 x = y8.2 x := fun x a b => by rw [e9]; exact (hset_ne (by omega)).trans ((no9.2 x b).trans (hnw_ne (by omega)))
  have o9 : ∀ x, x < D → y9.2 x = hp.2 x := fun x a => by rw [e9]; exact (hset_ne (by omega)).trans ((no9.2 x (by omega)).trans ((hnw_ne (by omega)).trans (o8 x a)))
  replace t9 : HearAt y9 (D + 145) (fun _ => 0) (fun _ => 0) 0 := by rw [e9]; exact t9.off fun x _ _ => hset_ne (by omega)
  replace t1 := t1.off (hp2 := y9) fun x _ _ => s9 x (by omega) (by omega)
  replace t2 := t2.off (hp2 := y9) fun x _ _ => s9 x (by omega) (by omega)
  replace t3 := t3.off (hp2 := y9) fun x _ _ => s9 x (by omega) (by omega)
  replace t4 := t4.off (hp2 := y9) fun x _ _ => s9 x (by omega) (by omega)
  replace t5 := t5.off (hp2 := y9) fun x _ _ => s9 x (by omega) (by omega)
  replace t6 := t6.off (hp2 := y9) fun x _ _ => s9 x (by omega) (by omega)
  replace t7 := t7.off (hp2 := y9) fun x _ _ => s9 x (by omega) (by omega)
  replace t8 := t8.off (hp2 := y9) fun x _ _ => s9 x (by omega) (by omega)
  clear e9 g9 no9 m9 s9 d8 n8 o8
  refine wp_aload_n (pc := 103) dX11_init_103 rfl ?_
  refine wp_nwo (pc := 104) (b := D + 148) dX11_init_104 (by omega) nw_X11_60 rfl (by decide) (by decide) ?_
  refine wp_dup (pc := 107) dX11_init_107 rfl ?_
  refine wp_callI (pc := 108) dX11_init_108 cl_X11_62 (as := []) (sp_Shifts_init (A := D + 148) (by show y9.1 + 1 + 4 = _; omega) hnw_eq) ⟨by decide, by decide, by decide, by decide⟩ (Nat.le_of_ble_eq_true rfl) rfl (fun v x10 hv => ?_)
  obtain ⟨rfl, t10, no10⟩ := hv
  have m10 : x10.1 = y9.1 + 1 + 4 := no10.1
  show wp g _ _ _ 152 2108 _ _ [.ref (D + 148), .ref D] _
  have g10 : x10.2 D = some (.inr (.inr (11, [.ref (D + 1), .ref (D + 3), .ref (D + 5), .ref (D + 13), .ref (D + 21), .ref (D + 23), .ref (D + 129), .ref (D + 137), .int (I 0), .int (I 0), .ref (D + 145), .null, .null, .null, .null, .null, .null]))) := (no10.2 _ (by omega)).trans ((hnw_ne (by omega)).trans d9)
  refine wp_putf (pc := 111) dX11_init_111 pf_X11_63 g10 (by first | decide | exact Nat.lt_of_sub_pos (by decide) | simp) rfl rfl (by first | decide | (intro h; cases h) | (intro _; rfl)) ?_
  refine wp_gen (fun y10 e10 => ?_)
  have d10 : y10.2 D = some (.inr (.inr (11, [.ref (D + 1), .ref (D + 3), .ref (D + 5), .ref (D + 13), .ref (D + 21), .ref (D + 23), .ref (D + 129), .ref (D + 137), .int (I 0), .int (I 0), .ref (D + 145), .ref (D + 148), .null, .null, .null, .null, .null]))) := by rw [e10]; exact hset_eq
  have n10 : y10.1 + 4 = D + 153 := by rw [e10]; show x10.1 + 4 = _; omega
  have s10 : ∀ x, D < x → x < D + 148 → y10.2 x = y9.2 x := fun x a b => by rw [e10]; exact (hset_ne (by omega)).trans ((no10.2 x b).trans (hnw_ne (by omega)))
  have o10 : ∀ x, x < D → y10.2 x = hp.2 x := fun x a => by rw [e10]; exact (hset_ne (by omega)).trans ((no10.2 x (by omega)).trans ((hnw_ne (by omega)).trans (o9 x a)))
  replace t10 : ShiftsAt y10 (D + 148) (fun _ => 0) (fun _ => 0) (fun _ => 0) 0 := by rw [e10]; exact t10.off fun x _ _ => hset_ne (by omega)
  replace t1 := t1.off (hp2 := y10) fun x _ _ => s10 x (by omega) (by omega)
  replace t2 := t2.off (hp2 := y10) fun x _ _ => s10 x (by omega) (by omega)
  replace t3 := t3.off (hp2 := y10) fun x _ _ => s10 x (by omega) (by omega)
  replace t4 := t4.off (hp2 := y10) fun x _ _ => s10 x (by omega) (by omega)
  replace t5 := t5.off (hp2 := y10) fun x _ _ => s10 x (by omega) (by omega)
  replace t6 := t6.off (hp2 := y10) fun x _ _ => s10 x (by omega) (by omega)
  replace t7 := t7.off (hp2 := y10) fun x _ _ => s10 x (by omega) (by omega)
  replace t8 := t8.off (hp2 := y10) fun x _ _ => s10 x (by omega) (by omega)
  replace t9 := t9.off (hp2 := y10) fun x _ _ => s10 x (by omega) (by omega)
  clear e10 g10 no10 m10 s10 d9 n9 o9
  refine wp_aload_n (pc := 114) dX11_init_114 rfl ?_
  refine wp_nwo (pc := 115) (b := D + 153) dX11_init_115 (by omega) nw_X11_67 rfl (by decide) (by decide) ?_
  refine wp_dup (pc := 118) dX11_init_118 rfl ?_
  refine wp_callI (pc := 119) dX11_init_119 cl_X11_69 (as := []) (sp_Games_init (A := D + 153) (by show y10.1 + 1 + 4 = _; omega) hnw_eq) ⟨by decide, by decide, by decide, by decide⟩ (Nat.le_of_ble_eq_true rfl) rfl (fun v x11 hv => ?_)
  obtain ⟨rfl, t11, no11⟩ := hv
  have m11 : x11.1 = y10.1 + 1 + 3 := no11.1
  show wp g _ _ _ 156 2528 _ _ [.ref (D + 153), .ref D] _
  have g11 : x11.2 D = some (.inr (.inr (11, [.ref (D + 1), .ref (D + 3), .ref (D + 5), .ref (D + 13), .ref (D + 21), .ref (D + 23), .ref (D + 129), .ref (D + 137), .int (I 0), .int (I 0), .ref (D + 145), .ref (D + 148), .null, .null, .null, .null, .null]))) := (no11.2 _ (by omega)).trans ((hnw_ne (by omega)).trans d10)
  refine wp_putf (pc := 122) dX11_init_122 pf_X11_70 g11 (by first | decide | exact Nat.lt_of_sub_pos (by decide) | simp) rfl rfl (by first | decide | (intro h; cases h) | (intro _; rfl)) ?_
  refine wp_gen (fun y11 e11 => ?_)
  have d11 : y11.2 D = some (.inr (.inr (11, [.ref (D + 1), .ref (D + 3), .ref (D + 5), .ref (D + 13), .ref (D + 21), .ref (D + 23), .ref (D + 129), .ref (D + 137), .int (I 0), .int (I 0), .ref (D + 145), .ref (D + 148), .ref (D + 153), .null, .null, .null, .null]))) := by rw [e11]; exact hset_eq
  have n11 : y11.1 + 4 = D + 157 := by rw [e11]; show x11.1 + 4 = _; omega
  have s11 : ∀ x, D < x → x < D + 153 → y11.2 x = y10.2 x := fun x a b => by rw [e11]; exact (hset_ne (by omega)).trans ((no11.2 x b).trans (hnw_ne (by omega)))
  have o11 : ∀ x, x < D → y11.2 x = hp.2 x := fun x a => by rw [e11]; exact (hset_ne (by omega)).trans ((no11.2 x (by omega)).trans ((hnw_ne (by omega)).trans (o10 x a)))
  replace t11 : GamesAt y11 (D + 153) := by rw [e11]; exact t11.off fun x _ _ => hset_ne (by omega)
  replace t1 := t1.off (hp2 := y11) fun x _ _ => s11 x (by omega) (by omega)
  replace t2 := t2.off (hp2 := y11) fun x _ _ => s11 x (by omega) (by omega)
  replace t3 := t3.off (hp2 := y11) fun x _ _ => s11 x (by omega) (by omega)
  replace t4 := t4.off (hp2 := y11) fun x _ _ => s11 x (by omega) (by omega)
  replace t5 := t5.off (hp2 := y11) fun x _ _ => s11 x (by omega) (by omega)
  replace t6 := t6.off (hp2 := y11) fun x _ _ => s11 x (by omega) (by omega)
  replace t7 := t7.off (hp2 := y11) fun x _ _ => s11 x (by omega) (by omega)
  replace t8 := t8.off (hp2 := y11) fun x _ _ => s11 x (by omega) (by omega)
  replace t9 := t9.off (hp2 := y11) fun x _ _ => s11 x (by omega) (by omega)
  replace t10 := t10.off (hp2 := y11) fun x _ _ => s11 x (by omega) (by omega)
  clear e11 g11 no11 m11 s11 d10 n10 o10
  refine wp_aload_n (pc := 125) dX11_init_125 rfl ?_
  refine wp_nwo (pc := 126) (b := D + 157) dX11_init_126 (by omega) nw_X11_74 rfl (by decide) (by decide) ?_
  refine wp_dup (pc := 129) dX11_init_129 rfl ?_
  refine wp_callI (pc := 130) dX11_init_130 cl_X11_76 (as := []) (sp_Partings_init (A := D + 157) (by show y11.1 + 1 + 4 = _; omega) hnw_eq) ⟨by decide, by decide, by decide, by decide⟩ (Nat.le_of_ble_eq_true rfl) rfl (fun v x12 hv => ?_)
  obtain ⟨rfl, t12, no12⟩ := hv
  have m12 : x12.1 = y11.1 + 1 + 4 := no12.1
  show wp g _ _ _ 161 3115 _ _ [.ref (D + 157), .ref D] _
  have g12 : x12.2 D = some (.inr (.inr (11, [.ref (D + 1), .ref (D + 3), .ref (D + 5), .ref (D + 13), .ref (D + 21), .ref (D + 23), .ref (D + 129), .ref (D + 137), .int (I 0), .int (I 0), .ref (D + 145), .ref (D + 148), .ref (D + 153), .null, .null, .null, .null]))) := (no12.2 _ (by omega)).trans ((hnw_ne (by omega)).trans d11)
  refine wp_putf (pc := 133) dX11_init_133 pf_X11_77 g12 (by first | decide | exact Nat.lt_of_sub_pos (by decide) | simp) rfl rfl (by first | decide | (intro h; cases h) | (intro _; rfl)) ?_
  refine wp_gen (fun y12 e12 => ?_)
  have d12 : y12.2 D = some (.inr (.inr (11, [.ref (D + 1), .ref (D + 3), .ref (D + 5), .ref (D + 13), .ref (D + 21), .ref (D + 23), .ref (D + 129), .ref (D + 137), .int (I 0), .int (I 0), .ref (D + 145), .ref (D + 148), .ref (D + 153), .ref (D + 157), .null, .null, .null]))) := by rw [e12]; exact hset_eq
  have n12 : y12.1 + 4 = D + 162 := by rw [e12]; show x12.1 + 4 = _; omega
  have s12 : ∀ x, D < x → x < D + 157 → y12.2 x = y11.2 x := fun x a b => by rw [e12]; exact (hset_ne (by omega)).trans ((no12.2 x b).trans (hnw_ne (by omega)))
  have o12 : ∀ x, x < D → y12.2 x = hp.2 x := fun x a => by rw [e12]; exact (hset_ne (by omega)).trans ((no12.2 x (by omega)).trans ((hnw_ne (by omega)).trans (o11 x a)))
  replace t12 : PartAt y12 (D + 157) := by rw [e12]; exact t12.off fun x _ _ => hset_ne (by omega)
  replace t1 := t1.off (hp2 := y12) fun x _ _ => s12 x (by omega) (by omega)
  replace t2 := t2.off (hp2 := y12) fun x _ _ => s12 x (by omega) (by omega)
  replace t3 := t3.off (hp2 := y12) fun x _ _ => s12 x (by omega) (by omega)
  replace t4 := t4.off (hp2 := y12) fun x _ _ => s12 x (by omega) (by omega)
  replace t5 := t5.off (hp2 := y12) fun x _ _ => s12 x (by omega) (by omega)
  replace t6 := t6.off (hp2 := y12) fun x _ _ => s12 x (by omega) (by omega)
  replace t7 := t7.off (hp2 := y12) fun x _ _ => s12 x (by omega) (by omega)
  replace t8 := t8.off (hp2 := y12) fun x _ _ => s12 x (by omega) (by omega)
  replace t9 := t9.off (hp2 := y12) fun x _ _ => s12 x (by omega) (by omega)
  replace t10 := t10.off (hp2 := y12) fun x _ _ => s12 x (by omega) (by omega)
  replace t11 := t11.off (hp2 := y12) fun x _ _ => s12 x (by omega) (by omega)
  clear e12 g12 no12 m12 s12 d11 n11 o11
  refine wp_aload_n (pc := 136) dX11_init_136 rfl ?_
  refine wp_nwo (pc := 137) (b := D + 162) dX11_init_137 (by omega) nw_X11_81 rfl (by decide) (by decide) ?_
  refine wp_dup (pc := 140) dX11_init_140 rfl ?_
  refine wp_callI (pc := 141) dX11_init_141 cl_X11_83 (as := []) (sp_Draws_init (A := D + 162) (by show y12.1 + 1 + 4 = _; omega) hnw_eq) ⟨by decide, by decide, by decide, by decide⟩ (Nat.le_of_ble_eq_true rfl) rfl (fun v x13 hv => ?_)
  obtain ⟨rfl, t13, no13⟩ := hv
  have m13 : x13.1 = y12.1 + 1 + 0 := no13.1
  show wp g _ _ _ 162 3116 _ _ [.ref (D + 162), .ref D] _
  have g13 : x13.2 D = some (.inr (.inr (11, [.ref (D + 1), .ref (D + 3), .ref (D + 5), .ref (D + 13), .ref (D + 21), .ref (D + 23), .ref (D + 129), .ref (D + 137), .int (I 0), .int (I 0), .ref (D + 145), .ref (D + 148), .ref (D + 153), .ref (D + 157), .null, .null, .null]))) := (no13.2 _ (by omega)).trans ((hnw_ne (by omega)).trans d12)
  refine wp_putf (pc := 144) dX11_init_144 pf_X11_84 g13 (by first | decide | exact Nat.lt_of_sub_pos (by decide) | simp) rfl rfl (by first | decide | (intro h; cases h) | (intro _; rfl)) ?_
  refine wp_gen (fun y13 e13 => ?_)
  have d13 : y13.2 D = some (.inr (.inr (11, [.ref (D + 1), .ref (D + 3), .ref (D + 5), .ref (D + 13), .ref (D + 21), .ref (D + 23), .ref (D + 129), .ref (D + 137), .int (I 0), .int (I 0), .ref (D + 145), .ref (D + 148), .ref (D + 153), .ref (D + 157), .ref (D + 162), .null, .null]))) := by rw [e13]; exact hset_eq
  have n13 : y13.1 + 4 = D + 163 := by rw [e13]; show x13.1 + 4 = _; omega
  have s13 : ∀ x, D < x → x < D + 162 → y13.2 x = y12.2 x := fun x a b => by rw [e13]; exact (hset_ne (by omega)).trans ((no13.2 x b).trans (hnw_ne (by omega)))
  have o13 : ∀ x, x < D → y13.2 x = hp.2 x := fun x a => by rw [e13]; exact (hset_ne (by omega)).trans ((no13.2 x (by omega)).trans ((hnw_ne (by omega)).trans (o12 x a)))
  replace t13 : DrawAt y13 (D + 162) 0 := by rw [e13]; exact t13.off fun x _ _ => hset_ne (by omega)
  replace t1 := t1.off (hp2 := y13) fun x _ _ => s13 x (by omega) (by omega)
  replace t2 := t2.off (hp2 := y13) fun x _ _ => s13 x (by omega) (by omega)
  replace t3 := t3.off (hp2 := y13) fun x _ _ => s13 x (by omega) (by omega)
  replace t4 := t4.off (hp2 := y13) fun x _ _ => s13 x (by omega) (by omega)
  replace t5 := t5.off (hp2 := y13) fun x _ _ => s13 x (by omega) (by omega)
  replace t6 := t6.off (hp2 := y13) fun x _ _ => s13 x (by omega) (by omega)
  replace t7 := t7.off (hp2 := y13) fun x _ _ => s13 x (by omega) (by omega)
  replace t8 := t8.off (hp2 := y13) fun x _ _ => s13 x (by omega) (by omega)
  replace t9 := t9.off (hp2 := y13) fun x _ _ => s13 x (by omega) (by omega)
  replace t10 := t10.off (hp2 := y13) fun x _ _ => s13 x (by omega) (by omega)
  replace t11 := t11.off (hp2 := y13) fun x _ _ => s13 x (by omega) (by omega)
  replace t12 := t12.off (hp2 := y13) fun x _ _ => s13 x (by omega) (by omega)
  clear e13 g13 no13 m13 s13 d12 n12 o12
  refine wp_aload_n (pc := 147) dX11_init_147 rfl ?_
  refine wp_nwo (pc := 148) (b := D + 163) dX11_init_148 (by omega) nw_X11_88 rfl (by decide) (by decide) ?_
  refine wp_dup (pc := 151) dX11_init_151 rfl ?_
  refine wp_callI (pc := 152) dX11_init_152 cl_X11_90 (as := []) (sp_Rule_init (A := D + 163) (by show y13.1 + 1 + 4 = _; omega) hnw_eq) ⟨by decide, by decide, by decide, by decide⟩ (Nat.le_of_ble_eq_true rfl) rfl (fun v x14 hv => ?_)
  obtain ⟨rfl, t14, no14⟩ := hv
  have m14 : x14.1 = y13.1 + 1 + 3 := no14.1
  show wp g _ _ _ 166 3243 _ _ [.ref (D + 163), .ref D] _
  have g14 : x14.2 D = some (.inr (.inr (11, [.ref (D + 1), .ref (D + 3), .ref (D + 5), .ref (D + 13), .ref (D + 21), .ref (D + 23), .ref (D + 129), .ref (D + 137), .int (I 0), .int (I 0), .ref (D + 145), .ref (D + 148), .ref (D + 153), .ref (D + 157), .ref (D + 162), .null, .null]))) := (no14.2 _ (by omega)).trans ((hnw_ne (by omega)).trans d13)
  refine wp_putf (pc := 155) dX11_init_155 pf_X11_91 g14 (by first | decide | exact Nat.lt_of_sub_pos (by decide) | simp) rfl rfl (by first | decide | (intro h; cases h) | (intro _; rfl)) ?_
  refine wp_gen (fun y14 e14 => ?_)
  have d14 : y14.2 D = some (.inr (.inr (11, [.ref (D + 1), .ref (D + 3), .ref (D + 5), .ref (D + 13), .ref (D + 21), .ref (D + 23), .ref (D + 129), .ref (D + 137), .int (I 0), .int (I 0), .ref (D + 145), .ref (D + 148), .ref (D + 153), .ref (D + 157), .ref (D + 162), .ref (D + 163), .null]))) := by rw [e14]; exact hset_eq
  have n14 : y14.1 + 4 = D + 167 := by rw [e14]; show x14.1 + 4 = _; omega
  have s14 : ∀ x, D < x → x < D + 163 → y14.2 x = y13.2 x := fun x a b => by rw [e14]; exact (hset_ne (by omega)).trans ((no14.2 x b).trans (hnw_ne (by omega)))
  have o14 : ∀ x, x < D → y14.2 x = hp.2 x := fun x a => by rw [e14]; exact (hset_ne (by omega)).trans ((no14.2 x (by omega)).trans ((hnw_ne (by omega)).trans (o13 x a)))
  replace t14 : RuleAt y14 (D + 163) csF := by rw [e14]; exact t14.off fun x _ _ => hset_ne (by omega)
  replace t1 := t1.off (hp2 := y14) fun x _ _ => s14 x (by omega) (by omega)
  replace t2 := t2.off (hp2 := y14) fun x _ _ => s14 x (by omega) (by omega)
  replace t3 := t3.off (hp2 := y14) fun x _ _ => s14 x (by omega) (by omega)
  replace t4 := t4.off (hp2 := y14) fun x _ _ => s14 x (by omega) (by omega)
  replace t5 := t5.off (hp2 := y14) fun x _ _ => s14 x (by omega) (by omega)
  replace t6 := t6.off (hp2 := y14) fun x _ _ => s14 x (by omega) (by omega)
  replace t7 := t7.off (hp2 := y14) fun x _ _ => s14 x (by omega) (by omega)
  replace t8 := t8.off (hp2 := y14) fun x _ _ => s14 x (by omega) (by omega)
  replace t9 := t9.off (hp2 := y14) fun x _ _ => s14 x (by omega) (by omega)
  replace t10 := t10.off (hp2 := y14) fun x _ _ => s14 x (by omega) (by omega)
  replace t11 := t11.off (hp2 := y14) fun x _ _ => s14 x (by omega) (by omega)
  replace t12 := t12.off (hp2 := y14) fun x _ _ => s14 x (by omega) (by omega)
  replace t13 := t13.off (hp2 := y14) fun x _ _ => s14 x (by omega) (by omega)
  clear e14 g14 no14 m14 s14 d13 n13 o13
  refine wp_aload_n (pc := 158) dX11_init_158 rfl ?_
  refine wp_nwo (pc := 159) (b := D + 167) dX11_init_159 (by omega) nw_X11_88 rfl (by decide) (by decide) ?_
  refine wp_dup (pc := 162) dX11_init_162 rfl ?_
  refine wp_callI (pc := 163) dX11_init_163 cl_X11_90 (as := []) (sp_Rule_init (A := D + 167) (by show y14.1 + 1 + 4 = _; omega) hnw_eq) ⟨by decide, by decide, by decide, by decide⟩ (Nat.le_of_ble_eq_true rfl) rfl (fun v x15 hv => ?_)
  obtain ⟨rfl, t15, no15⟩ := hv
  have m15 : x15.1 = y14.1 + 1 + 3 := no15.1
  show wp g _ _ _ 170 3370 _ _ [.ref (D + 167), .ref D] _
  have g15 : x15.2 D = some (.inr (.inr (11, [.ref (D + 1), .ref (D + 3), .ref (D + 5), .ref (D + 13), .ref (D + 21), .ref (D + 23), .ref (D + 129), .ref (D + 137), .int (I 0), .int (I 0), .ref (D + 145), .ref (D + 148), .ref (D + 153), .ref (D + 157), .ref (D + 162), .ref (D + 163), .null]))) := (no15.2 _ (by omega)).trans ((hnw_ne (by omega)).trans d14)
  refine wp_putf (pc := 166) dX11_init_166 pf_X11_95 g15 (by first | decide | exact Nat.lt_of_sub_pos (by decide) | simp) rfl rfl (by first | decide | (intro h; cases h) | (intro _; rfl)) ?_
  refine wp_gen (fun y15 e15 => ?_)
  have d15 : y15.2 D = some (.inr (.inr (11, [.ref (D + 1), .ref (D + 3), .ref (D + 5), .ref (D + 13), .ref (D + 21), .ref (D + 23), .ref (D + 129), .ref (D + 137), .int (I 0), .int (I 0), .ref (D + 145), .ref (D + 148), .ref (D + 153), .ref (D + 157), .ref (D + 162), .ref (D + 163), .ref (D + 167)]))) := by rw [e15]; exact hset_eq
  have n15 : y15.1 + 4 = D + 171 := by rw [e15]; show x15.1 + 4 = _; omega
  have s15 : ∀ x, D < x → x < D + 167 → y15.2 x = y14.2 x := fun x a b => by rw [e15]; exact (hset_ne (by omega)).trans ((no15.2 x b).trans (hnw_ne (by omega)))
  have o15 : ∀ x, x < D → y15.2 x = hp.2 x := fun x a => by rw [e15]; exact (hset_ne (by omega)).trans ((no15.2 x (by omega)).trans ((hnw_ne (by omega)).trans (o14 x a)))
  replace t15 : RuleAt y15 (D + 167) csF := by rw [e15]; exact t15.off fun x _ _ => hset_ne (by omega)
  replace t1 := t1.off (hp2 := y15) fun x _ _ => s15 x (by omega) (by omega)
  replace t2 := t2.off (hp2 := y15) fun x _ _ => s15 x (by omega) (by omega)
  replace t3 := t3.off (hp2 := y15) fun x _ _ => s15 x (by omega) (by omega)
  replace t4 := t4.off (hp2 := y15) fun x _ _ => s15 x (by omega) (by omega)
  replace t5 := t5.off (hp2 := y15) fun x _ _ => s15 x (by omega) (by omega)
  replace t6 := t6.off (hp2 := y15) fun x _ _ => s15 x (by omega) (by omega)
  replace t7 := t7.off (hp2 := y15) fun x _ _ => s15 x (by omega) (by omega)
  replace t8 := t8.off (hp2 := y15) fun x _ _ => s15 x (by omega) (by omega)
  replace t9 := t9.off (hp2 := y15) fun x _ _ => s15 x (by omega) (by omega)
  replace t10 := t10.off (hp2 := y15) fun x _ _ => s15 x (by omega) (by omega)
  replace t11 := t11.off (hp2 := y15) fun x _ _ => s15 x (by omega) (by omega)
  replace t12 := t12.off (hp2 := y15) fun x _ _ => s15 x (by omega) (by omega)
  replace t13 := t13.off (hp2 := y15) fun x _ _ => s15 x (by omega) (by omega)
  replace t14 := t14.off (hp2 := y15) fun x _ _ => s15 x (by omega) (by omega)
  clear e15 g15 no15 m15 s15 d14 n14 o14
  exact wp_vr (pc := 169) dX11_init_169 rfl (by decide) (by decide) ⟨⟨D + 163, D + 167, fun _ _ => 0, 0, fun _ _ => 0, d15, .inl ⟨rfl, rfl⟩, t1, t2, t3, t4, t5, t6, ⟨_, t7, fun Y q => by cases q⟩, ⟨_, t8, fun Y q => by cases q⟩, ⟨_, _, t9, fun i hi => absurd hi (by simp)⟩, ⟨_, _, _, t10, fun i hi => absurd hi (by simp)⟩, t11, t12, t13, t14, t15.raw⟩, by omega, o15⟩
end DI

