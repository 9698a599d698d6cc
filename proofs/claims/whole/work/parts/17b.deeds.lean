/-! the class: deeds -/
section D1
variable {g : GT} {hp hp2 hp0 : Hp} {D r s N n k i : Nat} {T T2 Tr Z : Nat → Int → Int} {z x y a b c : Int} {U : List (Nat → Int → Int)} {tx rw rt : List Int} {hs : List (Int × Int)} {ss : List (Int × Int × Int)} {KT : Nat → Option (Nat → Int → Int)}
def DX (hp : Hp) (D : Nat) (T : Nat → Int → Int) (U : List (Nat → Int → Int)) (tx rw rt : List Int) (hs : List (Int × Int)) (ss : List (Int × Int × Int)) (KT : Nat → Option (Nat → Int → Int)) : Prop := ∃ r s Tr z Z, DA hp D r s Tr z Z T U tx rw rt hs ss KT
theorem rdv_in (hb : byl tx) : -1 ≤ rdv tx ∧ rdv tx ≤ 40 := by
  unfold rdv
  have hg := (GP_E (NX_h hb) 4 0 (by omega)).2.1
  have hg2 : (rdl tx).2.1 ≤ min tx.length 40 := hg
  split
  · omega
  · split <;> omega
theorem dieA_R {p m : Int} (hI : TI T N) : -4 ≤ dieA T N p m ∧ dieA T N p m ≤ 6 := by
  have h := dct_in (dieT T N p m) N
  have := hI.men.2
  unfold dieA
  repeat' split
  all_goals omega
theorem couA_R {p : Int} (hI : TI T N) : -4 ≤ couA T N p ∧ couA T N p ≤ 9999 := by
  obtain ⟨i8, iN, i0, i1, i2, i3, i4, i5, i6, i7⟩ := hI
  have := i3 p
  unfold couA
  repeat' split
  all_goals omega
theorem lenA_R {p q m : Int} (hI : TI T N) : -4 ≤ lenA T N p q m ∧ lenA T N p q m ≤ 999 := by
  obtain ⟨i8, iN, i0, i1, i2, i3, i4, i5, i6, i7⟩ := hI
  have := i1 (q * 6 + p)
  unfold lenA
  repeat' split
  all_goals omega
theorem payA_R {p q m : Int} (hI : TI T N) : -4 ≤ payA T N p q m ∧ payA T N p q m ≤ 999 := by
  obtain ⟨i8, iN, i0, i1, i2, i3, i4, i5, i6, i7⟩ := hI
  have := i1 (p * 6 + q)
  unfold payA
  repeat' split
  all_goals omega
theorem sp_D_sign {x : Int32} (K : DA hp D r s Tr z Z T U tx rw rt hs ss KT) : Sp g MX11_sign (rm 1 0 0) [.ref D, .int x] hp (Eff (.int (I (if tx.length + 4 ≤ 80 then (tx.length : Int) + 4 else -1))) (fun hp2 => DX hp2 D T U (if tx.length + 4 ≤ 80 then tx ++ by4 x else tx) rw rt hs ss KT ∧ SO hp hp2 D (D + 171))) := by
  refine Sp_mk rfl (Nat.le_of_ble_eq_true rfl) ?_
  show wp g _ _ _ 0 0 0 [some (.ref D), some (.int x)] [] hp
  have O := SO.rf (hp := hp) (lo := D) (hi := D + 171)
  refine wp_aload_n (pc := 0) dX11_sign_0 rfl ?_
  refine wp_getf (pc := 1) dX11_sign_1 gf_X11_12 K.ob (by rfl) ?_
  refine wp_iload_n (pc := 4) dX11_sign_4 rfl ?_
  refine wd_Vs (pc := 5) dX11_sign_5 cl_X11_98 (sp_Text_add K.te) rfl rfl K.te.o (by rfl) (by decide) (Nat.le_of_ble_eq_true rfl) (fun hp5 e5 => ?_)
  obtain ⟨h5, o5⟩ := e5
  replace O := O.inn o5 (by omega) (by omega)
  replace K := K.uTe h5 o5
  exact wp_ir (pc := 8) dX11_sign_8 rfl (by decide) (by decide) (by first | rfl | omega) ⟨⟨_, _, _, _, _, K⟩, O⟩
theorem sp_D_end (K : DA hp D r s Tr z Z T U tx rw rt hs ss KT) (rx : InR x) : Sp g MX11_end (rm 1 0 0) [.ref D, .int (I x)] hp (Eff (.int (B (0 ≤ x ∧ x ≤ tx.length))) (fun hp2 => DX hp2 D T U (if 0 ≤ x ∧ x ≤ tx.length then tx.take x.toNat else tx) rw rt hs ss KT ∧ SO hp hp2 D (D + 171))) := by
  refine Sp_mk rfl (Nat.le_of_ble_eq_true rfl) ?_
  show wp g _ _ _ 0 0 0 [some (.ref D), some (.int (I x))] [] hp
  have O := SO.rf (hp := hp) (lo := D) (hi := D + 171)
  refine wp_aload_n (pc := 0) dX11_end_0 rfl ?_
  refine wp_getf (pc := 1) dX11_end_1 gf_X11_12 K.ob (by rfl) ?_
  refine wp_iload_n (pc := 4) dX11_end_4 rfl ?_
  refine wd_Vs (pc := 5) dX11_end_5 cl_X11_102 (sp_Text_cut K.te (by first | assumption | omega)) rfl rfl K.te.o (by rfl) (by decide) (Nat.le_of_ble_eq_true rfl) (fun hp5 e5 => ?_)
  obtain ⟨h5, o5⟩ := e5
  replace O := O.inn o5 (by omega) (by omega)
  replace K := K.uTe h5 o5
  first | exact wp_z1 (pc := 8) dX11_end_8 rfl (by decide) (by decide) (by omega) ⟨⟨_, _, _, _, _, K⟩, O⟩ | exact wp_z0 (pc := 8) dX11_end_8 rfl (by decide) (by decide) (by omega) ⟨⟨_, _, _, _, _, K⟩, O⟩ | exact wp_zb (pc := 8) dX11_end_8 rfl (by decide) (by decide) Iff.rfl ⟨⟨_, _, _, _, _, K⟩, O⟩
theorem DA.sw (K : DA hp D r s Tr z Z T U tx rw rt hs ss KT) {rt2 : List Int} (h : RuleAt hp s (stl rt2)) (hr : RawAt hp r) (e : hp2.2 D = some (dobj D s r (KT 0).isSome (KT 1).isSome)) (o : SO hp hp2 D (D + 1)) : DA hp2 D s r Tr z Z T U tx rw rt2 hs ss KT := ⟨e, K.rs.symm.imp (fun ⟨a, b⟩ => ⟨b, a⟩) (fun ⟨a, b⟩ => ⟨b, a⟩), K.te.off fun x _ _ => o.2 x (by omega), K.ro.off fun x _ _ => o.2 x (by omega), K.to.off fun x _ _ => o.2 x (by omega), K.tr.off fun x _ _ => o.2 x (by omega), K.cl.off fun x _ _ => o.2 x (by omega), K.pa.off fun x _ _ => o.2 x (by omega), K.k0.off fun x _ _ => o.2 x (by omega), K.k1.off fun x _ _ => o.2 x (by omega), K.he.off fun x _ _ => o.2 x (by omega), K.sh.off fun x _ _ => o.2 x (by omega), K.ga.off fun x _ _ => o.2 x (by omega), K.pt.off fun x _ _ => o.2 x (by omega), K.dr.off fun x _ _ => o.2 x (by omega), h.off fun x _ _ => o.2 x (by have := K.rs; omega), hr.off fun x _ _ => o.2 x (by have := K.rs; omega)⟩
theorem sp_D_rule (K : DA hp D r s Tr z Z T U tx rw rt hs ss KT) (hl : byl tx) : Sp g MX11_rule (rm 34 0 0) [.ref D] hp (Eff (.int (I (if rdv tx = -1 then 0 else -1 - rdv tx))) (fun hp2 => DX hp2 D T U [] rw (if rdv tx = -1 then tx else rt) hs ss KT ∧ SO hp hp2 D (D + 171))) := by
  have hv := rdv_in hl
  refine Sp_mk rfl (Nat.le_of_ble_eq_true rfl) ?_
  show wp g _ _ _ 0 0 0 [some (.ref D), none, none] [] hp
  have O := SO.rf (hp := hp) (lo := D) (hi := D + 171)
  refine wp_aload_n (pc := 0) dX11_rule_0 rfl ?_
  refine wp_getf (pc := 1) dX11_rule_1 gf_X11_95 K.ob (by rfl) ?_
  refine wp_aload_n (pc := 4) dX11_rule_4 rfl ?_
  refine wp_getf (pc := 5) dX11_rule_5 gf_X11_12 K.ob (by rfl) ?_
  refine wd_Vs (pc := 8) dX11_rule_8 cl_X11_144 (sp_Rule_read K.sp K.te (by first | assumption | omega) (by have := K.rs; omega)) rfl rfl (by first | exact K.ru.o | exact K.sp.o) (by rfl) (by decide) (Nat.le_of_ble_eq_true rfl) (fun hp8 e8 => ?_)
  obtain ⟨h8, hr8, o8⟩ := e8
  replace O := O.inn o8 (by have := K.rs; omega) (by have := K.rs; omega)
  replace K := K.uSp h8 o8
  refine wp_istore_n (pc := 11) dX11_rule_11 (by decide) ?_
  refine wp_aload_n (pc := 12) dX11_rule_12 rfl ?_
  refine wp_getf (pc := 13) dX11_rule_13 gf_X11_12 K.ob (by rfl) ?_
  refine wd_Vn (pc := 16) dX11_rule_16 cl_X11_124 (sp_Text_clear K.te) rfl rfl K.te.o (by rfl) (by decide) (Nat.le_of_ble_eq_true rfl) (fun hp16 e16 => ?_)
  obtain ⟨h16, o16⟩ := e16
  replace O := O.inn o16 (by omega) (by omega)
  replace K := K.uTe h16 o16
  replace hr8 := fun c => (hr8 c).off fun x _ _ => o16.2 x (by have := K.rs; omega)
  refine wp_iload_n (pc := 19) dX11_rule_19 rfl ?_
  refine wp_iconst (pc := 20) dX11_rule_20 ?_
  refine wp_icmp_eq (pc := 21) 28 dX11_rule_21 (by decide) (by first | omega | exact TI.i5 (by assumption) | exact TI.i3 (by assumption) | exact TI.i2 (by assumption) | exact TI.i1 (by assumption) | exact TI.i0 (by assumption) | exact TI.i4 (by assumption) | exact TI.i6 (by assumption) | exact TI.i7 (by assumption)) (by first | omega | exact TI.i5 (by assumption) | exact TI.i3 (by assumption) | exact TI.i2 (by assumption) | exact TI.i1 (by assumption) | exact TI.i0 (by assumption) | exact TI.i4 (by assumption) | exact TI.i6 (by assumption) | exact TI.i7 (by assumption)) (fun c21 => ?_) (fun c21 => ?_)
  ·
    simp only [if_pos c21] -- go
    refine wp_aload_n (pc := 28) dX11_rule_28 rfl ?_
    refine wp_getf (pc := 29) dX11_rule_29 gf_X11_91 K.ob (by rfl) ?_
    refine wp_astore_n (pc := 32) dX11_rule_32 (by decide) ?_
    refine wp_aload_n (pc := 33) dX11_rule_33 rfl ?_
    refine wp_aload_n (pc := 34) dX11_rule_34 rfl ?_
    refine wp_getf (pc := 35) dX11_rule_35 gf_X11_95 K.ob (by rfl) ?_
    refine wp_putf (pc := 38) dX11_rule_38 pf_X11_91 (by first | exact K.ob | exact K.to.1 | exact K.tr.1 | exact K.to.2.1 | exact K.to.2.2.1 | exact K.to.2.2.2.1 | exact K.to.2.2.2.2.1 | exact K.to.2.2.2.2.2.1 | exact K.to.2.2.2.2.2.2.1 | exact K.to.2.2.2.2.2.2.2 | exact K.tr.2.1 | exact K.tr.2.2.1 | exact K.tr.2.2.2.1 | exact K.tr.2.2.2.2.1 | exact K.tr.2.2.2.2.2.1 | exact K.tr.2.2.2.2.2.2.1 | exact K.tr.2.2.2.2.2.2.2) (by first | decide | exact Nat.lt_of_sub_pos (by decide) | simp) rfl rfl (by first | decide | intro h; cases h) ?_
    refine wp_aload_n (pc := 41) dX11_rule_41 rfl ?_
    refine wp_aload_n (pc := 42) dX11_rule_42 rfl ?_
    refine wp_putf (pc := 43) dX11_rule_43 pf_X11_95 hset_eq (by first | decide | exact Nat.lt_of_sub_pos (by decide) | simp) rfl rfl (by first | decide | intro h; cases h) ?_
    refine wp_gen (fun hp9 e9 => ?_)
    have K9 : DA hp9 D s r Tr z Z T U [] rw tx hs ss KT := K.sw (hr8 c21) K.ru.raw (by rw [e9]; exact hset_eq) (by rw [e9]; exact (SO.rf.set (by omega) (by omega)).set (by omega) (by omega))
    have O9 : SO hp hp9 D (D + 171) := by rw [e9]; exact (O.set (by omega) (by omega)).set (by omega) (by omega)
    replace K := K9
    replace O := O9
    refine wp_iconst (pc := 46) dX11_rule_46 ?_
    exact wp_ir (pc := 47) dX11_rule_47 rfl (by decide) (by decide) (by first | rfl | omega) ⟨⟨_, _, _, _, _, K⟩, O⟩
  ·
    simp only [if_neg c21] -- go
    refine wp_iconst (pc := 24) dX11_rule_24 ?_
    refine wp_iload_n (pc := 25) dX11_rule_25 rfl ?_
    refine wp_isub (pc := 26) dX11_rule_26 ?_
    exact wp_ir (pc := 27) dX11_rule_27 rfl (by decide) (by decide) (by first | rfl | omega) ⟨⟨_, _, _, _, _, K⟩, O⟩
theorem sp_D_keptIfDone (K : DA hp D r s Tr z Z T U tx rw rt hs ss KT) (rx : InR x) : Sp g MX11_keptIfDone (rm 2 0 0) [.ref D, .int (I x)] hp (Eff (.int (I x)) (fun hp2 => DX hp2 D T (if 0 ≤ x then (Z :: U).take 12 else U) tx rw rt hs ss KT ∧ SO hp hp2 D (D + 171))) := by
  refine Sp_mk rfl (Nat.le_of_ble_eq_true rfl) ?_
  show wp g _ _ _ 0 0 0 [some (.ref D), some (.int (I x))] [] hp
  have O := SO.rf (hp := hp) (lo := D) (hi := D + 171)
  refine wp_iload_n (pc := 0) dX11_keptIfDone_0 rfl ?_
  refine wp_if_lt (pc := 1) 11 dX11_keptIfDone_1 (by decide) (by first | omega | exact TI.i5 (by assumption) | exact TI.i3 (by assumption) | exact TI.i2 (by assumption) | exact TI.i1 (by assumption) | exact TI.i0 (by assumption) | exact TI.i4 (by assumption) | exact TI.i6 (by assumption) | exact TI.i7 (by assumption)) (fun c1 => ?_) (fun c1 => ?_)
  ·
    rw [if_neg (by omega)] -- go
    refine wp_iload_n (pc := 11) dX11_keptIfDone_11 rfl ?_
    exact wp_ir (pc := 12) dX11_keptIfDone_12 rfl (by decide) (by decide) (by first | rfl | omega) ⟨⟨_, _, _, _, _, K⟩, O⟩
  ·
    rw [if_pos (by omega)] -- go
    refine wp_aload_n (pc := 4) dX11_keptIfDone_4 rfl ?_
    refine wp_getf (pc := 5) dX11_keptIfDone_5 gf_X11_43 K.ob (by rfl) ?_
    refine wd_Vn (pc := 8) dX11_keptIfDone_8 cl_X11_201 (sp_L_keep K.pa) rfl rfl K.pa.o (by rfl) (by decide) (Nat.le_of_ble_eq_true rfl) (fun hp8 e8 => ?_)
    obtain ⟨⟨Z8, h8⟩, o8⟩ := e8
    replace O := O.inn o8 (by omega) (by omega)
    replace K := K.uPa h8 o8
    refine wp_iload_n (pc := 11) dX11_keptIfDone_11 rfl ?_
    exact wp_ir (pc := 12) dX11_keptIfDone_12 rfl (by decide) (by decide) (by first | rfl | omega) ⟨⟨_, _, _, _, _, K⟩, O⟩
theorem sp_D_dies (K : DA hp D r s Tr z Z T U tx rw rt hs ss KT) (hI : TI T N) (rx : InR x) (ry : InR y) : Sp g MX11_dies (rm 4 0 0) [.ref D, .int (I x), .int (I y)] hp (Eff (.int (I (dieA T N x y))) (fun hp2 => DX hp2 D (dieT T N x y) (if 0 ≤ dieA T N x y then (T :: U).take 12 else U) tx rw rt hs ss KT ∧ SO hp hp2 D (D + 171))) := by
  have hr := dieA_R (p := x) (m := y) hI
  refine Sp_mk rfl (Nat.le_of_ble_eq_true rfl) ?_
  show wp g _ _ _ 0 0 0 [some (.ref D), some (.int (I x)), some (.int (I y))] [] hp
  have O := SO.rf (hp := hp) (lo := D) (hi := D + 171)
  refine wp_aload_n (pc := 0) dX11_dies_0 rfl ?_
  refine wp_getf (pc := 1) dX11_dies_1 gf_X11_43 K.ob (by rfl) ?_
  refine wp_aload_n (pc := 4) dX11_dies_4 rfl ?_
  refine wp_getf (pc := 5) dX11_dies_5 gf_X11_26 K.ob (by rfl) ?_
  refine wd_Vn (pc := 8) dX11_dies_8 cl_X11_193 (sp_L_note K.pa K.to (by omega)) rfl rfl K.pa.o (by rfl) (by decide) (Nat.le_of_ble_eq_true rfl) (fun hp8 e8 => ?_)
  obtain ⟨h8, o8⟩ := e8
  replace O := O.inn o8 (by omega) (by omega)
  replace K := K.uPa h8 o8
  refine wp_aload_n (pc := 11) dX11_dies_11 rfl ?_
  refine wp_aload_n (pc := 12) dX11_dies_12 rfl ?_
  refine wp_getf (pc := 13) dX11_dies_13 gf_X11_26 K.ob (by rfl) ?_
  refine wp_iload_n (pc := 16) dX11_dies_16 rfl ?_
  refine wp_iload_n (pc := 17) dX11_dies_17 rfl ?_
  refine wd_Vs (pc := 18) dX11_dies_18 cl_X11_211 (sp_Town_letDie (by first | exact K.to | exact K.tr) (by first | assumption | omega) (by first | assumption | omega) (by first | assumption | omega)) rfl rfl (by first | exact K.to.o | exact K.tr.o | exact K.k0.o | exact K.k1.o) (by rfl) (by decide) (Nat.le_of_ble_eq_true rfl) (fun hp18 e18 => ?_)
  obtain ⟨h18, o18⟩ := e18
  replace O := O.inn o18 (by omega) (by omega)
  first | replace K := K.uTo h18 o18 | replace K := K.uTr h18 o18
  refine wd_Vs (pc := 21) dX11_dies_21 cl_X11_214 (sp_D_keptIfDone K (by omega)) rfl rfl K.o (by rfl) (by decide) (Nat.le_of_ble_eq_true rfl) (fun hp21 e21 => ?_)
  obtain ⟨⟨r21, s21, Tr21, z21, Z21, K⟩, O1⟩ := e21; replace O := SO.tr O O1
  exact wp_ir (pc := 24) dX11_dies_24 rfl (by decide) (by decide) (by first | rfl | omega) ⟨⟨_, _, _, _, _, K⟩, O⟩
theorem sp_D_coughs (K : DA hp D r s Tr z Z T U tx rw rt hs ss KT) (hI : TI T N) (rx : InR x) : Sp g MX11_coughs (rm 3 0 0) [.ref D, .int (I x)] hp (Eff (.int (I (couA T N x))) (fun hp2 => DX hp2 D (couT T N x) (if 0 ≤ couA T N x then (T :: U).take 12 else U) tx rw rt hs ss KT ∧ SO hp hp2 D (D + 171))) := by
  have hr := couA_R (p := x) hI
  refine Sp_mk rfl (Nat.le_of_ble_eq_true rfl) ?_
  show wp g _ _ _ 0 0 0 [some (.ref D), some (.int (I x))] [] hp
  have O := SO.rf (hp := hp) (lo := D) (hi := D + 171)
  refine wp_aload_n (pc := 0) dX11_coughs_0 rfl ?_
  refine wp_getf (pc := 1) dX11_coughs_1 gf_X11_43 K.ob (by rfl) ?_
  refine wp_aload_n (pc := 4) dX11_coughs_4 rfl ?_
  refine wp_getf (pc := 5) dX11_coughs_5 gf_X11_26 K.ob (by rfl) ?_
  refine wd_Vn (pc := 8) dX11_coughs_8 cl_X11_193 (sp_L_note K.pa K.to (by omega)) rfl rfl K.pa.o (by rfl) (by decide) (Nat.le_of_ble_eq_true rfl) (fun hp8 e8 => ?_)
  obtain ⟨h8, o8⟩ := e8
  replace O := O.inn o8 (by omega) (by omega)
  replace K := K.uPa h8 o8
  refine wp_aload_n (pc := 11) dX11_coughs_11 rfl ?_
  refine wp_aload_n (pc := 12) dX11_coughs_12 rfl ?_
  refine wp_getf (pc := 13) dX11_coughs_13 gf_X11_26 K.ob (by rfl) ?_
  refine wp_iload_n (pc := 16) dX11_coughs_16 rfl ?_
  refine wd_Vs (pc := 17) dX11_coughs_17 cl_X11_217 (sp_Town_letCough (by first | exact K.to | exact K.tr) (by first | assumption | omega) (by first | assumption | omega)) rfl rfl (by first | exact K.to.o | exact K.tr.o | exact K.k0.o | exact K.k1.o) (by rfl) (by decide) (Nat.le_of_ble_eq_true rfl) (fun hp17 e17 => ?_)
  obtain ⟨h17, o17⟩ := e17
  replace O := O.inn o17 (by omega) (by omega)
  first | replace K := K.uTo h17 o17 | replace K := K.uTr h17 o17
  refine wd_Vs (pc := 20) dX11_coughs_20 cl_X11_214 (sp_D_keptIfDone K (by omega)) rfl rfl K.o (by rfl) (by decide) (Nat.le_of_ble_eq_true rfl) (fun hp20 e20 => ?_)
  obtain ⟨⟨r20, s20, Tr20, z20, Z20, K⟩, O1⟩ := e20; replace O := SO.tr O O1
  exact wp_ir (pc := 23) dX11_coughs_23 rfl (by decide) (by decide) (by first | rfl | omega) ⟨⟨_, _, _, _, _, K⟩, O⟩
theorem sp_D_lends (K : DA hp D r s Tr z Z T U tx rw rt hs ss KT) (hI : TI T N) (rx : InR x) (ry : InR y) (rc : InR c) : Sp g MX11_lends (rm 4 0 0) [.ref D, .int (I x), .int (I y), .int (I c)] hp (Eff (.int (I (lenA T N x y c))) (fun hp2 => DX hp2 D (lenT T N x y c) (if 0 ≤ lenA T N x y c then (T :: U).take 12 else U) tx rw rt hs ss KT ∧ SO hp hp2 D (D + 171))) := by
  have hr := lenA_R (p := x) (q := y) (m := c) hI
  refine Sp_mk rfl (Nat.le_of_ble_eq_true rfl) ?_
  show wp g _ _ _ 0 0 0 [some (.ref D), some (.int (I x)), some (.int (I y)), some (.int (I c))] [] hp
  have O := SO.rf (hp := hp) (lo := D) (hi := D + 171)
  refine wp_aload_n (pc := 0) dX11_lends_0 rfl ?_
  refine wp_getf (pc := 1) dX11_lends_1 gf_X11_43 K.ob (by rfl) ?_
  refine wp_aload_n (pc := 4) dX11_lends_4 rfl ?_
  refine wp_getf (pc := 5) dX11_lends_5 gf_X11_26 K.ob (by rfl) ?_
  refine wd_Vn (pc := 8) dX11_lends_8 cl_X11_193 (sp_L_note K.pa K.to (by omega)) rfl rfl K.pa.o (by rfl) (by decide) (Nat.le_of_ble_eq_true rfl) (fun hp8 e8 => ?_)
  obtain ⟨h8, o8⟩ := e8
  replace O := O.inn o8 (by omega) (by omega)
  replace K := K.uPa h8 o8
  refine wp_aload_n (pc := 11) dX11_lends_11 rfl ?_
  refine wp_aload_n (pc := 12) dX11_lends_12 rfl ?_
  refine wp_getf (pc := 13) dX11_lends_13 gf_X11_26 K.ob (by rfl) ?_
  refine wp_iload_n (pc := 16) dX11_lends_16 rfl ?_
  refine wp_iload_n (pc := 17) dX11_lends_17 rfl ?_
  refine wp_iload_n (pc := 18) dX11_lends_18 rfl ?_
  refine wd_Vs (pc := 19) dX11_lends_19 cl_X11_220 (sp_Town_lend (by first | exact K.to | exact K.tr) (by first | assumption | omega) (by first | assumption | omega) (by first | assumption | omega) (by first | assumption | omega)) rfl rfl (by first | exact K.to.o | exact K.tr.o | exact K.k0.o | exact K.k1.o) (by rfl) (by decide) (Nat.le_of_ble_eq_true rfl) (fun hp19 e19 => ?_)
  obtain ⟨h19, o19⟩ := e19
  replace O := O.inn o19 (by omega) (by omega)
  first | replace K := K.uTo h19 o19 | replace K := K.uTr h19 o19
  refine wd_Vs (pc := 22) dX11_lends_22 cl_X11_214 (sp_D_keptIfDone K (by omega)) rfl rfl K.o (by rfl) (by decide) (Nat.le_of_ble_eq_true rfl) (fun hp22 e22 => ?_)
  obtain ⟨⟨r22, s22, Tr22, z22, Z22, K⟩, O1⟩ := e22; replace O := SO.tr O O1
  exact wp_ir (pc := 25) dX11_lends_25 rfl (by decide) (by decide) (by first | rfl | omega) ⟨⟨_, _, _, _, _, K⟩, O⟩
theorem sp_D_pays (K : DA hp D r s Tr z Z T U tx rw rt hs ss KT) (hI : TI T N) (rx : InR x) (ry : InR y) (rc : InR c) : Sp g MX11_pays (rm 4 0 0) [.ref D, .int (I x), .int (I y), .int (I c)] hp (Eff (.int (I (payA T N x y c))) (fun hp2 => DX hp2 D (payT T N x y c) (if 0 ≤ payA T N x y c then (T :: U).take 12 else U) tx rw rt hs ss KT ∧ SO hp hp2 D (D + 171))) := by
  have hr := payA_R (p := x) (q := y) (m := c) hI
  refine Sp_mk rfl (Nat.le_of_ble_eq_true rfl) ?_
  show wp g _ _ _ 0 0 0 [some (.ref D), some (.int (I x)), some (.int (I y)), some (.int (I c))] [] hp
  have O := SO.rf (hp := hp) (lo := D) (hi := D + 171)
  refine wp_aload_n (pc := 0) dX11_pays_0 rfl ?_
  refine wp_getf (pc := 1) dX11_pays_1 gf_X11_43 K.ob (by rfl) ?_
  refine wp_aload_n (pc := 4) dX11_pays_4 rfl ?_
  refine wp_getf (pc := 5) dX11_pays_5 gf_X11_26 K.ob (by rfl) ?_
  refine wd_Vn (pc := 8) dX11_pays_8 cl_X11_193 (sp_L_note K.pa K.to (by omega)) rfl rfl K.pa.o (by rfl) (by decide) (Nat.le_of_ble_eq_true rfl) (fun hp8 e8 => ?_)
  obtain ⟨h8, o8⟩ := e8
  replace O := O.inn o8 (by omega) (by omega)
  replace K := K.uPa h8 o8
  refine wp_aload_n (pc := 11) dX11_pays_11 rfl ?_
  refine wp_aload_n (pc := 12) dX11_pays_12 rfl ?_
  refine wp_getf (pc := 13) dX11_pays_13 gf_X11_26 K.ob (by rfl) ?_
  refine wp_iload_n (pc := 16) dX11_pays_16 rfl ?_
  refine wp_iload_n (pc := 17) dX11_pays_17 rfl ?_
  refine wp_iload_n (pc := 18) dX11_pays_18 rfl ?_
  refine wd_Vs (pc := 19) dX11_pays_19 cl_X11_224 (sp_Town_pay (by first | exact K.to | exact K.tr) (by first | assumption | omega) (by first | assumption | omega) (by first | assumption | omega) (by first | assumption | omega)) rfl rfl (by first | exact K.to.o | exact K.tr.o | exact K.k0.o | exact K.k1.o) (by rfl) (by decide) (Nat.le_of_ble_eq_true rfl) (fun hp19 e19 => ?_)
  obtain ⟨h19, o19⟩ := e19
  replace O := O.inn o19 (by omega) (by omega)
  first | replace K := K.uTo h19 o19 | replace K := K.uTr h19 o19
  refine wd_Vs (pc := 22) dX11_pays_22 cl_X11_214 (sp_D_keptIfDone K (by omega)) rfl rfl K.o (by rfl) (by decide) (Nat.le_of_ble_eq_true rfl) (fun hp22 e22 => ?_)
  obtain ⟨⟨r22, s22, Tr22, z22, Z22, K⟩, O1⟩ := e22; replace O := SO.tr O O1
  exact wp_ir (pc := 25) dX11_pays_25 rfl (by decide) (by decide) (by first | rfl | omega) ⟨⟨_, _, _, _, _, K⟩, O⟩
theorem sp_D_hours (K : DA hp D r s Tr z Z T U tx rw rt hs ss KT) (hI : TI T N) (hH : HS T) (hb : T 7 0 < 1900000000) (rx : InR x) : Sp g MX11_hours (rm 6 0 0) [.ref D, .int (I x)] hp (Eff (.int (I (hoA (stl rt) T N x))) (fun hp2 => DX hp2 D (hoT (stl rt) T N x) (if 1 ≤ x ∧ x ≤ 60 then (T :: U).take 12 else U) tx (hoR (stl rt) T N rw x) rt hs ss KT ∧ SO hp hp2 D (D + 171))) := by
  obtain ⟨h8, hN⟩ := hI.men
  have hs3 := sm_r3 hI
  refine Sp_mk rfl (Nat.le_of_ble_eq_true rfl) ?_
  show wp g _ _ _ 0 0 0 [some (.ref D), some (.int (I x)), none, none] [] hp
  have O := SO.rf (hp := hp) (lo := D) (hi := D + 171)
  refine wp_iload_n (pc := 0) dX11_hours_0 rfl ?_
  refine wp_if_lt (pc := 1) 10 dX11_hours_1 (by decide) (by first | omega | exact TI.i5 (by assumption) | exact TI.i3 (by assumption) | exact TI.i2 (by assumption) | exact TI.i1 (by assumption) | exact TI.i0 (by assumption) | exact TI.i4 (by assumption) | exact TI.i6 (by assumption) | exact TI.i7 (by assumption)) (fun c1 => ?_) (fun c1 => ?_)
  ·
    have cc : ¬ (0 ≤ x ∧ x ≤ 60) := by omega
    have e1 : hoA (stl rt) T N x = -1 := if_neg cc
    have e2 : hoT (stl rt) T N x = T := if_neg cc
    have e3 : hoR (stl rt) T N rw x = rw := if_neg cc
    rw [e1, e2, e3, if_neg (by omega)]
    refine wp_iconst (pc := 10) dX11_hours_10 ?_
    exact wp_ir (pc := 11) dX11_hours_11 rfl (by decide) (by decide) (by first | rfl | omega) ⟨⟨_, _, _, _, _, K⟩, O⟩
  ·
    refine wp_iload_n (pc := 4) dX11_hours_4 rfl ?_
    refine wp_bipush (pc := 5) (y := 60) dX11_hours_5 (by decide) ?_
    refine wp_icmp_le (pc := 7) 12 dX11_hours_7 (by decide) (by first | omega | exact TI.i5 (by assumption) | exact TI.i3 (by assumption) | exact TI.i2 (by assumption) | exact TI.i1 (by assumption) | exact TI.i0 (by assumption) | exact TI.i4 (by assumption) | exact TI.i6 (by assumption) | exact TI.i7 (by assumption)) (by first | omega | exact TI.i5 (by assumption) | exact TI.i3 (by assumption) | exact TI.i2 (by assumption) | exact TI.i1 (by assumption) | exact TI.i0 (by assumption) | exact TI.i4 (by assumption) | exact TI.i6 (by assumption) | exact TI.i7 (by assumption)) (fun c7 => ?_) (fun c7 => ?_)
    ·
      have cc : 0 ≤ x ∧ x ≤ 60 := by omega
      obtain ⟨n, rfl⟩ := Int.eq_ofNat_of_zero_le cc.1
      have e1 : hoA (stl rt) T N (n : Int) = dct (runT (stl rt) T N n) N := if_pos cc
      have e2 : hoT (stl rt) T N (n : Int) = runT (stl rt) T N n := if_pos cc
      have e3 : hoR (stl rt) T N rw (n : Int) = [sm (runT (stl rt) T N n 3) N - sm (T 3) N, ((runW (stl rt) T N n : Nat) : Int)] := if_pos cc
      have hI2 := runT_I (cs := stl rt) hI n (by omega)
      have hs4 := sm_r3 hI2
      have hw := runW_le (stl rt) T N n
      have hw2 : N * n ≤ 6 * n := Nat.mul_le_mul_right n hN
      rw [e1, e2, e3]
      refine wp_aload_n (pc := 12) dX11_hours_12 rfl ?_
      refine wp_getf (pc := 13) dX11_hours_13 gf_X11_43 K.ob (by rfl) ?_
      refine wp_aload_n (pc := 16) dX11_hours_16 rfl ?_
      refine wp_getf (pc := 17) dX11_hours_17 gf_X11_26 K.ob (by rfl) ?_
      refine wd_Vn (pc := 20) dX11_hours_20 cl_X11_193 (sp_L_note K.pa K.to (by omega)) rfl rfl K.pa.o (by rfl) (by decide) (Nat.le_of_ble_eq_true rfl) (fun hp20 e20 => ?_)
      obtain ⟨h20, o20⟩ := e20
      replace O := O.inn o20 (by omega) (by omega)
      replace K := K.uPa h20 o20
      refine wp_aload_n (pc := 23) dX11_hours_23 rfl ?_
      refine wp_getf (pc := 24) dX11_hours_24 gf_X11_26 K.ob (by rfl) ?_
      refine wp_aload_n (pc := 27) dX11_hours_27 rfl ?_
      refine wp_getf (pc := 28) dX11_hours_28 gf_X11_26 K.ob (by rfl) ?_
      refine wp_getf (pc := 31) dX11_hours_31 gf_X11_154 (by first | exact K.ob | exact K.to.1 | exact K.tr.1 | exact K.to.2.1 | exact K.to.2.2.1 | exact K.to.2.2.2.1 | exact K.to.2.2.2.2.1 | exact K.to.2.2.2.2.2.1 | exact K.to.2.2.2.2.2.2.1 | exact K.to.2.2.2.2.2.2.2 | exact K.tr.2.1 | exact K.tr.2.2.1 | exact K.tr.2.2.2.1 | exact K.tr.2.2.2.2.1 | exact K.tr.2.2.2.2.2.1 | exact K.tr.2.2.2.2.2.2.1 | exact K.tr.2.2.2.2.2.2.2) (by rfl) ?_
      refine wd_Vp (pc := 34) dX11_hours_34 cl_X11_189 (sp_Town_sum (by first | assumption | omega | exact K.to | exact K.tr | exact K.to.2.1 | exact K.to.2.2.1 | exact K.to.2.2.2.1 | exact K.to.2.2.2.2.1 | exact K.to.2.2.2.2.2.1 | exact K.to.2.2.2.2.2.2.1 | exact K.to.2.2.2.2.2.2.2 | exact K.tr.2.1 | exact K.tr.2.2.1 | exact K.tr.2.2.2.1 | exact K.tr.2.2.2.2.1 | exact K.tr.2.2.2.2.2.1 | exact K.tr.2.2.2.2.2.2.1 | exact K.tr.2.2.2.2.2.2.2) (by first | assumption | omega | exact K.to | exact K.tr | exact K.to.2.1 | exact K.to.2.2.1 | exact K.to.2.2.2.1 | exact K.to.2.2.2.2.1 | exact K.to.2.2.2.2.2.1 | exact K.to.2.2.2.2.2.2.1 | exact K.to.2.2.2.2.2.2.2 | exact K.tr.2.1 | exact K.tr.2.2.1 | exact K.tr.2.2.2.1 | exact K.tr.2.2.2.2.1 | exact K.tr.2.2.2.2.2.1 | exact K.tr.2.2.2.2.2.2.1 | exact K.tr.2.2.2.2.2.2.2) (by first | assumption | omega | exact K.to | exact K.tr | exact K.to.2.1 | exact K.to.2.2.1 | exact K.to.2.2.2.1 | exact K.to.2.2.2.2.1 | exact K.to.2.2.2.2.2.1 | exact K.to.2.2.2.2.2.2.1 | exact K.to.2.2.2.2.2.2.2 | exact K.tr.2.1 | exact K.tr.2.2.1 | exact K.tr.2.2.2.1 | exact K.tr.2.2.2.2.1 | exact K.tr.2.2.2.2.2.1 | exact K.tr.2.2.2.2.2.2.1 | exact K.tr.2.2.2.2.2.2.2) (by first | assumption | omega | exact K.to | exact K.tr | exact K.to.2.1 | exact K.to.2.2.1 | exact K.to.2.2.2.1 | exact K.to.2.2.2.2.1 | exact K.to.2.2.2.2.2.1 | exact K.to.2.2.2.2.2.2.1 | exact K.to.2.2.2.2.2.2.2 | exact K.tr.2.1 | exact K.tr.2.2.1 | exact K.tr.2.2.2.1 | exact K.tr.2.2.2.2.1 | exact K.tr.2.2.2.2.2.1 | exact K.tr.2.2.2.2.2.2.1 | exact K.tr.2.2.2.2.2.2.2) (by first | assumption | omega | exact K.to | exact K.tr | exact K.to.2.1 | exact K.to.2.2.1 | exact K.to.2.2.2.1 | exact K.to.2.2.2.2.1 | exact K.to.2.2.2.2.2.1 | exact K.to.2.2.2.2.2.2.1 | exact K.to.2.2.2.2.2.2.2 | exact K.tr.2.1 | exact K.tr.2.2.1 | exact K.tr.2.2.2.1 | exact K.tr.2.2.2.2.1 | exact K.tr.2.2.2.2.2.1 | exact K.tr.2.2.2.2.2.2.1 | exact K.tr.2.2.2.2.2.2.2)) rfl rfl (by first | exact K.to.o | exact K.tr.o | exact K.k0.o | exact K.k1.o) (by rfl) (by decide) (Nat.le_of_ble_eq_true rfl) ?_
      refine wp_istore_n (pc := 37) dX11_hours_37 (by decide) ?_
      refine wp_aload_n (pc := 38) dX11_hours_38 rfl ?_
      refine wp_getf (pc := 39) dX11_hours_39 gf_X11_36 K.ob (by rfl) ?_
      refine wp_aload_n (pc := 42) dX11_hours_42 rfl ?_
      refine wp_getf (pc := 43) dX11_hours_43 gf_X11_26 K.ob (by rfl) ?_
      refine wp_aload_n (pc := 46) dX11_hours_46 rfl ?_
      refine wp_getf (pc := 47) dX11_hours_47 gf_X11_91 K.ob (by rfl) ?_
      refine wp_iload_n (pc := 50) dX11_hours_50 rfl ?_
      refine wd_Vs (pc := 51) dX11_hours_51 cl_X11_197 (sp_Clock_run (by first | exact K.to | exact K.tr) (by first | assumption | omega) (by first | assumption | omega) (by first | assumption | omega) (by first | assumption | omega) K.cl K.ru (by omega) (by have := K.rs; omega) (by have := K.rs; omega)) rfl rfl K.cl.o (by rfl) (by decide) (Nat.le_of_ble_eq_true rfl) (fun hp51 e51 => ?_)
      obtain ⟨t51, c51, u51, e1, o51⟩ := e51
      replace O := O.cr e1 o51 (by have := K.rs; omega) (by omega) (by omega)
      first | replace K := K.cTo t51 c51 u51 o51 | replace K := K.cTr t51 c51 u51 o51
      refine wp_istore_n (pc := 54) dX11_hours_54 (by decide) ?_
      refine wp_iload_n (pc := 55) dX11_hours_55 rfl ?_
      refine wp_if_le (pc := 56) 66 dX11_hours_56 (by decide) (by first | omega | exact TI.i5 (by assumption) | exact TI.i3 (by assumption) | exact TI.i2 (by assumption) | exact TI.i1 (by assumption) | exact TI.i0 (by assumption) | exact TI.i4 (by assumption) | exact TI.i6 (by assumption) | exact TI.i7 (by assumption)) (fun c56 => ?_) (fun c56 => ?_)
      ·
        rw [if_neg (by omega)] -- go
        refine wp_aload_n (pc := 66) dX11_hours_66 rfl ?_
        refine wp_getf (pc := 67) dX11_hours_67 gf_X11_19 K.ob (by rfl) ?_
        refine wp_aload_n (pc := 70) dX11_hours_70 rfl ?_
        refine wp_getf (pc := 71) dX11_hours_71 gf_X11_26 K.ob (by rfl) ?_
        refine wp_aload_n (pc := 74) dX11_hours_74 rfl ?_
        refine wp_getf (pc := 75) dX11_hours_75 gf_X11_26 K.ob (by rfl) ?_
        refine wp_getf (pc := 78) dX11_hours_78 gf_X11_154 (by first | exact K.ob | exact K.to.1 | exact K.tr.1 | exact K.to.2.1 | exact K.to.2.2.1 | exact K.to.2.2.2.1 | exact K.to.2.2.2.2.1 | exact K.to.2.2.2.2.2.1 | exact K.to.2.2.2.2.2.2.1 | exact K.to.2.2.2.2.2.2.2 | exact K.tr.2.1 | exact K.tr.2.2.1 | exact K.tr.2.2.2.1 | exact K.tr.2.2.2.2.1 | exact K.tr.2.2.2.2.2.1 | exact K.tr.2.2.2.2.2.2.1 | exact K.tr.2.2.2.2.2.2.2) (by rfl) ?_
        refine wd_Vp (pc := 81) dX11_hours_81 cl_X11_189 (sp_Town_sum (by first | assumption | omega | exact K.to | exact K.tr | exact K.to.2.1 | exact K.to.2.2.1 | exact K.to.2.2.2.1 | exact K.to.2.2.2.2.1 | exact K.to.2.2.2.2.2.1 | exact K.to.2.2.2.2.2.2.1 | exact K.to.2.2.2.2.2.2.2 | exact K.tr.2.1 | exact K.tr.2.2.1 | exact K.tr.2.2.2.1 | exact K.tr.2.2.2.2.1 | exact K.tr.2.2.2.2.2.1 | exact K.tr.2.2.2.2.2.2.1 | exact K.tr.2.2.2.2.2.2.2) (by first | assumption | omega | exact K.to | exact K.tr | exact K.to.2.1 | exact K.to.2.2.1 | exact K.to.2.2.2.1 | exact K.to.2.2.2.2.1 | exact K.to.2.2.2.2.2.1 | exact K.to.2.2.2.2.2.2.1 | exact K.to.2.2.2.2.2.2.2 | exact K.tr.2.1 | exact K.tr.2.2.1 | exact K.tr.2.2.2.1 | exact K.tr.2.2.2.2.1 | exact K.tr.2.2.2.2.2.1 | exact K.tr.2.2.2.2.2.2.1 | exact K.tr.2.2.2.2.2.2.2) (by first | assumption | omega | exact K.to | exact K.tr | exact K.to.2.1 | exact K.to.2.2.1 | exact K.to.2.2.2.1 | exact K.to.2.2.2.2.1 | exact K.to.2.2.2.2.2.1 | exact K.to.2.2.2.2.2.2.1 | exact K.to.2.2.2.2.2.2.2 | exact K.tr.2.1 | exact K.tr.2.2.1 | exact K.tr.2.2.2.1 | exact K.tr.2.2.2.2.1 | exact K.tr.2.2.2.2.2.1 | exact K.tr.2.2.2.2.2.2.1 | exact K.tr.2.2.2.2.2.2.2) (by first | assumption | omega | exact K.to | exact K.tr | exact K.to.2.1 | exact K.to.2.2.1 | exact K.to.2.2.2.1 | exact K.to.2.2.2.2.1 | exact K.to.2.2.2.2.2.1 | exact K.to.2.2.2.2.2.2.1 | exact K.to.2.2.2.2.2.2.2 | exact K.tr.2.1 | exact K.tr.2.2.1 | exact K.tr.2.2.2.1 | exact K.tr.2.2.2.2.1 | exact K.tr.2.2.2.2.2.1 | exact K.tr.2.2.2.2.2.2.1 | exact K.tr.2.2.2.2.2.2.2) (by first | assumption | omega | exact K.to | exact K.tr | exact K.to.2.1 | exact K.to.2.2.1 | exact K.to.2.2.2.1 | exact K.to.2.2.2.2.1 | exact K.to.2.2.2.2.2.1 | exact K.to.2.2.2.2.2.2.1 | exact K.to.2.2.2.2.2.2.2 | exact K.tr.2.1 | exact K.tr.2.2.1 | exact K.tr.2.2.2.1 | exact K.tr.2.2.2.2.1 | exact K.tr.2.2.2.2.2.1 | exact K.tr.2.2.2.2.2.2.1 | exact K.tr.2.2.2.2.2.2.2)) rfl rfl (by first | exact K.to.o | exact K.tr.o | exact K.k0.o | exact K.k1.o) (by rfl) (by decide) (Nat.le_of_ble_eq_true rfl) ?_
        refine wp_iload_n (pc := 84) dX11_hours_84 rfl ?_
        refine wp_isub (pc := 85) dX11_hours_85 ?_
        refine wp_i2l (pc := 86) dX11_hours_86 (by first | omega | exact TI.i5 (by assumption) | exact TI.i3 (by assumption) | exact TI.i2 (by assumption) | exact TI.i1 (by assumption) | exact TI.i0 (by assumption) | exact TI.i4 (by assumption) | exact TI.i6 (by assumption) | exact TI.i7 (by assumption)) ?_
        refine wp_iload_n (pc := 87) dX11_hours_87 rfl ?_
        refine wp_i2l (pc := 88) dX11_hours_88 (by first | omega | exact TI.i5 (by assumption) | exact TI.i3 (by assumption) | exact TI.i2 (by assumption) | exact TI.i1 (by assumption) | exact TI.i0 (by assumption) | exact TI.i4 (by assumption) | exact TI.i6 (by assumption) | exact TI.i7 (by assumption)) ?_
        refine wd_Vn (pc := 89) dX11_hours_89 cl_X11_204 (sp_Row_tell_ K.ro) rfl rfl K.ro.o (by rfl) (by decide) (Nat.le_of_ble_eq_true rfl) (fun hp89 e89 => ?_)
        obtain ⟨h89, o89⟩ := e89
        replace O := O.inn o89 (by omega) (by omega)
        replace K := K.uRo h89 o89
        refine wp_aload_n (pc := 92) dX11_hours_92 rfl ?_
        refine wp_getf (pc := 93) dX11_hours_93 gf_X11_26 K.ob (by rfl) ?_
        refine wd_Vp (pc := 96) dX11_hours_96 cl_X11_208 (sp_Town_deadCount (by first | assumption | omega | exact K.to | exact K.tr | exact K.to.2.1 | exact K.to.2.2.1 | exact K.to.2.2.2.1 | exact K.to.2.2.2.2.1 | exact K.to.2.2.2.2.2.1 | exact K.to.2.2.2.2.2.2.1 | exact K.to.2.2.2.2.2.2.2 | exact K.tr.2.1 | exact K.tr.2.2.1 | exact K.tr.2.2.2.1 | exact K.tr.2.2.2.2.1 | exact K.tr.2.2.2.2.2.1 | exact K.tr.2.2.2.2.2.2.1 | exact K.tr.2.2.2.2.2.2.2) (by first | assumption | omega | exact K.to | exact K.tr | exact K.to.2.1 | exact K.to.2.2.1 | exact K.to.2.2.2.1 | exact K.to.2.2.2.2.1 | exact K.to.2.2.2.2.2.1 | exact K.to.2.2.2.2.2.2.1 | exact K.to.2.2.2.2.2.2.2 | exact K.tr.2.1 | exact K.tr.2.2.1 | exact K.tr.2.2.2.1 | exact K.tr.2.2.2.2.1 | exact K.tr.2.2.2.2.2.1 | exact K.tr.2.2.2.2.2.2.1 | exact K.tr.2.2.2.2.2.2.2)) rfl rfl (by first | exact K.to.o | exact K.tr.o | exact K.k0.o | exact K.k1.o) (by rfl) (by decide) (Nat.le_of_ble_eq_true rfl) ?_
        exact wp_ir (pc := 99) dX11_hours_99 rfl (by decide) (by decide) (by first | rfl | omega) ⟨⟨_, _, _, _, _, K⟩, O⟩
      ·
        rw [if_pos (by omega)] -- go
        refine wp_aload_n (pc := 59) dX11_hours_59 rfl ?_
        refine wp_getf (pc := 60) dX11_hours_60 gf_X11_43 K.ob (by rfl) ?_
        refine wd_Vn (pc := 63) dX11_hours_63 cl_X11_201 (sp_L_keep K.pa) rfl rfl K.pa.o (by rfl) (by decide) (Nat.le_of_ble_eq_true rfl) (fun hp63 e63 => ?_)
        obtain ⟨⟨Z63, h63⟩, o63⟩ := e63
        replace O := O.inn o63 (by omega) (by omega)
        replace K := K.uPa h63 o63
        refine wp_aload_n (pc := 66) dX11_hours_66 rfl ?_
        refine wp_getf (pc := 67) dX11_hours_67 gf_X11_19 K.ob (by rfl) ?_
        refine wp_aload_n (pc := 70) dX11_hours_70 rfl ?_
        refine wp_getf (pc := 71) dX11_hours_71 gf_X11_26 K.ob (by rfl) ?_
        refine wp_aload_n (pc := 74) dX11_hours_74 rfl ?_
        refine wp_getf (pc := 75) dX11_hours_75 gf_X11_26 K.ob (by rfl) ?_
        refine wp_getf (pc := 78) dX11_hours_78 gf_X11_154 (by first | exact K.ob | exact K.to.1 | exact K.tr.1 | exact K.to.2.1 | exact K.to.2.2.1 | exact K.to.2.2.2.1 | exact K.to.2.2.2.2.1 | exact K.to.2.2.2.2.2.1 | exact K.to.2.2.2.2.2.2.1 | exact K.to.2.2.2.2.2.2.2 | exact K.tr.2.1 | exact K.tr.2.2.1 | exact K.tr.2.2.2.1 | exact K.tr.2.2.2.2.1 | exact K.tr.2.2.2.2.2.1 | exact K.tr.2.2.2.2.2.2.1 | exact K.tr.2.2.2.2.2.2.2) (by rfl) ?_
        refine wd_Vp (pc := 81) dX11_hours_81 cl_X11_189 (sp_Town_sum (by first | assumption | omega | exact K.to | exact K.tr | exact K.to.2.1 | exact K.to.2.2.1 | exact K.to.2.2.2.1 | exact K.to.2.2.2.2.1 | exact K.to.2.2.2.2.2.1 | exact K.to.2.2.2.2.2.2.1 | exact K.to.2.2.2.2.2.2.2 | exact K.tr.2.1 | exact K.tr.2.2.1 | exact K.tr.2.2.2.1 | exact K.tr.2.2.2.2.1 | exact K.tr.2.2.2.2.2.1 | exact K.tr.2.2.2.2.2.2.1 | exact K.tr.2.2.2.2.2.2.2) (by first | assumption | omega | exact K.to | exact K.tr | exact K.to.2.1 | exact K.to.2.2.1 | exact K.to.2.2.2.1 | exact K.to.2.2.2.2.1 | exact K.to.2.2.2.2.2.1 | exact K.to.2.2.2.2.2.2.1 | exact K.to.2.2.2.2.2.2.2 | exact K.tr.2.1 | exact K.tr.2.2.1 | exact K.tr.2.2.2.1 | exact K.tr.2.2.2.2.1 | exact K.tr.2.2.2.2.2.1 | exact K.tr.2.2.2.2.2.2.1 | exact K.tr.2.2.2.2.2.2.2) (by first | assumption | omega | exact K.to | exact K.tr | exact K.to.2.1 | exact K.to.2.2.1 | exact K.to.2.2.2.1 | exact K.to.2.2.2.2.1 | exact K.to.2.2.2.2.2.1 | exact K.to.2.2.2.2.2.2.1 | exact K.to.2.2.2.2.2.2.2 | exact K.tr.2.1 | exact K.tr.2.2.1 | exact K.tr.2.2.2.1 | exact K.tr.2.2.2.2.1 | exact K.tr.2.2.2.2.2.1 | exact K.tr.2.2.2.2.2.2.1 | exact K.tr.2.2.2.2.2.2.2) (by first | assumption | omega | exact K.to | exact K.tr | exact K.to.2.1 | exact K.to.2.2.1 | exact K.to.2.2.2.1 | exact K.to.2.2.2.2.1 | exact K.to.2.2.2.2.2.1 | exact K.to.2.2.2.2.2.2.1 | exact K.to.2.2.2.2.2.2.2 | exact K.tr.2.1 | exact K.tr.2.2.1 | exact K.tr.2.2.2.1 | exact K.tr.2.2.2.2.1 | exact K.tr.2.2.2.2.2.1 | exact K.tr.2.2.2.2.2.2.1 | exact K.tr.2.2.2.2.2.2.2) (by first | assumption | omega | exact K.to | exact K.tr | exact K.to.2.1 | exact K.to.2.2.1 | exact K.to.2.2.2.1 | exact K.to.2.2.2.2.1 | exact K.to.2.2.2.2.2.1 | exact K.to.2.2.2.2.2.2.1 | exact K.to.2.2.2.2.2.2.2 | exact K.tr.2.1 | exact K.tr.2.2.1 | exact K.tr.2.2.2.1 | exact K.tr.2.2.2.2.1 | exact K.tr.2.2.2.2.2.1 | exact K.tr.2.2.2.2.2.2.1 | exact K.tr.2.2.2.2.2.2.2)) rfl rfl (by first | exact K.to.o | exact K.tr.o | exact K.k0.o | exact K.k1.o) (by rfl) (by decide) (Nat.le_of_ble_eq_true rfl) ?_
        refine wp_iload_n (pc := 84) dX11_hours_84 rfl ?_
        refine wp_isub (pc := 85) dX11_hours_85 ?_
        refine wp_i2l (pc := 86) dX11_hours_86 (by first | omega | exact TI.i5 (by assumption) | exact TI.i3 (by assumption) | exact TI.i2 (by assumption) | exact TI.i1 (by assumption) | exact TI.i0 (by assumption) | exact TI.i4 (by assumption) | exact TI.i6 (by assumption) | exact TI.i7 (by assumption)) ?_
        refine wp_iload_n (pc := 87) dX11_hours_87 rfl ?_
        refine wp_i2l (pc := 88) dX11_hours_88 (by first | omega | exact TI.i5 (by assumption) | exact TI.i3 (by assumption) | exact TI.i2 (by assumption) | exact TI.i1 (by assumption) | exact TI.i0 (by assumption) | exact TI.i4 (by assumption) | exact TI.i6 (by assumption) | exact TI.i7 (by assumption)) ?_
        refine wd_Vn (pc := 89) dX11_hours_89 cl_X11_204 (sp_Row_tell_ K.ro) rfl rfl K.ro.o (by rfl) (by decide) (Nat.le_of_ble_eq_true rfl) (fun hp89 e89 => ?_)
        obtain ⟨h89, o89⟩ := e89
        replace O := O.inn o89 (by omega) (by omega)
        replace K := K.uRo h89 o89
        refine wp_aload_n (pc := 92) dX11_hours_92 rfl ?_
        refine wp_getf (pc := 93) dX11_hours_93 gf_X11_26 K.ob (by rfl) ?_
        refine wd_Vp (pc := 96) dX11_hours_96 cl_X11_208 (sp_Town_deadCount (by first | assumption | omega | exact K.to | exact K.tr | exact K.to.2.1 | exact K.to.2.2.1 | exact K.to.2.2.2.1 | exact K.to.2.2.2.2.1 | exact K.to.2.2.2.2.2.1 | exact K.to.2.2.2.2.2.2.1 | exact K.to.2.2.2.2.2.2.2 | exact K.tr.2.1 | exact K.tr.2.2.1 | exact K.tr.2.2.2.1 | exact K.tr.2.2.2.2.1 | exact K.tr.2.2.2.2.2.1 | exact K.tr.2.2.2.2.2.2.1 | exact K.tr.2.2.2.2.2.2.2) (by first | assumption | omega | exact K.to | exact K.tr | exact K.to.2.1 | exact K.to.2.2.1 | exact K.to.2.2.2.1 | exact K.to.2.2.2.2.1 | exact K.to.2.2.2.2.2.1 | exact K.to.2.2.2.2.2.2.1 | exact K.to.2.2.2.2.2.2.2 | exact K.tr.2.1 | exact K.tr.2.2.1 | exact K.tr.2.2.2.1 | exact K.tr.2.2.2.2.1 | exact K.tr.2.2.2.2.2.1 | exact K.tr.2.2.2.2.2.2.1 | exact K.tr.2.2.2.2.2.2.2)) rfl rfl (by first | exact K.to.o | exact K.tr.o | exact K.k0.o | exact K.k1.o) (by rfl) (by decide) (Nat.le_of_ble_eq_true rfl) ?_
        exact wp_ir (pc := 99) dX11_hours_99 rfl (by decide) (by decide) (by first | rfl | omega) ⟨⟨_, _, _, _, _, K⟩, O⟩
    ·
      have cc : ¬ (0 ≤ x ∧ x ≤ 60) := by omega
      have e1 : hoA (stl rt) T N x = -1 := if_neg cc
      have e2 : hoT (stl rt) T N x = T := if_neg cc
      have e3 : hoR (stl rt) T N rw x = rw := if_neg cc
      rw [e1, e2, e3, if_neg (by omega)]
      refine wp_iconst (pc := 10) dX11_hours_10 ?_
      exact wp_ir (pc := 11) dX11_hours_11 rfl (by decide) (by decide) (by first | rfl | omega) ⟨⟨_, _, _, _, _, K⟩, O⟩
theorem sp_D_undo (K : DA hp D r s Tr z Z T U tx rw rt hs ss KT) : Sp g MX11_undo (rm 3 0 0) [.ref D] hp (Eff (.int (I (if U.length = 0 then -1 else (U.length : Int) - 1))) (fun hp2 => DX hp2 D (U.headD T) U.tail tx rw rt hs ss KT ∧ SO hp hp2 D (D + 171))) := by
  by_cases c : U.length = 0
  · have eU : U = [] := List.length_eq_zero_iff.mp c
    subst eU
    refine Sp_mk rfl (Nat.le_of_ble_eq_true rfl) ?_
    show wp g _ _ _ 0 0 0 [some (.ref D)] [] hp
    have O := SO.rf (hp := hp) (lo := D) (hi := D + 171)
    refine wp_aload_n (pc := 0) dX11_undo_0 rfl ?_
    refine wp_getf (pc := 1) dX11_undo_1 gf_X11_43 K.ob (by rfl) ?_
    refine wp_aload_n (pc := 4) dX11_undo_4 rfl ?_
    refine wp_getf (pc := 5) dX11_undo_5 gf_X11_26 K.ob (by rfl) ?_
    refine wd_Vp (pc := 8) dX11_undo_8 cl_X11_236 (sp_L_back0 K.pa c) rfl rfl K.pa.o (by rfl) (by decide) (Nat.le_of_ble_eq_true rfl) ?_
    first | refine wp_ifb_eq (pc := 11) 24 dX11_undo_11 (by decide) (fun c11 => ?_) (fun c11 => ?_) | refine wp_if_eq (pc := 11) 24 dX11_undo_11 (by decide) (by first | omega | exact TI.i5 (by assumption) | exact TI.i3 (by assumption) | exact TI.i2 (by assumption) | exact TI.i1 (by assumption) | exact TI.i0 (by assumption) | exact TI.i4 (by assumption) | exact TI.i6 (by assumption) | exact TI.i7 (by assumption)) (fun c11 => ?_) (fun c11 => ?_)
    ·
      refine wp_iconst (pc := 24) dX11_undo_24 ?_
      exact wp_ir (pc := 25) dX11_undo_25 rfl (by decide) (by decide) (by first | rfl | omega) ⟨⟨_, _, _, _, _, K⟩, O⟩
    ·
      exact absurd c11 id
  · rw [if_neg c]
    have hl : U.tail.length = U.length - 1 := List.length_tail
    refine Sp_mk rfl (Nat.le_of_ble_eq_true rfl) ?_
    show wp g _ _ _ 0 0 0 [some (.ref D)] [] hp
    have O := SO.rf (hp := hp) (lo := D) (hi := D + 171)
    refine wp_aload_n (pc := 0) dX11_undo_0 rfl ?_
    refine wp_getf (pc := 1) dX11_undo_1 gf_X11_43 K.ob (by rfl) ?_
    refine wp_aload_n (pc := 4) dX11_undo_4 rfl ?_
    refine wp_getf (pc := 5) dX11_undo_5 gf_X11_26 K.ob (by rfl) ?_
    refine wd_Vs (pc := 8) dX11_undo_8 cl_X11_236 (sp_L_back K.pa c K.to (by omega)) rfl rfl K.pa.o (by rfl) (by decide) (Nat.le_of_ble_eq_true rfl) (fun hp8 e8 => ?_)
    obtain ⟨h8, t8, o8, q8⟩ := e8; replace O := O.two q8 o8 (by omega) (by omega); replace K := K.uPT h8 t8 o8
    first | refine wp_ifb_eq (pc := 11) 24 dX11_undo_11 (by decide) (fun c11 => ?_) (fun c11 => ?_) | refine wp_if_eq (pc := 11) 24 dX11_undo_11 (by decide) (by first | omega | exact TI.i5 (by assumption) | exact TI.i3 (by assumption) | exact TI.i2 (by assumption) | exact TI.i1 (by assumption) | exact TI.i0 (by assumption) | exact TI.i4 (by assumption) | exact TI.i6 (by assumption) | exact TI.i7 (by assumption)) (fun c11 => ?_) (fun c11 => ?_)
    ·
      exact absurd c11 (by simp)
    ·
      refine wp_aload_n (pc := 14) dX11_undo_14 rfl ?_
      refine wp_getf (pc := 15) dX11_undo_15 gf_X11_43 K.ob (by rfl) ?_
      refine wd_Vp (pc := 18) dX11_undo_18 cl_X11_240 (sp_L_size K.pa) rfl rfl K.pa.o (by rfl) (by decide) (Nat.le_of_ble_eq_true rfl) ?_
      refine wp_goto (pc := 21) 25 dX11_undo_21 (by decide) ?_
      exact wp_ir (pc := 25) dX11_undo_25 rfl (by decide) (by decide) (by first | rfl | omega) ⟨⟨_, _, _, _, _, K⟩, O⟩
/-! what questions play on -/
theorem sp_D_lookAhead (K : DA hp D r s Tr z Z T U tx rw rt hs ss KT) (hI : TI T N) (hH : HS T) (hb : T 7 0 < 1900000000) (hn : n ≤ 99) : Sp g MX11_lookAhead (rm 6 0 0) [.ref D, .int (I (n : Int))] hp (Vod (fun hp2 => DA hp2 D r s (runT (stl rt) T N n) z Z T U tx rw rt hs ss KT ∧ SO hp hp2 D (D + 171))) := by
  refine Sp_mk rfl (Nat.le_of_ble_eq_true rfl) ?_
  show wp g _ _ _ 0 0 0 [some (.ref D), some (.int (I (n : Int)))] [] hp
  have O := SO.rf (hp := hp) (lo := D) (hi := D + 171)
  refine wp_aload_n (pc := 0) dX11_lookAhead_0 rfl ?_
  refine wp_getf (pc := 1) dX11_lookAhead_1 gf_X11_30 K.ob (by rfl) ?_
  refine wp_aload_n (pc := 4) dX11_lookAhead_4 rfl ?_
  refine wp_getf (pc := 5) dX11_lookAhead_5 gf_X11_26 K.ob (by rfl) ?_
  refine wd_Vn (pc := 8) dX11_lookAhead_8 cl_X11_250 (sp_Town_copy K.tr K.to (by omega)) rfl rfl (by first | exact K.to.o | exact K.tr.o | exact K.k0.o | exact K.k1.o) (by rfl) (by decide) (Nat.le_of_ble_eq_true rfl) (fun hp8 e8 => ?_)
  obtain ⟨h8, o8⟩ := e8
  replace O := O.inn o8 (by omega) (by omega)
  replace K := K.uTr h8 o8
  refine wp_aload_n (pc := 11) dX11_lookAhead_11 rfl ?_
  refine wp_getf (pc := 12) dX11_lookAhead_12 gf_X11_36 K.ob (by rfl) ?_
  refine wp_aload_n (pc := 15) dX11_lookAhead_15 rfl ?_
  refine wp_getf (pc := 16) dX11_lookAhead_16 gf_X11_30 K.ob (by rfl) ?_
  refine wp_aload_n (pc := 19) dX11_lookAhead_19 rfl ?_
  refine wp_getf (pc := 20) dX11_lookAhead_20 gf_X11_91 K.ob (by rfl) ?_
  refine wp_iload_n (pc := 23) dX11_lookAhead_23 rfl ?_
  refine wd_Vs (pc := 24) dX11_lookAhead_24 cl_X11_197 (sp_Clock_run (by first | exact K.to | exact K.tr) (by first | assumption | omega) (by first | assumption | omega) (by first | assumption | omega) (by first | assumption | omega) K.cl K.ru (by omega) (by have := K.rs; omega) (by have := K.rs; omega)) rfl rfl K.cl.o (by rfl) (by decide) (Nat.le_of_ble_eq_true rfl) (fun hp24 e24 => ?_)
  obtain ⟨t24, c24, u24, e1, o24⟩ := e24
  replace O := O.cr e1 o24 (by have := K.rs; omega) (by omega) (by omega)
  first | replace K := K.cTo t24 c24 u24 o24 | replace K := K.cTr t24 c24 u24 o24
  refine wp_pop (pc := 27) dX11_lookAhead_27 rfl ?_
  exact wp_vr (pc := 28) dX11_lookAhead_28 rfl (by decide) (by decide) ⟨K, O⟩
theorem sp_D_lookAheadWithDeath (K : DA hp D r s Tr z Z T U tx rw rt hs ss KT) (hI : TI T N) (hH : HS T) (hb : T 7 0 < 1900000000) (rx : InR x) (ry : InR y) (hn : n ≤ 99) : Sp g MX11_lookAheadWithDeath (rm 6 0 0) [.ref D, .int (I x), .int (I y), .int (I (n : Int))] hp (Vod (fun hp2 => DA hp2 D r s (runT (stl rt) (dieT T N x y) N n) z Z T U tx rw rt hs ss KT ∧ SO hp hp2 D (D + 171))) := by
  have hI2 := dieT_I (p := x) (n := y) hI
  have hH2 := dieT_HS (N := N) (x := x) (y := y) hH
  have h7 : dieT T N x y 7 0 = T 7 0 := by rw [dieT_7]
  refine Sp_mk rfl (Nat.le_of_ble_eq_true rfl) ?_
  show wp g _ _ _ 0 0 0 [some (.ref D), some (.int (I x)), some (.int (I y)), some (.int (I (n : Int)))] [] hp
  have O := SO.rf (hp := hp) (lo := D) (hi := D + 171)
  refine wp_aload_n (pc := 0) dX11_lookAheadWithDeath_0 rfl ?_
  refine wp_getf (pc := 1) dX11_lookAheadWithDeath_1 gf_X11_30 K.ob (by rfl) ?_
  refine wp_aload_n (pc := 4) dX11_lookAheadWithDeath_4 rfl ?_
  refine wp_getf (pc := 5) dX11_lookAheadWithDeath_5 gf_X11_26 K.ob (by rfl) ?_
  refine wd_Vn (pc := 8) dX11_lookAheadWithDeath_8 cl_X11_250 (sp_Town_copy K.tr K.to (by omega)) rfl rfl (by first | exact K.to.o | exact K.tr.o | exact K.k0.o | exact K.k1.o) (by rfl) (by decide) (Nat.le_of_ble_eq_true rfl) (fun hp8 e8 => ?_)
  obtain ⟨h8, o8⟩ := e8
  replace O := O.inn o8 (by omega) (by omega)
  replace K := K.uTr h8 o8
  refine wp_aload_n (pc := 11) dX11_lookAheadWithDeath_11 rfl ?_
  refine wp_getf (pc := 12) dX11_lookAheadWithDeath_12 gf_X11_30 K.ob (by rfl) ?_
  refine wp_iload_n (pc := 15) dX11_lookAheadWithDeath_15 rfl ?_
  refine wp_iload_n (pc := 16) dX11_lookAheadWithDeath_16 rfl ?_
  refine wd_Vs (pc := 17) dX11_lookAheadWithDeath_17 cl_X11_211 (sp_Town_letDie (by first | exact K.to | exact K.tr) (by first | assumption | omega) (by first | assumption | omega) (by first | assumption | omega)) rfl rfl (by first | exact K.to.o | exact K.tr.o | exact K.k0.o | exact K.k1.o) (by rfl) (by decide) (Nat.le_of_ble_eq_true rfl) (fun hp17 e17 => ?_)
  obtain ⟨h17, o17⟩ := e17
  replace O := O.inn o17 (by omega) (by omega)
  first | replace K := K.uTo h17 o17 | replace K := K.uTr h17 o17
  refine wp_pop (pc := 20) dX11_lookAheadWithDeath_20 rfl ?_
  refine wp_aload_n (pc := 21) dX11_lookAheadWithDeath_21 rfl ?_
  refine wp_getf (pc := 22) dX11_lookAheadWithDeath_22 gf_X11_36 K.ob (by rfl) ?_
  refine wp_aload_n (pc := 25) dX11_lookAheadWithDeath_25 rfl ?_
  refine wp_getf (pc := 26) dX11_lookAheadWithDeath_26 gf_X11_30 K.ob (by rfl) ?_
  refine wp_aload_n (pc := 29) dX11_lookAheadWithDeath_29 rfl ?_
  refine wp_getf (pc := 30) dX11_lookAheadWithDeath_30 gf_X11_91 K.ob (by rfl) ?_
  refine wp_iload_n (pc := 33) dX11_lookAheadWithDeath_33 rfl ?_
  refine wd_Vs (pc := 34) dX11_lookAheadWithDeath_34 cl_X11_197 (sp_Clock_run (by first | exact K.to | exact K.tr) (by first | assumption | omega) (by first | assumption | omega) (by first | assumption | omega) (by first | assumption | omega) K.cl K.ru (by omega) (by have := K.rs; omega) (by have := K.rs; omega)) rfl rfl K.cl.o (by rfl) (by decide) (Nat.le_of_ble_eq_true rfl) (fun hp34 e34 => ?_)
  obtain ⟨t34, c34, u34, e1, o34⟩ := e34
  replace O := O.cr e1 o34 (by have := K.rs; omega) (by omega) (by omega)
  first | replace K := K.cTo t34 c34 u34 o34 | replace K := K.cTr t34 c34 u34 o34
  refine wp_pop (pc := 37) dX11_lookAheadWithDeath_37 rfl ?_
  exact wp_vr (pc := 38) dX11_lookAheadWithDeath_38 rfl (by decide) (by decide) ⟨K, O⟩
end D1

