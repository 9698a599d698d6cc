/-! the law's own helpers -/
section LH
variable {g : GT} {hp hp2 hp0 : Hp} {D r s N n k i P h o : Nat} {T T2 Tr Z X : Nat → Int → Int} {z x y a b c : Int} {U : List (Nat → Int → Int)} {tx rw rt l : List Int} {hs : List (Int × Int)} {ss : List (Int × Int × Int)} {KT KT2 : Nat → Option (Nat → Int → Int)} {f : Int → Int}
theorem DA.mv (K : DA hp D r s Tr z Z T U tx rw rt hs ss KT) (q : ∀ x, D ≤ x → x < D + 171 → hp2.2 x = hp.2 x) : DA hp2 D r s Tr z Z T U tx rw rt hs ss KT := ⟨(q D (by omega) (by omega)).trans K.ob, K.rs, K.te.off fun x _ _ => q x (by omega) (by omega), K.ro.off fun x _ _ => q x (by omega) (by omega), K.to.off fun x _ _ => q x (by omega) (by omega), K.tr.off fun x _ _ => q x (by omega) (by omega), K.cl.off fun x _ _ => q x (by omega) (by omega), K.pa.off fun x _ _ => q x (by omega) (by omega), K.k0.off fun x _ _ => q x (by omega) (by omega), K.k1.off fun x _ _ => q x (by omega) (by omega), K.he.off fun x _ _ => q x (by omega) (by omega), K.sh.off fun x _ _ => q x (by omega) (by omega), K.ga.off fun x _ _ => q x (by omega) (by omega), K.pt.off fun x _ _ => q x (by omega) (by omega), K.dr.off fun x _ _ => q x (by omega) (by omega), K.ru.off fun x _ _ => q x (by have := K.rs; omega) (by have := K.rs; omega), K.sp.off fun x _ _ => q x (by have := K.rs; omega) (by have := K.rs; omega)⟩
theorem DX.mv (K : DX hp D T U tx rw rt hs ss KT) (q : ∀ x, D ≤ x → x < D + 171 → hp2.2 x = hp.2 x) : DX hp2 D T U tx rw rt hs ss KT := by
  obtain ⟨r, s, Tr, z, Z, K⟩ := K
  exact ⟨r, s, Tr, z, Z, K.mv q⟩
/-- what a helper leaves: the class as it was, its answer in the row of one long at o -/
def HP (hp hp2 : Hp) (D o : Nat) (T : Nat → Int → Int) (U : List (Nat → Int → Int)) (tx rw rt : List Int) (hs : List (Int × Int)) (ss : List (Int × Int × Int)) (KT : Nat → Option (Nat → Int → Int)) (ok : Prop) (v : Int) : Prop :=
  DX hp2 D T U tx rw rt hs ss KT ∧ (∃ f, hp2.2 o = some (.inl (.long, 1, f)) ∧ (ok → f 0 = v)) ∧ ∀ x, (x < D ∨ D + 171 ≤ x) → x ≠ o → hp2.2 x = hp.2 x
theorem HP.no {ok : Prop} {v : Int} (K : DA hp D r s Tr z Z T U tx rw rt hs ss KT) (ho : hp.2 o = some (.inl (.long, 1, f))) (hn : ¬ ok) : HP hp (hp.1 + 1, hp.2) D o T U tx rw rt hs ss KT ok v := ⟨⟨r, s, Tr, z, Z, K.mv fun x _ _ => rfl⟩, ⟨f, ho, fun q => absurd q hn⟩, fun x _ _ => rfl⟩
theorem HP.yes {ok : Prop} {v : Int} (K : DX hp2 D T U tx rw rt hs ss KT) (O : SO hp hp2 D (D + 171)) (hd : o < D ∨ D + 171 ≤ o) (e : f 0 = v) : HP hp (hset hp2 o (.inl (.long, 1, f))) D o T U tx rw rt hs ss KT ok v := ⟨K.mv fun x _ _ => hset_ne (by omega), ⟨f, hset_eq, fun _ => e⟩, fun x q1 q2 => (hset_ne q2).trans (O.2 x q1)⟩
theorem psA_R (hI : TI T N) : InR (psA T N x y) := by
  have h1 := oby_in hI (p := x)
  have h2 := oto_in hI (p := x)
  have a2 := hI.r2 x
  have a3 := hI.r3 x
  have a4 := hI.r4 x
  have a5 := hI.r5 x
  have a6 := hI.r6 x
  unfold psA
  repeat' split
  all_goals omega
theorem btA_R {cs : List Int} (hI : TI T N) : InR (btA cs T x y c) := by
  have a0 := hI.r0 (x * 6 + y)
  have a1 := hI.r1 (x * 6 + y)
  have a2 := wv_in cs T x y
  unfold btA
  repeat' split
  all_goals omega
theorem sw_person (K : DA hp D r s Tr z Z T U tx rw rt hs ss KT) (hI : TI T N) (rx : InR x) (ry : InR y) (ho : hp.2 o = some (.inl (.long, 1, f))) (hd : o < D ∨ D + 171 ≤ o) : SpW g ML_person [(0, 10, 13, 13)] (rm 8 1 6) [.ref D, .int (I x), .int (I y), .ref o] hp (Eff (.int (I (if psO N x y then 0 else 1))) (fun hp2 => HP hp hp2 D o T U tx rw rt hs ss KT (psO N x y) (psA T N x y))) := by
  by_cases hn : psO N x y
  · rw [if_pos hn]
    refine SpW_w rfl (Nat.le_of_ble_eq_true rfl) ?_
    show wp g _ _ _ 0 0 0 [some (.ref D), some (.int (I x)), some (.int (I y)), some (.ref o), none] [] hp
    refine wp_aload_n (pc := 0) dL_person_0 rfl ?_
    refine wp_iconst (pc := 1) dL_person_1 ?_
    refine wp_aload_n (pc := 2) dL_person_2 rfl ?_
    refine wp_iload_n (pc := 3) dL_person_3 rfl ?_
    refine wp_iload_n (pc := 4) dL_person_4 rfl ?_
    refine wp_Vs (pc := 5) dL_person_5 cl_L_7 (sp_D_person K hI rx ry hn) rfl rfl K.ob (by rfl) (by decide) (Nat.le_of_ble_eq_true rfl) (fun hp5 e5 => ?_)
    obtain ⟨K5, O5⟩ := e5
    refine wp_i2l (pc := 8) dL_person_8 (psA_R hI) ?_
    refine wp_last (pc := 9) dL_person_9 ((O5.2 _ hd).trans ho) (by omega) (by omega) (by decide) ?_
    refine wp_goto (pc := 10) 17 dL_person_10 (by decide) ?_
    refine wp_iconst (pc := 17) dL_person_17 ?_
    exact wp_ir (pc := 18) dL_person_18 rfl (by decide) (by decide) (by first | rfl | omega) (HP.yes K5 O5 hd updI_eq)
  · rw [if_neg hn]
    refine SpW_q (en := 10) (hpc := 13) rfl (Nat.le_of_ble_eq_true rfl) ?_
    show wq g _ _ _ _ 0 [some (.ref D), some (.int (I x)), some (.int (I y)), some (.ref o), none] [] hp
    refine wq_aload_n (pc := 0) dL_person_0 rfl ?_
    refine wq_iconst (pc := 1) dL_person_1 ?_
    refine wq_aload_n (pc := 2) dL_person_2 rfl ?_
    refine wq_iload_n (pc := 3) dL_person_3 rfl ?_
    refine wq_iload_n (pc := 4) dL_person_4 rfl ?_
    refine wq_catch (pc := 5) rfl dL_person_5 cl_L_7 (gt_mem (by decide +kernel) rfl) (as := [.int (I x), .int (I y)]) (tp_person K hI rx ry hn) rfl K.ob (by rfl) ⟨by decide, by decide, rfl, rfl, by decide, by decide⟩ (Nat.le_of_ble_eq_true rfl) (by decide) ?_
    refine wp_astore (pc := 13) dL_person_13 (by decide) ?_
    refine wp_iconst (pc := 15) dL_person_15 ?_
    exact wp_ir (pc := 16) dL_person_16 rfl (by decide) (by decide) (by first | rfl | omega) (HP.no K ho hn)
theorem sw_between (K : DA hp D r s Tr z Z T U tx rw rt hs ss KT) (hI : TI T N) (rx : InR x) (ry : InR y) (rc : InR c) (ho : hp.2 o = some (.inl (.long, 1, f))) (hd : o < D ∨ D + 171 ≤ o) : SpW g ML_between [(0, 12, 15, 13)] (rm 8 1 6) [.ref D, .int (I x), .int (I y), .int (I c), .ref o] hp (Eff (.int (I (if btO N x y c then 0 else 1))) (fun hp2 => HP hp hp2 D o T U tx rw rt hs ss KT (btO N x y c) (btA (stl rt) T x y c))) := by
  by_cases hn : btO N x y c
  · rw [if_pos hn]
    refine SpW_w rfl (Nat.le_of_ble_eq_true rfl) ?_
    show wp g _ _ _ 0 0 0 [some (.ref D), some (.int (I x)), some (.int (I y)), some (.int (I c)), some (.ref o), none] [] hp
    refine wp_aload (pc := 0) dL_between_0 rfl ?_
    refine wp_iconst (pc := 2) dL_between_2 ?_
    refine wp_aload_n (pc := 3) dL_between_3 rfl ?_
    refine wp_iload_n (pc := 4) dL_between_4 rfl ?_
    refine wp_iload_n (pc := 5) dL_between_5 rfl ?_
    refine wp_iload_n (pc := 6) dL_between_6 rfl ?_
    refine wp_Vs (pc := 7) dL_between_7 cl_L_15 (sp_D_between K hI rx ry rc hn) rfl rfl K.ob (by rfl) (by decide) (Nat.le_of_ble_eq_true rfl) (fun hp7 e7 => ?_)
    obtain ⟨K5, O5⟩ := e7
    refine wp_i2l (pc := 10) dL_between_10 (btA_R hI) ?_
    refine wp_last (pc := 11) dL_between_11 ((O5.2 _ hd).trans ho) (by omega) (by omega) (by decide) ?_
    refine wp_goto (pc := 12) 19 dL_between_12 (by decide) ?_
    refine wp_iconst (pc := 19) dL_between_19 ?_
    exact wp_ir (pc := 20) dL_between_20 rfl (by decide) (by decide) (by first | rfl | omega) (HP.yes K5 O5 hd updI_eq)
  · rw [if_neg hn]
    refine SpW_q (en := 12) (hpc := 15) rfl (Nat.le_of_ble_eq_true rfl) ?_
    show wq g _ _ _ _ 0 [some (.ref D), some (.int (I x)), some (.int (I y)), some (.int (I c)), some (.ref o), none] [] hp
    refine wq_aload (pc := 0) dL_between_0 rfl ?_
    refine wq_iconst (pc := 2) dL_between_2 ?_
    refine wq_aload_n (pc := 3) dL_between_3 rfl ?_
    refine wq_iload_n (pc := 4) dL_between_4 rfl ?_
    refine wq_iload_n (pc := 5) dL_between_5 rfl ?_
    refine wq_iload_n (pc := 6) dL_between_6 rfl ?_
    refine wq_catch (pc := 7) rfl dL_between_7 cl_L_15 (gt_mem (by decide +kernel) rfl) (as := [.int (I x), .int (I y), .int (I c)]) (tp_between K hI rx ry rc hn) rfl K.ob (by rfl) ⟨by decide, by decide, rfl, rfl, by decide, by decide⟩ (Nat.le_of_ble_eq_true rfl) (by decide) ?_
    refine wp_astore (pc := 15) dL_between_15 (by decide) ?_
    refine wp_iconst (pc := 17) dL_between_17 ?_
    exact wp_ir (pc := 18) dL_between_18 rfl (by decide) (by decide) (by first | rfl | omega) (HP.no K ho hn)
theorem sw_row (K : DA hp D r s Tr z Z T U tx rw rt hs ss KT) (rx : InR x) (ho : hp.2 o = some (.inl (.long, 1, f))) (hd : o < D ∨ D + 171 ≤ o) : SpW g ML_row [(0, 8, 11, 13)] (rm 8 1 6) [.ref D, .int (I x), .ref o] hp (Eff (.int (I (if 0 ≤ x ∧ x < rw.length then 0 else 1))) (fun hp2 => HP hp hp2 D o T U tx rw rt hs ss KT (0 ≤ x ∧ x < rw.length) (rw.getD x.toNat 0))) := by
  by_cases hn : 0 ≤ x ∧ x < rw.length
  · rw [if_pos hn]
    refine SpW_w rfl (Nat.le_of_ble_eq_true rfl) ?_
    show wp g _ _ _ 0 0 0 [some (.ref D), some (.int (I x)), some (.ref o), none] [] hp
    refine wp_aload_n (pc := 0) dL_row_0 rfl ?_
    refine wp_iconst (pc := 1) dL_row_1 ?_
    refine wp_aload_n (pc := 2) dL_row_2 rfl ?_
    refine wp_iload_n (pc := 3) dL_row_3 rfl ?_
    refine wp_Vs (pc := 4) dL_row_4 cl_L_19 (sp_D_row K rx hn) rfl rfl K.ob (by rfl) (by decide) (Nat.le_of_ble_eq_true rfl) (fun hp4 e4 => ?_)
    obtain ⟨K5, O5⟩ := e4
    refine wp_last (pc := 7) dL_row_7 ((O5.2 _ hd).trans ho) (by omega) (by omega) (by decide) ?_
    refine wp_goto (pc := 8) 14 dL_row_8 (by decide) ?_
    refine wp_iconst (pc := 14) dL_row_14 ?_
    exact wp_ir (pc := 15) dL_row_15 rfl (by decide) (by decide) (by first | rfl | omega) (HP.yes K5 O5 hd updI_eq)
  · rw [if_neg hn]
    refine SpW_q (en := 8) (hpc := 11) rfl (Nat.le_of_ble_eq_true rfl) ?_
    show wq g _ _ _ _ 0 [some (.ref D), some (.int (I x)), some (.ref o), none] [] hp
    refine wq_aload_n (pc := 0) dL_row_0 rfl ?_
    refine wq_iconst (pc := 1) dL_row_1 ?_
    refine wq_aload_n (pc := 2) dL_row_2 rfl ?_
    refine wq_iload_n (pc := 3) dL_row_3 rfl ?_
    refine wq_catch (pc := 4) rfl dL_row_4 cl_L_19 (gt_mem (by decide +kernel) rfl) (as := [.int (I x)]) (tp_row K rx hn) rfl K.ob (by rfl) ⟨by decide, by decide, rfl, rfl, by decide, by decide⟩ (Nat.le_of_ble_eq_true rfl) (by decide) ?_
    refine wp_astore_n (pc := 11) dL_row_11 (by decide) ?_
    refine wp_iconst (pc := 12) dL_row_12 ?_
    exact wp_ir (pc := 13) dL_row_13 rfl (by decide) (by decide) (by first | rfl | omega) (HP.no K ho hn)
end LH

