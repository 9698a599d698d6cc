/-! the reference: how likely it is that so many keep quiet -/
section MZ_
variable {g : GT} {hp hp0 : Hp} {q N n a b s k p : Nat} {V V2 V3 : Nat → Int} {A A2 A3 : Nat → Int → Int} {rd rl : Value} {i j x v c y z w th o d u : Int} {T T2 : Nat → Int → Int} {l t cs tx rw rw2 rt : List Int} {G f F D Y : Int → Int} {U U2 : List (Nat → Int → Int)} {hs : List (Int × Int)} {ss : List (Int × Int × Int)} {KT : Nat → Option (Nat → Int → Int)} {L L2 : List Nat}
/-- the common divisor, in n calls -/
def dn : Nat → Nat → Nat → Prop
  | 0, _, b => b = 0
  | n + 1, a, b => b = 0 ∨ dn n b (a % b)
theorem dn_0 : ∀ n a : Nat, dn n a 0
  | 0, _ => rfl
  | _ + 1, _ => .inl rfl
theorem dn_ok : ∀ (k n a b : Nat), 2 * k ≤ n → b < 2 ^ k → dn n a b
  | 0, n, a, b, hn, hb => by
    have e : b = 0 := by simpa using hb
    subst e
    exact dn_0 n a
  | k + 1, n, a, b, hn, hb => by
    match n, hn with
    | n + 2, hn =>
      by_cases h0 : b = 0
      · exact .inl h0
      · refine .inr ?_
        by_cases h1 : a % b = 0
        · exact .inl h1
        · refine .inr (dn_ok k n _ _ (by omega) ?_)
          have hr := Nat.mod_lt a (Nat.pos_of_ne_zero h0)
          have hr2 := Nat.mod_lt b (Nat.pos_of_ne_zero h1)
          have h3 := Nat.div_add_mod b (a % b)
          have h4 : 1 ≤ b / (a % b) := (Nat.one_le_div_iff (Nat.pos_of_ne_zero h1)).mpr (by omega)
          have h5 : (a % b) * 1 ≤ (a % b) * (b / (a % b)) := Nat.mul_le_mul_left _ h4
          rw [Nat.pow_succ] at hb
          omega
theorem sp_Ref_common (ha : a < 9223372036854775808) (hb : b < 9223372036854775808) (hd : dn n a b) (hM : ∀ n', n = n' + 1 → ∀ a b : Nat, a < 9223372036854775808 → b < 9223372036854775808 → dn n' a b → Sp g MX12_common (rm n' 0 0) [.long (J (a : Int)), .long (J (b : Int))] hp (Pur (.long (J ((Nat.gcd a b : Nat) : Int))) hp)) : Sp g MX12_common (rm (n) 0 0) [.long (J (a : Int)), .long (J (b : Int))] hp (Pur (.long (J ((Nat.gcd a b : Nat) : Int))) hp) := by
  have hc := cmp_in (b : Int) 0
  refine Sp_mk rfl (Nat.le_of_ble_eq_true rfl) ?_
  show wp g _ _ _ 0 0 0 [some (.long (J (a : Int))), none, some (.long (J (b : Int))), none] [] hp
  refine wp_lload_n (pc := 0) dX12_common_0 rfl ?_
  refine wp_lcst (pc := 1) (y := 0) dX12_common_1 rfl ?_
  refine wp_lcmp (pc := 2) dX12_common_2 (J_cmp (by omega) (by omega)) ?_
  first | refine wp_ifb_ne (pc := 3) 10 dX12_common_3 (by decide) (fun c3 => ?_) (fun c3 => ?_) | refine wp_if_ne (pc := 3) 10 dX12_common_3 (by decide) (by first | omega | exact TI.i5 (by assumption) | exact TI.i3 (by assumption) | exact TI.i2 (by assumption) | exact TI.i1 (by assumption) | exact TI.i0 (by assumption) | exact TI.i4 (by assumption) | exact TI.i6 (by assumption) | exact TI.i7 (by assumption)) (fun c3 => ?_) (fun c3 => ?_)
  ·
    have e : b ≠ 0 := by omega
    obtain ⟨n', rfl⟩ : ∃ n', n = n' + 1 := by
      cases n with
      | zero => exact absurd hd e
      | succ n => exact ⟨n, rfl⟩
    have hm := Nat.mod_lt a (Nat.pos_of_ne_zero e)
    rw [show Nat.gcd a b = Nat.gcd b (a % b) by rw [Nat.gcd_comm a b, Nat.gcd_rec b a, Nat.gcd_comm]] -- go
    refine wp_lload_n (pc := 10) dX12_common_10 rfl ?_
    refine wp_lload_n (pc := 11) dX12_common_11 rfl ?_
    refine wp_lload_n (pc := 12) dX12_common_12 rfl ?_
    refine wp_lrem (pc := 13) dX12_common_13 (J_ne0 (by omega) (by omega)) (J_rem (by omega) (by omega) (by omega) (by omega)) ?_
    refine wp_Sp (pc := 14) dX12_common_14 cl_X12_350 (hM _ rfl b (a % b) hb (by omega) (hd.resolve_left e)) rfl rfl (rm_ok (by omega) (by decide)) (Nat.le_of_ble_eq_true rfl) ?_
    exact wp_lr (pc := 17) dX12_common_17 rfl (Nat.le_refl 0) (Nat.le_refl 0) (by first | rfl | omega) (by first | exact ⟨K, O⟩ | rfl)
  ·
    have e : b = 0 := by omega
    subst e
    rw [Nat.gcd_zero_right] -- go
    refine wp_lload_n (pc := 6) dX12_common_6 rfl ?_
    refine wp_goto (pc := 7) 17 dX12_common_7 (by decide) ?_
    exact wp_lr (pc := 17) dX12_common_17 rfl (Nat.le_refl 0) (Nat.le_refl 0) (by first | rfl | omega) (by first | exact ⟨K, O⟩ | rfl)
theorem ev_common : ∀ n a b : Nat, a < 9223372036854775808 → b < 9223372036854775808 → dn n a b → Sp g MX12_common (rm n 0 0) [.long (J (a : Int)), .long (J (b : Int))] hp (Pur (.long (J ((Nat.gcd a b : Nat) : Int))) hp)
  | 0, a, b, ha, hb, hd => sp_Ref_common ha hb hd (fun n' e => by omega)
  | n + 1, a, b, ha, hb, hd => sp_Ref_common ha hb hd (fun n' e a b ha hb hd => by
      obtain rfl : n = n' := by omega
      exact ev_common n a b ha hb hd)
theorem sp_Ref_gcd (ha : a < 9223372036854775808) (hb : b < 9223372036854775808) : Sp g MX12_common (rm 130 0 0) [.long (J (a : Int)), .long (J (b : Int))] hp (Pur (.long (J ((Nat.gcd a b : Nat) : Int))) hp) := by
  exact ev_common 130 a b ha hb (dn_ok 64 130 a b (by decide) (by omega))
theorem lp_Ref_power (hn : n < 1000) : ∀ (m i : Nat), n < i + m → i ≤ n → wp g MX12_power (rm 0 0 0) (Pur (.long (J (c ^ n))) hp) 0 0 5 [some (.long (J c)), none, some (.int (I (n : Int))), some (.long (J (c ^ i))), none, some (.int (I (i : Int)))] [] hp := by
  intro m
  induction m with
  | zero => intro i h1 h2; exact absurd h1 (by omega)
  | succ m ih =>
    intro i h1 h2
    refine wp_iload (pc := 5) dX12_power_5 rfl ?_
    refine wp_iload_n (pc := 7) dX12_power_7 rfl ?_
    refine wp_icmp_ge (pc := 8) 21 dX12_power_8 (by decide) (by first | omega | exact TI.i5 (by assumption) | exact TI.i3 (by assumption) | exact TI.i2 (by assumption) | exact TI.i1 (by assumption) | exact TI.i0 (by assumption) | exact TI.i4 (by assumption) | exact TI.i6 (by assumption) | exact TI.i7 (by assumption)) (by first | omega | exact TI.i5 (by assumption) | exact TI.i3 (by assumption) | exact TI.i2 (by assumption) | exact TI.i1 (by assumption) | exact TI.i0 (by assumption) | exact TI.i4 (by assumption) | exact TI.i6 (by assumption) | exact TI.i7 (by assumption)) (fun c8 => ?_) (fun c8 => ?_)
    ·
      have e : i = n := by omega
      subst e -- go
      refine wp_lload_n (pc := 21) dX12_power_21 rfl ?_
      exact wp_lr (pc := 22) dX12_power_22 rfl (by decide) (by decide) (by first | rfl | omega) (by first | exact ⟨K, O⟩ | rfl)
    ·
      refine wp_lload_n (pc := 11) dX12_power_11 rfl ?_
      refine wp_lload_n (pc := 12) dX12_power_12 rfl ?_
      refine wp_lmul (pc := 13) dX12_power_13 ?_
      refine wp_lstore_n (pc := 14) dX12_power_14 (by decide) ?_
      refine wp_iinc (pc := 15) dX12_power_15 rfl (by decide) ?_
      refine wp_goto (pc := 18) 5 dX12_power_18 (by decide) ?_
      refine wp_ls ?_ (ih (i + 1) (by omega) (by omega))
      · repeat' (first | exact LE_0 | refine LE_s rfl ?_ | refine LE_s (I_c (by first | omega | (simp only [sm]; omega))) ?_ | refine LE_s (J_c (by first | omega | exact Int.pow_succ _ _ | exact (Int.pow_succ _ _).symm | exact (Int.pow_zero _).symm | (simp only [sm]; omega))) ?_ | refine LE_n ?_)
theorem sp_Ref_power (hn : n < 1000) : Sp g MX12_power (rm 0 0 0) [.long (J c), .int (I (n : Int))] hp (Pur (.long (J (c ^ n))) hp) := by
  refine Sp_mk rfl (Nat.le_of_ble_eq_true rfl) ?_
  show wp g _ _ _ 0 0 0 [some (.long (J c)), none, some (.int (I (n : Int))), none, none, none] [] hp
  refine wp_lcst (pc := 0) (y := 1) dX12_power_0 rfl ?_
  refine wp_lstore_n (pc := 1) dX12_power_1 (by decide) ?_
  refine wp_iconst (pc := 2) dX12_power_2 ?_
  refine wp_istore (pc := 3) dX12_power_3 (by decide) ?_
  refine wp_ls ?_ (lp_Ref_power hn (n + 1) 0 (by omega) (by omega))
  repeat' (first | exact LE_0 | refine LE_s rfl ?_ | refine LE_s (I_c (by first | omega | (simp only [sm]; omega))) ?_ | refine LE_s (J_c (by first | omega | exact Int.pow_succ _ _ | exact (Int.pow_succ _ _).symm | exact (Int.pow_zero _).symm | (simp only [sm]; omega))) ?_ | refine LE_n ?_)
theorem sp_Ref_tellPart (K : ModAt hp q V A rd rl) (ha : a < 9223372036854775808) (hb : b < 9223372036854775808) (h0 : 1 ≤ Nat.gcd a b) : Sp g MX12_tellPart (rm 131 0 0) [.ref q, .long (J (a : Int)), .long (J (b : Int))] hp (Vod (fun hp2 => (∃ V2 A2, ModAt hp2 q V2 A2 rd rl ∧ SV [5] V V2 ∧ SA [3] A A2 ∧ Mrw V2 A2 [(a : Int) / ((Nat.gcd a b : Nat) : Int), (b : Int) / ((Nat.gcd a b : Nat) : Int)]) ∧ SO hp hp2 q (q + 25))) := by
  have hg : Nat.gcd a b < 9223372036854775808 := by
    by_cases z : b = 0
    · rw [z, Nat.gcd_zero_right]; exact ha
    · have := Nat.le_of_dvd (Nat.pos_of_ne_zero z) (Nat.gcd_dvd_right a b)
      omega
  refine Sp_mk rfl (Nat.le_of_ble_eq_true rfl) ?_
  show wp g _ _ _ 0 0 0 [some (.ref q), some (.long (J (a : Int))), none, some (.long (J (b : Int))), none, none, none] [] hp
  have O := SO.rf (hp := hp) (lo := q) (hi := q + 25)
  refine wp_lload_n (pc := 0) dX12_tellPart_0 rfl ?_
  refine wp_lload_n (pc := 1) dX12_tellPart_1 rfl ?_
  refine wp_Sp (pc := 2) dX12_tellPart_2 cl_X12_350 (sp_Ref_gcd ha hb) rfl rfl (by decide) (Nat.le_of_ble_eq_true rfl) ?_
  refine wp_lstore (pc := 5) dX12_tellPart_5 (by decide) ?_
  refine wp_aload_n (pc := 7) dX12_tellPart_7 rfl ?_
  refine wp_iconst (pc := 8) dX12_tellPart_8 ?_
  refine wm_put dX12_tellPart_9 pf_X12_89 K O (by decide) mset_5 rfl rfl (fun hp K O => ?_)
  refine wp_aload_n (pc := 12) dX12_tellPart_12 rfl ?_
  refine wp_lload_n (pc := 13) dX12_tellPart_13 rfl ?_
  refine wp_lload (pc := 14) dX12_tellPart_14 rfl ?_
  refine wp_ldiv (pc := 16) dX12_tellPart_16 (J_ne0 (by omega) (by omega)) (J_div (by omega) (by omega) (by omega) (by omega)) ?_
  refine wp_Vn (pc := 17) dX12_tellPart_17 cl_X12_253 (sp_Ref_tellR K (by first | assumption | exact Mrw.z (by repeat (first | assumption | exact pv10 | exact pv11 | (apply pv_o; decide; decide) | exact upN_eq | (apply upN_ne; decide) | (apply SV_at; assumption; decide) | exact rfl))) (by first | decide | (simp; omega) | simp | omega)) rfl rfl K.1 (by rfl) (by decide) (Nat.le_of_ble_eq_true rfl) (fun hp17 e17 => ?_)
  obtain ⟨⟨V17, A17, K, sV17, sA17, hR17⟩, O1⟩ := e17; replace O := SO.tr O O1
  refine wp_aload_n (pc := 20) dX12_tellPart_20 rfl ?_
  refine wp_lload_n (pc := 21) dX12_tellPart_21 rfl ?_
  refine wp_lload (pc := 22) dX12_tellPart_22 rfl ?_
  refine wp_ldiv (pc := 24) dX12_tellPart_24 (J_ne0 (by omega) (by omega)) (J_div (by omega) (by omega) (by omega) (by omega)) ?_
  refine wp_Vn (pc := 25) dX12_tellPart_25 cl_X12_253 (sp_Ref_tellR K (by first | assumption | exact Mrw.z (by repeat (first | assumption | exact pv10 | exact pv11 | (apply pv_o; decide; decide) | exact upN_eq | (apply upN_ne; decide) | (apply SV_at; assumption; decide) | exact rfl))) (by first | decide | (simp; omega) | simp | omega)) rfl rfl K.1 (by rfl) (by decide) (Nat.le_of_ble_eq_true rfl) (fun hp25 e25 => ?_)
  obtain ⟨⟨V25, A25, K, sV25, sA25, hR25⟩, O1⟩ := e25; replace O := SO.tr O O1
  exact wp_vr (pc := 28) dX12_tellPart_28 rfl (by decide) (by decide) ⟨⟨_, _, K, (by repeat (first | exact SV.rf | assumption | (apply SV.up1; decide) | (apply SV.tr2; assumption; decide))), (by repeat (first | exact SA.rf | assumption | (apply SA.up1; decide) | (apply SA.tr2; assumption; decide))), (by first | assumption | exact Mrw.z (by repeat (first | assumption | exact pv10 | exact pv11 | (apply pv_o; decide; decide) | exact upN_eq | (apply upN_ne; decide) | (apply SV_at; assumption; decide) | exact rfl)) | exact Mrw.tr (by assumption) (by repeat (first | assumption | exact pv10 | exact pv11 | (apply pv_o; decide; decide) | exact upN_eq | (apply upN_ne; decide) | (apply SV_at; assumption; decide) | exact rfl)) (by repeat (first | assumption | exact upA_eq | (apply upA_ne; first | decide | omega) | (apply SA_at; assumption; first | decide | (simp; omega)) | exact rfl)))⟩, O⟩
theorem lp_Ref_q1 {Q : Option Value → Hp → Prop} (Kn : ∀ hp3 F, ModAt hp3 q V (upA A 21 F) rd (.ref (q + 5)) → SO hp hp3 q (q + 25) → (∀ j : Int, 0 ≤ j → j ≤ 6 → F j = qs y T 0 j) → wp g MX12_quiet (rm 132 0 0) Q 0 0 74 [some (.ref q), some (.int (I x)), some (.int (I y)), none, none, none, none, none, none] [] hp3) : ∀ (m i : Nat), 7 < i + m → i ≤ 7 → ∀ (hp2 : Hp) (F : Int → Int) (K : ModAt hp2 q V (upA A 21 F) rd (.ref (q + 5))) (O : SO hp hp2 q (q + 25)) (hF : ∀ j : Int, 0 ≤ j → j < i → F j = qs y T 0 j), wp g MX12_quiet (rm 132 0 0) Q 0 0 47 [some (.ref q), some (.int (I x)), some (.int (I y)), some (.int (I (i : Int))), none, none, none, none, none] [] hp2 := by
  intro m
  induction m with
  | zero => intro i h1 h2; exact absurd h1 (by omega)
  | succ m ih =>
    intro i h1 h2 hp2 F K O hF
    refine wp_iload_n (pc := 47) dX12_quiet_47 rfl ?_
    refine wp_bipush (pc := 48) (y := 6) dX12_quiet_48 (by decide) ?_
    refine wp_icmp_gt (pc := 50) 74 dX12_quiet_50 (by decide) (by first | omega | exact TI.i5 (by assumption) | exact TI.i3 (by assumption) | exact TI.i2 (by assumption) | exact TI.i1 (by assumption) | exact TI.i0 (by assumption) | exact TI.i4 (by assumption) | exact TI.i6 (by assumption) | exact TI.i7 (by assumption)) (by first | omega | exact TI.i5 (by assumption) | exact TI.i3 (by assumption) | exact TI.i2 (by assumption) | exact TI.i1 (by assumption) | exact TI.i0 (by assumption) | exact TI.i4 (by assumption) | exact TI.i6 (by assumption) | exact TI.i7 (by assumption)) (fun c50 => ?_) (fun c50 => ?_)
    ·
      refine wp_ls ?_ (Kn hp2 F K O (fun j z1 z2 => hF j z1 (by omega)))
      repeat' (first | exact LE_0 | refine LE_s rfl ?_ | refine LE_s (I_c (by first | omega | (simp only [sm]; omega))) ?_ | refine LE_s (J_c (by first | omega | exact Int.pow_succ _ _ | exact (Int.pow_succ _ _).symm | exact (Int.pow_zero _).symm | (simp only [sm]; omega))) ?_ | refine LE_n ?_)
    ·
      refine wp_aload_n (pc := 53) dX12_quiet_53 rfl ?_
      refine wm_get dX12_quiet_54 gf_X12_72 K (by rfl) ?_
      refine wp_iload_n (pc := 57) dX12_quiet_57 rfl ?_
      refine wp_iload_n (pc := 58) dX12_quiet_58 rfl ?_
      first | refine wp_ifb_ne (pc := 59) 66 dX12_quiet_59 (by decide) (fun c59 => ?_) (fun c59 => ?_) | refine wp_if_ne (pc := 59) 66 dX12_quiet_59 (by decide) (by first | omega | exact TI.i5 (by assumption) | exact TI.i3 (by assumption) | exact TI.i2 (by assumption) | exact TI.i1 (by assumption) | exact TI.i0 (by assumption) | exact TI.i4 (by assumption) | exact TI.i6 (by assumption) | exact TI.i7 (by assumption)) (fun c59 => ?_) (fun c59 => ?_)
      ·
        refine wp_lcst (pc := 66) (y := 0) dX12_quiet_66 rfl ?_
        refine wp_topJ (b := qs y T 0 (i : Int)) (by unfold qs; first | (rw [if_pos (by omega)]; done) | (rw [if_neg (by omega)]; done)) ?_
        refine wm_last dX12_quiet_67 K O (by rfl) (by decide) (by decide) (by decide) (by omega) (by omega) upA_eq rfl (fun hp K O => ?_)
        rw [upA_upA] at K
        refine wp_iinc (pc := 68) dX12_quiet_68 rfl (by decide) ?_
        refine wp_goto (pc := 71) 47 dX12_quiet_71 (by decide) ?_
        refine wp_ls ?_ (ih (i + 1) (by omega) (by omega) _ _ K O (fun w z1 z2 => ?_))
        · repeat' (first | exact LE_0 | refine LE_s rfl ?_ | refine LE_s (I_c (by first | omega | (simp only [sm]; omega))) ?_ | refine LE_s (J_c (by first | omega | exact Int.pow_succ _ _ | exact (Int.pow_succ _ _).symm | exact (Int.pow_zero _).symm | (simp only [sm]; omega))) ?_ | refine LE_n ?_)
        · by_cases z : w = (i : Int)
          · rw [z, updI_eq]
          · rw [updI_ne z]; exact hF w z1 (by omega)
      ·
        refine wp_lcst (pc := 62) (y := 1) dX12_quiet_62 rfl ?_
        refine wp_goto (pc := 63) 67 dX12_quiet_63 (by decide) ?_
        refine wp_topJ (b := qs y T 0 (i : Int)) (by unfold qs; first | (rw [if_pos (by omega)]; done) | (rw [if_neg (by omega)]; done)) ?_
        refine wm_last dX12_quiet_67 K O (by rfl) (by decide) (by decide) (by decide) (by omega) (by omega) upA_eq rfl (fun hp K O => ?_)
        rw [upA_upA] at K
        refine wp_iinc (pc := 68) dX12_quiet_68 rfl (by decide) ?_
        refine wp_goto (pc := 71) 47 dX12_quiet_71 (by decide) ?_
        refine wp_ls ?_ (ih (i + 1) (by omega) (by omega) _ _ K O (fun w z1 z2 => ?_))
        · repeat' (first | exact LE_0 | refine LE_s rfl ?_ | refine LE_s (I_c (by first | omega | (simp only [sm]; omega))) ?_ | refine LE_s (J_c (by first | omega | exact Int.pow_succ _ _ | exact (Int.pow_succ _ _).symm | exact (Int.pow_zero _).symm | (simp only [sm]; omega))) ?_ | refine LE_n ?_)
        · by_cases z : w = (i : Int)
          · rw [z, updI_eq]
          · rw [updI_ne z]; exact hF w z1 (by omega)
theorem lp_Ref_q3 {r : Int} {Q : Option Value → Hp → Prop} (Kn : ∀ hp3 F, ModAt hp3 q V (upA A 21 F) rd (.ref (q + 5)) → SO hp hp3 q (q + 25) → (∀ j : Int, 0 ≤ j → j ≤ 6 → F j = adq u w Y j) → wp g MX12_quiet (rm 132 0 0) Q 0 0 192 [some (.ref q), some (.int (I x)), some (.int (I y)), some (.int (I r)), some (.long (J u)), none, some (.long (J w)), none, none] [] hp3) : ∀ (m i : Nat), 7 < i + m → i ≤ 7 → ∀ (hp2 : Hp) (F : Int → Int) (K : ModAt hp2 q V (upA A 21 F) rd (.ref (q + 5))) (O : SO hp hp2 q (q + 25)) (hF : ∀ j : Int, 0 ≤ j → j ≤ 6 → F j = if j ≤ 6 - (i : Int) then Y j else adq u w Y j), wp g MX12_quiet (rm 132 0 0) Q 0 0 139 [some (.ref q), some (.int (I x)), some (.int (I y)), some (.int (I r)), some (.long (J u)), none, some (.long (J w)), none, some (.int (I (6 - (i : Int))))] [] hp2 := by
  intro m
  induction m with
  | zero => intro i h1 h2; exact absurd h1 (by omega)
  | succ m ih =>
    intro i h1 h2 hp2 F K O hF
    have hx : i < 7 → ∀ t : Int, t = (if 0 < 6 - (i : Int) then Y (6 - (i : Int) - 1) else 0) * u → ∀ j : Int, 0 ≤ j → j ≤ 6 → updI F (6 - (i : Int)) (F (6 - (i : Int)) * (w - u) + t) j = if j ≤ 6 - ((i + 1 : Nat) : Int) then Y j else adq u w Y j := by
      intro hi t ht j z1 z2
      by_cases z : j = 6 - (i : Int)
      · rw [z, updI_eq, if_neg (by omega), hF _ (by omega) (by omega), if_pos (by omega), ht]
        rfl
      · rw [updI_ne z, hF j z1 z2]
        by_cases y2 : j ≤ 6 - (i : Int)
        · rw [if_pos y2, if_pos (by omega)]
        · rw [if_neg y2, if_neg (by omega)]
    refine wp_iload (pc := 139) dX12_quiet_139 rfl ?_
    refine wp_if_lt (pc := 141) 192 dX12_quiet_141 (by decide) (by first | omega | exact TI.i5 (by assumption) | exact TI.i3 (by assumption) | exact TI.i2 (by assumption) | exact TI.i1 (by assumption) | exact TI.i0 (by assumption) | exact TI.i4 (by assumption) | exact TI.i6 (by assumption) | exact TI.i7 (by assumption)) (fun c141 => ?_) (fun c141 => ?_)
    ·
      refine wp_ls ?_ (Kn hp2 F K O (fun j z1 z2 => by rw [hF j z1 z2, if_neg (by omega)]))
      repeat' (first | exact LE_0 | refine LE_s rfl ?_ | refine LE_s (I_c (by first | omega | (simp only [sm]; omega))) ?_ | refine LE_s (J_c (by first | omega | exact Int.pow_succ _ _ | exact (Int.pow_succ _ _).symm | exact (Int.pow_zero _).symm | (simp only [sm]; omega))) ?_ | refine LE_n ?_)
    ·
      skip -- go
      refine wp_aload_n (pc := 144) dX12_quiet_144 rfl ?_
      refine wm_get dX12_quiet_145 gf_X12_72 K (by rfl) ?_
      refine wp_iload (pc := 148) dX12_quiet_148 rfl ?_
      refine wp_aload_n (pc := 150) dX12_quiet_150 rfl ?_
      refine wm_get dX12_quiet_151 gf_X12_72 K (by rfl) ?_
      refine wp_iload (pc := 154) dX12_quiet_154 rfl ?_
      refine wm_lald dX12_quiet_156 K (by first | rfl | assumption) (by first | decide | omega) (by first | decide | omega) (by decide) (by omega) (by omega) (by repeat (first | assumption | exact upA_eq | (apply upA_ne; first | decide | omega) | (apply SA_at; assumption; first | decide | (simp; omega)) | exact rfl)) (by first | exact flat5 (by omega) (by omega) | exact flat3 (by omega) (by omega) | exact flat2 (by omega) (by omega) | exact flat6 (by omega) (by omega) | exact flat4 (by omega) (by omega) | exact flat1 (by omega) (by omega) | exact flat0 (by omega) (by omega) | exact flat7 | exact rfl) ?_
      refine wp_lload (pc := 157) dX12_quiet_157 rfl ?_
      refine wp_lload (pc := 159) dX12_quiet_159 rfl ?_
      refine wp_lsub (pc := 161) dX12_quiet_161 ?_
      refine wp_lmul (pc := 162) dX12_quiet_162 ?_
      refine wp_iload (pc := 163) dX12_quiet_163 rfl ?_
      refine wp_if_le (pc := 165) 183 dX12_quiet_165 (by decide) (by first | omega | exact TI.i5 (by assumption) | exact TI.i3 (by assumption) | exact TI.i2 (by assumption) | exact TI.i1 (by assumption) | exact TI.i0 (by assumption) | exact TI.i4 (by assumption) | exact TI.i6 (by assumption) | exact TI.i7 (by assumption)) (fun c165 => ?_) (fun c165 => ?_)
      ·
        refine wp_lcst (pc := 183) (y := 0) dX12_quiet_183 rfl ?_
        refine wp_ladd (pc := 184) dX12_quiet_184 ?_
        refine wm_last dX12_quiet_185 K O (by first | rfl | assumption) (by first | decide | omega) (by first | decide | omega) (by decide) (by omega) (by omega) (by repeat (first | assumption | exact upA_eq | (apply upA_ne; first | decide | omega) | (apply SA_at; assumption; first | decide | (simp; omega)) | exact rfl)) (by first | exact flatv5 (by omega) (by omega) | exact flatv3 (by omega) (by omega) | exact flatv2 (by omega) (by omega) | exact flatv6 (by omega) (by omega) | exact flatv4 (by omega) (by omega) | exact flatw1 (by omega) (by omega) | exact flatw0 (by omega) (by omega) | exact flatw7 | exact rfl) (fun hp K O => ?_)
        rw [upA_upA] at K
        refine wp_iinc (pc := 186) dX12_quiet_186 rfl (by decide) ?_
        refine wp_goto (pc := 189) 139 dX12_quiet_189 (by decide) ?_
        refine wp_ls ?_ (ih (i + 1) (by omega) (by omega) _ _ K O (hx (by omega) _ ?_))
        · repeat' (first | exact LE_0 | refine LE_s rfl ?_ | refine LE_s (I_c (by first | omega | (simp only [sm]; omega))) ?_ | refine LE_s (J_c (by first | omega | exact Int.pow_succ _ _ | exact (Int.pow_succ _ _).symm | exact (Int.pow_zero _).symm | (simp only [sm]; omega))) ?_ | refine LE_n ?_)
        · first
          | (rw [if_pos (by omega), hF _ (by omega) (by omega), if_pos (by omega)]; done)
          | (rw [if_neg (by omega), Int.zero_mul]; done)
      ·
        refine wp_aload_n (pc := 168) dX12_quiet_168 rfl ?_
        refine wm_get dX12_quiet_169 gf_X12_72 K (by rfl) ?_
        refine wp_iload (pc := 172) dX12_quiet_172 rfl ?_
        refine wp_iconst (pc := 174) dX12_quiet_174 ?_
        refine wp_isub (pc := 175) dX12_quiet_175 ?_
        refine wm_lald dX12_quiet_176 K (by first | rfl | assumption) (by first | decide | omega) (by first | decide | omega) (by decide) (by omega) (by omega) (by repeat (first | assumption | exact upA_eq | (apply upA_ne; first | decide | omega) | (apply SA_at; assumption; first | decide | (simp; omega)) | exact rfl)) (by first | exact flat5 (by omega) (by omega) | exact flat3 (by omega) (by omega) | exact flat2 (by omega) (by omega) | exact flat6 (by omega) (by omega) | exact flat4 (by omega) (by omega) | exact flat1 (by omega) (by omega) | exact flat0 (by omega) (by omega) | exact flat7 | exact rfl) ?_
        refine wp_lload (pc := 177) dX12_quiet_177 rfl ?_
        refine wp_lmul (pc := 179) dX12_quiet_179 ?_
        refine wp_goto (pc := 180) 184 dX12_quiet_180 (by decide) ?_
        refine wp_ladd (pc := 184) dX12_quiet_184 ?_
        refine wm_last dX12_quiet_185 K O (by first | rfl | assumption) (by first | decide | omega) (by first | decide | omega) (by decide) (by omega) (by omega) (by repeat (first | assumption | exact upA_eq | (apply upA_ne; first | decide | omega) | (apply SA_at; assumption; first | decide | (simp; omega)) | exact rfl)) (by first | exact flatv5 (by omega) (by omega) | exact flatv3 (by omega) (by omega) | exact flatv2 (by omega) (by omega) | exact flatv6 (by omega) (by omega) | exact flatv4 (by omega) (by omega) | exact flatw1 (by omega) (by omega) | exact flatw0 (by omega) (by omega) | exact flatw7 | exact rfl) (fun hp K O => ?_)
        rw [upA_upA] at K
        refine wp_iinc (pc := 186) dX12_quiet_186 rfl (by decide) ?_
        refine wp_goto (pc := 189) 139 dX12_quiet_189 (by decide) ?_
        refine wp_ls ?_ (ih (i + 1) (by omega) (by omega) _ _ K O (hx (by omega) _ ?_))
        · repeat' (first | exact LE_0 | refine LE_s rfl ?_ | refine LE_s (I_c (by first | omega | (simp only [sm]; omega))) ?_ | refine LE_s (J_c (by first | omega | exact Int.pow_succ _ _ | exact (Int.pow_succ _ _).symm | exact (Int.pow_zero _).symm | (simp only [sm]; omega))) ?_ | refine LE_n ?_)
        · first
          | (rw [if_pos (by omega), hF _ (by omega) (by omega), if_pos (by omega)]; done)
          | (rw [if_neg (by omega), Int.zero_mul]; done)
theorem lp_Ref_q2 (hI : TI T N) (e1 : V 1 = (N : Int)) (mA : A 1 = flat T) (ry : 0 ≤ y ∧ y ≤ 10) {Q : Option Value → Hp → Prop} (Kn : ∀ hp3 F, ModAt hp3 q V (upA A 21 F) rd (.ref (q + 5)) → SO hp hp3 q (q + 25) → (∀ j : Int, 0 ≤ j → j ≤ 6 → F j = qs y T N j) → wp g MX12_quiet (rm 132 0 0) Q 0 0 198 [some (.ref q), some (.int (I x)), some (.int (I y)), none, none, none, none, none, none] [] hp3) : ∀ (m i : Nat), N < i + m → i ≤ N → ∀ (hp2 : Hp) (F : Int → Int) (K : ModAt hp2 q V (upA A 21 F) rd (.ref (q + 5))) (O : SO hp hp2 q (q + 25)) (hF : ∀ j : Int, 0 ≤ j → j ≤ 6 → F j = qs y T i j), wp g MX12_quiet (rm 132 0 0) Q 0 0 76 [some (.ref q), some (.int (I x)), some (.int (I y)), some (.int (I (i : Int))), none, none, none, none, none] [] hp2 := by
  intro m
  induction m with
  | zero => intro i h1 h2; exact absurd h1 (by omega)
  | succ m ih =>
    intro i h1 h2 hp2 F K O hF
    have hN := hI.men.2
    have hdi := hI.2.2.2.2.2.2.2.1 (i : Int)
    have ed : T 5 (i : Int) = ((T 5 (i : Int)).toNat : Int) := by omega
    refine wp_iload_n (pc := 76) dX12_quiet_76 rfl ?_
    refine wp_aload_n (pc := 77) dX12_quiet_77 rfl ?_
    refine wm_gets dX12_quiet_78 gf_X12_92 K (by rfl) (by repeat (first | assumption | exact pv10 | exact pv11 | (apply pv_o; decide; decide) | exact upN_eq | (apply upN_ne; decide) | (apply SV_at; assumption; decide) | exact rfl)) ?_
    refine wp_icmp_ge (pc := 81) 198 dX12_quiet_81 (by decide) (by first | omega | exact TI.i5 (by assumption) | exact TI.i3 (by assumption) | exact TI.i2 (by assumption) | exact TI.i1 (by assumption) | exact TI.i0 (by assumption) | exact TI.i4 (by assumption) | exact TI.i6 (by assumption) | exact TI.i7 (by assumption)) (by first | omega | exact TI.i5 (by assumption) | exact TI.i3 (by assumption) | exact TI.i2 (by assumption) | exact TI.i1 (by assumption) | exact TI.i0 (by assumption) | exact TI.i4 (by assumption) | exact TI.i6 (by assumption) | exact TI.i7 (by assumption)) (fun c81 => ?_) (fun c81 => ?_)
    ·
      have e : i = N := by omega
      subst e
      refine wp_ls ?_ (Kn hp2 F K O hF)
      repeat' (first | exact LE_0 | refine LE_s rfl ?_ | refine LE_s (I_c (by first | omega | (simp only [sm]; omega))) ?_ | refine LE_s (J_c (by first | omega | exact Int.pow_succ _ _ | exact (Int.pow_succ _ _).symm | exact (Int.pow_zero _).symm | (simp only [sm]; omega))) ?_ | refine LE_n ?_)
    ·
      refine wp_aload_n (pc := 84) dX12_quiet_84 rfl ?_
      refine wm_get dX12_quiet_85 gf_X12_9 K (by rfl) ?_
      refine wp_bipush (pc := 88) (y := 54) dX12_quiet_88 (by decide) ?_
      refine wp_iload_n (pc := 90) dX12_quiet_90 rfl ?_
      refine wp_iadd (pc := 91) dX12_quiet_91 ?_
      refine wm_iald dX12_quiet_92 K (by first | rfl | assumption) (by first | decide | omega) (by first | decide | omega) (by decide) (by omega) (by omega) (by repeat (first | assumption | exact upA_eq | (apply upA_ne; first | decide | omega) | (apply SA_at; assumption; first | decide | (simp; omega)) | exact rfl)) (by first | exact flat5 (by omega) (by omega) | exact flat3 (by omega) (by omega) | exact flat2 (by omega) (by omega) | exact flat6 (by omega) (by omega) | exact flat4 (by omega) (by omega) | exact flat1 (by omega) (by omega) | exact flat0 (by omega) (by omega) | exact flat7 | exact rfl) ?_
      first | refine wp_ifb_ne (pc := 93) 99 dX12_quiet_93 (by decide) (fun c93 => ?_) (fun c93 => ?_) | refine wp_if_ne (pc := 93) 99 dX12_quiet_93 (by decide) (by first | omega | exact TI.i5 (by assumption) | exact TI.i3 (by assumption) | exact TI.i2 (by assumption) | exact TI.i1 (by assumption) | exact TI.i0 (by assumption) | exact TI.i4 (by assumption) | exact TI.i6 (by assumption) | exact TI.i7 (by assumption)) (fun c93 => ?_) (fun c93 => ?_)
      ·
        refine wp_bipush (pc := 99) (y := 10) dX12_quiet_99 (by decide) ?_
        refine wp_iload_n (pc := 101) dX12_quiet_101 rfl ?_
        refine wp_isub (pc := 102) dX12_quiet_102 ?_
        refine wp_i2l (pc := 103) dX12_quiet_103 (by first | omega | exact TI.i5 (by assumption) | exact TI.i3 (by assumption) | exact TI.i2 (by assumption) | exact TI.i1 (by assumption) | exact TI.i0 (by assumption) | exact TI.i4 (by assumption) | exact TI.i6 (by assumption) | exact TI.i7 (by assumption)) ?_
        refine wp_aload_n (pc := 104) dX12_quiet_104 rfl ?_
        refine wm_get dX12_quiet_105 gf_X12_9 K (by rfl) ?_
        refine wp_bipush (pc := 108) (y := 54) dX12_quiet_108 (by decide) ?_
        refine wp_iload_n (pc := 110) dX12_quiet_110 rfl ?_
        refine wp_iadd (pc := 111) dX12_quiet_111 ?_
        refine wm_iald dX12_quiet_112 K (by first | rfl | assumption) (by first | decide | omega) (by first | decide | omega) (by decide) (by omega) (by omega) (by repeat (first | assumption | exact upA_eq | (apply upA_ne; first | decide | omega) | (apply SA_at; assumption; first | decide | (simp; omega)) | exact rfl)) (by first | exact flat5 (by omega) (by omega) | exact flat3 (by omega) (by omega) | exact flat2 (by omega) (by omega) | exact flat6 (by omega) (by omega) | exact flat4 (by omega) (by omega) | exact flat1 (by omega) (by omega) | exact flat0 (by omega) (by omega) | exact flat7 | exact rfl) ?_
        refine wp_topE ed ?_
        refine wp_Sp (pc := 113) dX12_quiet_113 cl_X12_354 (sp_Ref_power (n := (T 5 (i : Int)).toNat) (by omega)) rfl rfl (by decide) (Nat.le_of_ble_eq_true rfl) ?_
        refine wp_lstore (pc := 116) dX12_quiet_116 (by decide) ?_
        refine wp_ldc2 (pc := 118) dX12_quiet_118 kc_X12_358 ?_
        refine wp_aload_n (pc := 121) dX12_quiet_121 rfl ?_
        refine wm_get dX12_quiet_122 gf_X12_9 K (by rfl) ?_
        refine wp_bipush (pc := 125) (y := 54) dX12_quiet_125 (by decide) ?_
        refine wp_iload_n (pc := 127) dX12_quiet_127 rfl ?_
        refine wp_iadd (pc := 128) dX12_quiet_128 ?_
        refine wm_iald dX12_quiet_129 K (by first | rfl | assumption) (by first | decide | omega) (by first | decide | omega) (by decide) (by omega) (by omega) (by repeat (first | assumption | exact upA_eq | (apply upA_ne; first | decide | omega) | (apply SA_at; assumption; first | decide | (simp; omega)) | exact rfl)) (by first | exact flat5 (by omega) (by omega) | exact flat3 (by omega) (by omega) | exact flat2 (by omega) (by omega) | exact flat6 (by omega) (by omega) | exact flat4 (by omega) (by omega) | exact flat1 (by omega) (by omega) | exact flat0 (by omega) (by omega) | exact flat7 | exact rfl) ?_
        refine wp_topE ed ?_
        refine wp_Sp (pc := 130) dX12_quiet_130 cl_X12_354 (sp_Ref_power (n := (T 5 (i : Int)).toNat) (by omega)) rfl rfl (by decide) (Nat.le_of_ble_eq_true rfl) ?_
        refine wp_lstore (pc := 133) dX12_quiet_133 (by decide) ?_
        refine wp_bipush (pc := 135) (y := 6) dX12_quiet_135 (by decide) ?_
        refine wp_istore (pc := 137) dX12_quiet_137 (by decide) ?_
        refine wp_ls ?_ (lp_Ref_q3 (Y := F) (r := (i : Int)) (x := x) (y := y) (u := (10 - y) ^ (T 5 (i : Int)).toNat) (w := 10 ^ (T 5 (i : Int)).toNat) (fun hp3 F3 K O hF3 => ?_) 8 0 (by omega) (by omega) _ F K O (fun j z1 z2 => by rw [if_pos (by omega)]))
        · repeat' (first | exact LE_0 | refine LE_s rfl ?_ | refine LE_s (I_c (by first | omega | (simp only [sm]; omega))) ?_ | refine LE_s (J_c (by first | omega | exact Int.pow_succ _ _ | exact (Int.pow_succ _ _).symm | exact (Int.pow_zero _).symm | (simp only [sm]; omega))) ?_ | refine LE_n ?_)
        ·
          refine wp_iinc (pc := 192) dX12_quiet_192 rfl (by decide) ?_
          refine wp_goto (pc := 195) 76 dX12_quiet_195 (by decide) ?_
          first
          | refine wp_ls ?_ (ih (i + 1) (by omega) (by omega) _ F3 K O (fun j z1 z2 => ?_))
            · repeat' (first | exact LE_0 | refine LE_s rfl ?_ | refine LE_s (I_c (by first | omega | (simp only [sm]; omega))) ?_ | refine LE_s (J_c (by first | omega | exact Int.pow_succ _ _ | exact (Int.pow_succ _ _).symm | exact (Int.pow_zero _).symm | (simp only [sm]; omega))) ?_ | refine LE_n ?_)
            · rw [hF3 j z1 z2, show qs y T (i + 1) = _ from if_neg c93]
              unfold adq
              rw [hF j z1 z2]
              by_cases z : 0 < j
              · rw [if_pos z, if_pos z, hF (j - 1) (by omega) (by omega)]
              · rw [if_neg z, if_neg z]
          | refine wp_ls ?_ (ih (i + 1) (by omega) (by omega) _ F K O (by rw [e2]; exact hF))
            repeat' (first | exact LE_0 | refine LE_s rfl ?_ | refine LE_s (I_c (by first | omega | (simp only [sm]; omega))) ?_ | refine LE_s (J_c (by first | omega | exact Int.pow_succ _ _ | exact (Int.pow_succ _ _).symm | exact (Int.pow_zero _).symm | (simp only [sm]; omega))) ?_ | refine LE_n ?_)
      ·
        have e2 : qs y T (i + 1) = qs y T i := if_pos c93 -- go
        refine wp_goto (pc := 96) 192 dX12_quiet_96 (by decide) ?_
        refine wp_iinc (pc := 192) dX12_quiet_192 rfl (by decide) ?_
        refine wp_goto (pc := 195) 76 dX12_quiet_195 (by decide) ?_
        first
        | refine wp_ls ?_ (ih (i + 1) (by omega) (by omega) _ F3 K O (fun j z1 z2 => ?_))
          · repeat' (first | exact LE_0 | refine LE_s rfl ?_ | refine LE_s (I_c (by first | omega | (simp only [sm]; omega))) ?_ | refine LE_s (J_c (by first | omega | exact Int.pow_succ _ _ | exact (Int.pow_succ _ _).symm | exact (Int.pow_zero _).symm | (simp only [sm]; omega))) ?_ | refine LE_n ?_)
          · rw [hF3 j z1 z2, show qs y T (i + 1) = _ from if_neg c93]
            unfold adq
            rw [hF j z1 z2]
            by_cases z : 0 < j
            · rw [if_pos z, if_pos z, hF (j - 1) (by omega) (by omega)]
            · rw [if_neg z, if_neg z]
        | refine wp_ls ?_ (ih (i + 1) (by omega) (by omega) _ F K O (by rw [e2]; exact hF))
          repeat' (first | exact LE_0 | refine LE_s rfl ?_ | refine LE_s (I_c (by first | omega | (simp only [sm]; omega))) ?_ | refine LE_s (J_c (by first | omega | exact Int.pow_succ _ _ | exact (Int.pow_succ _ _).symm | exact (Int.pow_zero _).symm | (simp only [sm]; omega))) ?_ | refine LE_n ?_)
theorem lp_Ref_q4 {W : Int → Int} (K : ModAt hp q V A rd (.ref (q + 5))) (hF : ∀ j : Int, 0 ≤ j → j ≤ 6 → A 21 j = W j) (hk : k ≤ 6) {Q : Option Value → Hp → Prop} (Kn : wp g MX12_quiet (rm 132 0 0) Q 0 0 226 [some (.ref q), some (.int (I (k : Int))), some (.int (I y)), some (.long (J (smf W k (7 - k)))), none, none, none, none, none] [] hp) : ∀ (m i : Nat), (7 - k) < i + m → i ≤ (7 - k) → wp g MX12_quiet (rm 132 0 0) Q 0 0 203 [some (.ref q), some (.int (I (k : Int))), some (.int (I y)), some (.long (J (smf W k i))), none, some (.int (I ((k : Int) + (i : Int)))), none, none, none] [] hp := by
  intro m
  induction m with
  | zero => intro i h1 h2; exact absurd h1 (by omega)
  | succ m ih =>
    intro i h1 h2
    refine wp_iload (pc := 203) dX12_quiet_203 rfl ?_
    refine wp_bipush (pc := 205) (y := 6) dX12_quiet_205 (by decide) ?_
    refine wp_icmp_gt (pc := 207) 226 dX12_quiet_207 (by decide) (by first | omega | exact TI.i5 (by assumption) | exact TI.i3 (by assumption) | exact TI.i2 (by assumption) | exact TI.i1 (by assumption) | exact TI.i0 (by assumption) | exact TI.i4 (by assumption) | exact TI.i6 (by assumption) | exact TI.i7 (by assumption)) (by first | omega | exact TI.i5 (by assumption) | exact TI.i3 (by assumption) | exact TI.i2 (by assumption) | exact TI.i1 (by assumption) | exact TI.i0 (by assumption) | exact TI.i4 (by assumption) | exact TI.i6 (by assumption) | exact TI.i7 (by assumption)) (fun c207 => ?_) (fun c207 => ?_)
    ·
      have e : i = 7 - k := by omega
      subst e
      refine wp_ls ?_ Kn
      repeat' (first | exact LE_0 | refine LE_s rfl ?_ | refine LE_s (I_c (by first | omega | (simp only [sm]; omega))) ?_ | refine LE_s (J_c (by first | omega | exact Int.pow_succ _ _ | exact (Int.pow_succ _ _).symm | exact (Int.pow_zero _).symm | (simp only [sm]; omega))) ?_ | refine LE_n ?_)
    ·
      refine wp_lload_n (pc := 210) dX12_quiet_210 rfl ?_
      refine wp_aload_n (pc := 211) dX12_quiet_211 rfl ?_
      refine wm_get dX12_quiet_212 gf_X12_72 K (by rfl) ?_
      refine wp_iload (pc := 215) dX12_quiet_215 rfl ?_
      refine wm_lald dX12_quiet_217 K (by first | rfl | assumption) (by first | decide | omega) (by first | decide | omega) (by decide) (by omega) (by omega) (by repeat (first | assumption | exact upA_eq | (apply upA_ne; first | decide | omega) | (apply SA_at; assumption; first | decide | (simp; omega)) | exact rfl)) (by first | exact flat5 (by omega) (by omega) | exact flat3 (by omega) (by omega) | exact flat2 (by omega) (by omega) | exact flat6 (by omega) (by omega) | exact flat4 (by omega) (by omega) | exact flat1 (by omega) (by omega) | exact flat0 (by omega) (by omega) | exact flat7 | exact rfl) ?_
      refine wp_topJ (hF _ (by omega) (by omega)) ?_
      refine wp_ladd (pc := 218) dX12_quiet_218 ?_
      refine wp_lstore_n (pc := 219) dX12_quiet_219 (by decide) ?_
      refine wp_iinc (pc := 220) dX12_quiet_220 rfl (by decide) ?_
      refine wp_goto (pc := 223) 203 dX12_quiet_223 (by decide) ?_
      refine wp_ls ?_ (ih (i + 1) (by omega) (by omega))
      · repeat' (first | exact LE_0 | refine LE_s rfl ?_ | refine LE_s (I_c (by first | omega | (simp only [sm]; omega))) ?_ | refine LE_s (J_c (by first | omega | exact Int.pow_succ _ _ | exact (Int.pow_succ _ _).symm | exact (Int.pow_zero _).symm | (simp only [sm]; omega))) ?_ | refine LE_n ?_)
abbrev qok (T : Nat → Int → Int) (N : Nat) (x y : Int) : Prop := (0 ≤ x ∧ x ≤ 6) ∧ (0 ≤ y ∧ y ≤ 10) ∧ sm (T 5) N ≤ 16
def quA (T : Nat → Int → Int) (N : Nat) (x y : Int) : Int := if ¬ ((0 ≤ x ∧ x ≤ 6) ∧ (0 ≤ y ∧ y ≤ 10)) then -1 else if 16 < sm (T 5) N then -2 else 0
def quR (T : Nat → Int → Int) (N : Nat) (rw : List Int) (x y : Int) : List Int := if qok T N x y then [qup y T N x.toNat / qgc y T N x.toNat, qlo T N / qgc y T N x.toNat] else rw
theorem qgc_in {p : Int} (hI : TI T N) (hp0 : 0 ≤ p ∧ p ≤ 10) (hk : k ≤ 6) (hs : sm (T 5) N ≤ 16) : ∃ a b : Nat, qup p T N k = (a : Int) ∧ qlo T N = (b : Int) ∧ qgc p T N k = ((Nat.gcd a b : Nat) : Int) ∧ a ≤ 10000000000000000 ∧ b ≤ 10000000000000000 ∧ 1 ≤ Nat.gcd a b := by
  have h := q_in (k := k) hI hp0 hk hs
  have h1 : 1 ≤ Nat.gcd (qup p T N k).toNat (qlo T N).toNat := Nat.gcd_pos_of_pos_right _ (by omega)
  refine ⟨(qup p T N k).toNat, (qlo T N).toNat, by omega, by omega, ?_, by omega, by omega, h1⟩
  unfold qgc
  rw [Nat.max_eq_right h1]
theorem sp_Ref_quiet (hM : MAt hp q th N T U tx rw rt hs ss KT) (hI : TI T N) (rx : InR x) (ry : InR y) : Sp g MX12_quiet (rm 132 0 0) [.ref q, .int (I x), .int (I y)] hp (Eff (.int (I (quA T N x y))) (fun hp2 => MAt hp2 q 0 N T U tx (quR T N rw x y) rt hs ss KT ∧ SO hp hp2 q (q + 25))) := by
  have hN := hI.men.2
  have hs5 := sm_range (f := T 5) (lo := 0) (hi := 9) (n := N) (fun j _ => hI.2.2.2.2.2.2.2.1 j)
  unfold quA quR
  refine Sp_mk rfl (Nat.le_of_ble_eq_true rfl) ?_
  show wp g _ _ _ 0 0 0 [some (.ref q), some (.int (I x)), some (.int (I y)), none, none, none, none, none, none] [] hp
  have O := SO.rf (hp := hp) (lo := q) (hi := q + 25)
  obtain ⟨V, A, rd, K, hth, M⟩ := hM
  have hu := M.ru (q := q)
  have M2 := M
  obtain ⟨m1, mA, mt, mr, mu, mU, mh, ms, mk⟩ := M2
  refine wp_aload_n (pc := 0) dX12_quiet_0 rfl ?_
  refine wp_iconst (pc := 1) dX12_quiet_1 ?_
  refine wm_put dX12_quiet_2 pf_X12_85 K O (by decide) mset_6 rfl rfl (fun hp K O => ?_)
  refine wp_iload_n (pc := 5) dX12_quiet_5 rfl ?_
  refine wp_iconst (pc := 6) dX12_quiet_6 ?_
  refine wp_bipush (pc := 7) (y := 6) dX12_quiet_7 (by decide) ?_
  refine wp_Sp (pc := 9) dX12_quiet_9 cl_X12_95 (sp_Ref_in (by first | assumption | omega | (repeat (first | assumption | exact pv10 | exact pv11 | (apply pv_o; decide; decide) | exact upN_eq | (apply upN_ne; decide) | (apply SV_at; assumption; decide) | exact upA_eq | (apply upA_ne; first | decide | omega) | (apply SA_at; assumption; first | decide | (simp; omega)) | exact rfl))) (by first | assumption | omega | (repeat (first | assumption | exact pv10 | exact pv11 | (apply pv_o; decide; decide) | exact upN_eq | (apply upN_ne; decide) | (apply SV_at; assumption; decide) | exact upA_eq | (apply upA_ne; first | decide | omega) | (apply SA_at; assumption; first | decide | (simp; omega)) | exact rfl))) (by first | assumption | omega | (repeat (first | assumption | exact pv10 | exact pv11 | (apply pv_o; decide; decide) | exact upN_eq | (apply upN_ne; decide) | (apply SV_at; assumption; decide) | exact upA_eq | (apply upA_ne; first | decide | omega) | (apply SA_at; assumption; first | decide | (simp; omega)) | exact rfl)))) rfl rfl (by decide) (Nat.le_of_ble_eq_true rfl) ?_
  first | refine wp_ifb_eq (pc := 12) 25 dX12_quiet_12 (by decide) (fun c12 => ?_) (fun c12 => ?_) | refine wp_if_eq (pc := 12) 25 dX12_quiet_12 (by decide) (by first | omega | exact TI.i5 (by assumption) | exact TI.i3 (by assumption) | exact TI.i2 (by assumption) | exact TI.i1 (by assumption) | exact TI.i0 (by assumption) | exact TI.i4 (by assumption) | exact TI.i6 (by assumption) | exact TI.i7 (by assumption)) (fun c12 => ?_) (fun c12 => ?_)
  ·
    rw [if_pos (show ¬ ((0 ≤ x ∧ x ≤ 6) ∧ (0 ≤ y ∧ y ≤ 10)) by omega), if_neg (show ¬ qok T N x y by omega)]
    refine wp_iconst (pc := 25) dX12_quiet_25 ?_
    exact wp_ir (pc := 26) dX12_quiet_26 rfl (by decide) (by decide) (by first | rfl | omega) ⟨⟨_, _, _, K, (by repeat (first | assumption | exact pv10 | exact pv11 | (apply pv_o; decide; decide) | exact upN_eq | (apply upN_ne; decide) | (apply SV_at; assumption; decide) | exact rfl)), M.qu (by repeat (first | exact SV.rf | assumption | (apply SV.up1; decide) | (apply SV.tr2; assumption; decide))) (by repeat (first | exact SA.rf | assumption | (apply SA.up1; decide) | (apply SA.tr2; assumption; decide))) (by first | assumption | exact Mrw.z (by repeat (first | assumption | exact pv10 | exact pv11 | (apply pv_o; decide; decide) | exact upN_eq | (apply upN_ne; decide) | (apply SV_at; assumption; decide) | exact rfl)) | exact Mrw.tr (by assumption) (by repeat (first | assumption | exact pv10 | exact pv11 | (apply pv_o; decide; decide) | exact upN_eq | (apply upN_ne; decide) | (apply SV_at; assumption; decide) | exact rfl)) (by repeat (first | assumption | exact upA_eq | (apply upA_ne; first | decide | omega) | (apply SA_at; assumption; first | decide | (simp; omega)) | exact rfl)))⟩, O⟩
  ·
    refine wp_iload_n (pc := 15) dX12_quiet_15 rfl ?_
    refine wp_iconst (pc := 16) dX12_quiet_16 ?_
    refine wp_bipush (pc := 17) (y := 10) dX12_quiet_17 (by decide) ?_
    refine wp_Sp (pc := 19) dX12_quiet_19 cl_X12_95 (sp_Ref_in (by first | assumption | omega | (repeat (first | assumption | exact pv10 | exact pv11 | (apply pv_o; decide; decide) | exact upN_eq | (apply upN_ne; decide) | (apply SV_at; assumption; decide) | exact upA_eq | (apply upA_ne; first | decide | omega) | (apply SA_at; assumption; first | decide | (simp; omega)) | exact rfl))) (by first | assumption | omega | (repeat (first | assumption | exact pv10 | exact pv11 | (apply pv_o; decide; decide) | exact upN_eq | (apply upN_ne; decide) | (apply SV_at; assumption; decide) | exact upA_eq | (apply upA_ne; first | decide | omega) | (apply SA_at; assumption; first | decide | (simp; omega)) | exact rfl))) (by first | assumption | omega | (repeat (first | assumption | exact pv10 | exact pv11 | (apply pv_o; decide; decide) | exact upN_eq | (apply upN_ne; decide) | (apply SV_at; assumption; decide) | exact upA_eq | (apply upA_ne; first | decide | omega) | (apply SA_at; assumption; first | decide | (simp; omega)) | exact rfl)))) rfl rfl (by decide) (Nat.le_of_ble_eq_true rfl) ?_
    first | refine wp_ifb_ne (pc := 22) 27 dX12_quiet_22 (by decide) (fun c22 => ?_) (fun c22 => ?_) | refine wp_if_ne (pc := 22) 27 dX12_quiet_22 (by decide) (by first | omega | exact TI.i5 (by assumption) | exact TI.i3 (by assumption) | exact TI.i2 (by assumption) | exact TI.i1 (by assumption) | exact TI.i0 (by assumption) | exact TI.i4 (by assumption) | exact TI.i6 (by assumption) | exact TI.i7 (by assumption)) (fun c22 => ?_) (fun c22 => ?_)
    ·
      rw [if_neg (show ¬ ¬ ((0 ≤ x ∧ x ≤ 6) ∧ (0 ≤ y ∧ y ≤ 10)) by omega)]
      refine wp_aload_n (pc := 27) dX12_quiet_27 rfl ?_
      refine wp_aload_n (pc := 28) dX12_quiet_28 rfl ?_
      refine wm_get dX12_quiet_29 gf_X12_9 K (by rfl) ?_
      refine wp_bipush (pc := 32) (y := 54) dX12_quiet_32 (by decide) ?_
      refine wp_Vp (pc := 34) dX12_quiet_34 cl_X12_220 (sp_sum5 K (by repeat (first | assumption | exact pv10 | exact pv11 | (apply pv_o; decide; decide) | exact upN_eq | (apply upN_ne; decide) | (apply SV_at; assumption; decide) | exact rfl)) hN (.inl rfl) (by repeat (first | assumption | exact upA_eq | (apply upA_ne; first | decide | omega) | (apply SA_at; assumption; first | decide | (simp; omega)) | exact rfl))) rfl rfl K.1 (by rfl) (by decide) (Nat.le_of_ble_eq_true rfl) ?_
      refine wp_bipush (pc := 37) (y := 16) dX12_quiet_37 (by decide) ?_
      refine wp_icmp_le (pc := 39) 45 dX12_quiet_39 (by decide) (by first | omega | exact TI.i5 (by assumption) | exact TI.i3 (by assumption) | exact TI.i2 (by assumption) | exact TI.i1 (by assumption) | exact TI.i0 (by assumption) | exact TI.i4 (by assumption) | exact TI.i6 (by assumption) | exact TI.i7 (by assumption)) (by first | omega | exact TI.i5 (by assumption) | exact TI.i3 (by assumption) | exact TI.i2 (by assumption) | exact TI.i1 (by assumption) | exact TI.i0 (by assumption) | exact TI.i4 (by assumption) | exact TI.i6 (by assumption) | exact TI.i7 (by assumption)) (fun c39 => ?_) (fun c39 => ?_)
      ·
        rw [if_neg (show ¬ 16 < sm (T 5) N by omega), if_pos (show qok T N x y by omega)]
        obtain ⟨k, rfl⟩ := Int.eq_ofNat_of_zero_le (show 0 ≤ x by omega)
        rw [Int.toNat_natCast]
        obtain ⟨a, b, ha, hb, hg, la, lb, hg1⟩ := qgc_in (k := k) (p := y) hI (by omega) (by omega) (by omega)
        refine wp_iconst (pc := 45) dX12_quiet_45 ?_
        refine wp_istore_n (pc := 46) dX12_quiet_46 (by decide) ?_
        refine wp_ls ?_ (lp_Ref_q1 (V := upN V 6 0) (A := A) (T := T) (x := (k : Int)) (y := y) (fun hp3 F K O hF => ?_) 8 0 (by omega) (by omega) _ (A 21) (by rw [upA_id rfl]; exact K) O (fun j z1 z2 => by omega))
        · repeat' (first | exact LE_0 | refine LE_s rfl ?_ | refine LE_s (I_c (by first | omega | (simp only [sm]; omega))) ?_ | refine LE_s (J_c (by first | omega | exact Int.pow_succ _ _ | exact (Int.pow_succ _ _).symm | exact (Int.pow_zero _).symm | (simp only [sm]; omega))) ?_ | refine LE_n ?_)
        ·
          refine wp_iconst (pc := 74) dX12_quiet_74 ?_
          refine wp_istore_n (pc := 75) dX12_quiet_75 (by decide) ?_
          refine wp_ls ?_ (lp_Ref_q2 (V := upN V 6 0) (A := A) (T := T) (x := (k : Int)) (y := y) hI (by repeat (first | assumption | exact pv10 | exact pv11 | (apply pv_o; decide; decide) | exact upN_eq | (apply upN_ne; decide) | (apply SV_at; assumption; decide) | exact rfl)) mA (by omega) (fun hp4 F4 K O hF4 => ?_) (N + 1) 0 (by omega) (by omega) _ F K O hF)
          · repeat' (first | exact LE_0 | refine LE_s rfl ?_ | refine LE_s (I_c (by first | omega | (simp only [sm]; omega))) ?_ | refine LE_s (J_c (by first | omega | exact Int.pow_succ _ _ | exact (Int.pow_succ _ _).symm | exact (Int.pow_zero _).symm | (simp only [sm]; omega))) ?_ | refine LE_n ?_)
          ·
            refine wp_lcst (pc := 198) (y := 0) dX12_quiet_198 rfl ?_
            refine wp_lstore_n (pc := 199) dX12_quiet_199 (by decide) ?_
            refine wp_iload_n (pc := 200) dX12_quiet_200 rfl ?_
            refine wp_istore (pc := 201) dX12_quiet_201 (by decide) ?_
            refine wp_ls ?_ (lp_Ref_q4 (W := qs y T N) (k := k) (y := y) K (by rw [upA_eq]; exact hF4) (by omega) ?_ (7 - k + 1) 0 (by omega) (by omega))
            · repeat' (first | exact LE_0 | refine LE_s rfl ?_ | refine LE_s (I_c (by first | omega | (simp only [sm]; omega))) ?_ | refine LE_s (J_c (by first | omega | exact Int.pow_succ _ _ | exact (Int.pow_succ _ _).symm | exact (Int.pow_zero _).symm | (simp only [sm]; omega))) ?_ | refine LE_n ?_)
            · rw [ha, hb, hg, show smf (qs y T N) k (7 - k) = (a : Int) from ha]
              refine wp_aload_n (pc := 226) dX12_quiet_226 rfl ?_
              refine wp_lload_n (pc := 227) dX12_quiet_227 rfl ?_
              refine wp_ldc2 (pc := 228) dX12_quiet_228 kc_X12_358 ?_
              refine wp_aload_n (pc := 231) dX12_quiet_231 rfl ?_
              refine wp_aload_n (pc := 232) dX12_quiet_232 rfl ?_
              refine wm_get dX12_quiet_233 gf_X12_9 K (by rfl) ?_
              refine wp_bipush (pc := 236) (y := 54) dX12_quiet_236 (by decide) ?_
              refine wp_Vp (pc := 238) dX12_quiet_238 cl_X12_220 (sp_sum5 K (by repeat (first | assumption | exact pv10 | exact pv11 | (apply pv_o; decide; decide) | exact upN_eq | (apply upN_ne; decide) | (apply SV_at; assumption; decide) | exact rfl)) hN (.inl rfl) (by repeat (first | assumption | exact upA_eq | (apply upA_ne; first | decide | omega) | (apply SA_at; assumption; first | decide | (simp; omega)) | exact rfl))) rfl rfl K.1 (by rfl) (by decide) (Nat.le_of_ble_eq_true rfl) ?_
              refine wp_topE (show sm (T 5) N = ((sm (T 5) N).toNat : Int) by omega) ?_
              refine wp_Sp (pc := 241) dX12_quiet_241 cl_X12_354 (sp_Ref_power (n := (sm (T 5) N).toNat) (by omega)) rfl rfl (by decide) (Nat.le_of_ble_eq_true rfl) ?_
              refine wp_topJ (show (10 : Int) ^ (sm (T 5) N).toNat = (b : Int) from hb) ?_
              refine wp_Vn (pc := 244) dX12_quiet_244 cl_X12_360 (sp_Ref_tellPart K (by omega) (by omega) hg1) rfl rfl K.1 (by rfl) (by decide) (Nat.le_of_ble_eq_true rfl) (fun hp244 e244 => ?_)
              obtain ⟨⟨V244, A244, K, sV244, sA244, hR244⟩, O1⟩ := e244; replace O := SO.tr O O1
              refine wp_iconst (pc := 247) dX12_quiet_247 ?_
              exact wp_ir (pc := 248) dX12_quiet_248 rfl (by decide) (by decide) (by first | rfl | omega) ⟨⟨_, _, _, K, (by repeat (first | assumption | exact pv10 | exact pv11 | (apply pv_o; decide; decide) | exact upN_eq | (apply upN_ne; decide) | (apply SV_at; assumption; decide) | exact rfl)), M.qu (by repeat (first | exact SV.rf | assumption | (apply SV.up1; decide) | (apply SV.tr2; assumption; decide))) (by repeat (first | exact SA.rf | assumption | (apply SA.up1; decide) | (apply SA.tr2; assumption; decide))) (by first | assumption | exact Mrw.z (by repeat (first | assumption | exact pv10 | exact pv11 | (apply pv_o; decide; decide) | exact upN_eq | (apply upN_ne; decide) | (apply SV_at; assumption; decide) | exact rfl)) | exact Mrw.tr (by assumption) (by repeat (first | assumption | exact pv10 | exact pv11 | (apply pv_o; decide; decide) | exact upN_eq | (apply upN_ne; decide) | (apply SV_at; assumption; decide) | exact rfl)) (by repeat (first | assumption | exact upA_eq | (apply upA_ne; first | decide | omega) | (apply SA_at; assumption; first | decide | (simp; omega)) | exact rfl)))⟩, O⟩
      ·
        rw [if_pos (show 16 < sm (T 5) N by omega), if_neg (show ¬ qok T N x y by omega)]
        refine wp_bipush (pc := 42) (y := (-2)) dX12_quiet_42 (by decide) ?_
        exact wp_ir (pc := 44) dX12_quiet_44 rfl (by decide) (by decide) (by first | rfl | omega) ⟨⟨_, _, _, K, (by repeat (first | assumption | exact pv10 | exact pv11 | (apply pv_o; decide; decide) | exact upN_eq | (apply upN_ne; decide) | (apply SV_at; assumption; decide) | exact rfl)), M.qu (by repeat (first | exact SV.rf | assumption | (apply SV.up1; decide) | (apply SV.tr2; assumption; decide))) (by repeat (first | exact SA.rf | assumption | (apply SA.up1; decide) | (apply SA.tr2; assumption; decide))) (by first | assumption | exact Mrw.z (by repeat (first | assumption | exact pv10 | exact pv11 | (apply pv_o; decide; decide) | exact upN_eq | (apply upN_ne; decide) | (apply SV_at; assumption; decide) | exact rfl)) | exact Mrw.tr (by assumption) (by repeat (first | assumption | exact pv10 | exact pv11 | (apply pv_o; decide; decide) | exact upN_eq | (apply upN_ne; decide) | (apply SV_at; assumption; decide) | exact rfl)) (by repeat (first | assumption | exact upA_eq | (apply upA_ne; first | decide | omega) | (apply SA_at; assumption; first | decide | (simp; omega)) | exact rfl)))⟩, O⟩
    ·
      rw [if_pos (show ¬ ((0 ≤ x ∧ x ≤ 6) ∧ (0 ≤ y ∧ y ≤ 10)) by omega), if_neg (show ¬ qok T N x y by omega)]
      refine wp_iconst (pc := 25) dX12_quiet_25 ?_
      exact wp_ir (pc := 26) dX12_quiet_26 rfl (by decide) (by decide) (by first | rfl | omega) ⟨⟨_, _, _, K, (by repeat (first | assumption | exact pv10 | exact pv11 | (apply pv_o; decide; decide) | exact upN_eq | (apply upN_ne; decide) | (apply SV_at; assumption; decide) | exact rfl)), M.qu (by repeat (first | exact SV.rf | assumption | (apply SV.up1; decide) | (apply SV.tr2; assumption; decide))) (by repeat (first | exact SA.rf | assumption | (apply SA.up1; decide) | (apply SA.tr2; assumption; decide))) (by first | assumption | exact Mrw.z (by repeat (first | assumption | exact pv10 | exact pv11 | (apply pv_o; decide; decide) | exact upN_eq | (apply upN_ne; decide) | (apply SV_at; assumption; decide) | exact rfl)) | exact Mrw.tr (by assumption) (by repeat (first | assumption | exact pv10 | exact pv11 | (apply pv_o; decide; decide) | exact upN_eq | (apply upN_ne; decide) | (apply SV_at; assumption; decide) | exact rfl)) (by repeat (first | assumption | exact upA_eq | (apply upA_ne; first | decide | omega) | (apply SA_at; assumption; first | decide | (simp; omega)) | exact rfl)))⟩, O⟩
end MZ_

