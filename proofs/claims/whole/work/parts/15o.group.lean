/-! the reference: groups that are even -/
section MO_
variable {g : GT} {hp hp0 : Hp} {q N n a b s k p D : Nat} {V V2 V3 : Nat → Int} {A A2 A3 : Nat → Int → Int} {rd rl : Value} {i j x v c y z w th : Int} {T T2 : Nat → Int → Int} {l t cs tx rw rw2 rt : List Int} {B G f : Int → Int} {U U2 : List (Nat → Int → Int)} {hs : List (Int × Int)} {ss : List (Int × Int × Int)} {KT : Nat → Option (Nat → Int → Int)} {L L2 : List Nat}
theorem sp_Ref_net (K : ModAt hp q V A rd rl) (m1 : V 1 = (N : Int)) (hN : N ≤ 6) (mA : A 1 = flat T) (hx : 0 ≤ x ∧ x < 6) : Sp g MX12_net (rm 2 0 0) [.ref q, .int (I x)] hp (Pur (.int (I (bal T x N))) hp) := by
  refine Sp_mk rfl (Nat.le_of_ble_eq_true rfl) ?_
  show wp g _ _ _ 0 0 0 [some (.ref q), some (.int (I x))] [] hp
  have O := SO.rf (hp := hp) (lo := q) (hi := q + 25)
  refine wp_aload_n (pc := 0) dX12_net_0 rfl ?_
  refine wp_aload_n (pc := 1) dX12_net_1 rfl ?_
  refine wm_get dX12_net_2 gf_X12_9 K (by rfl) ?_
  refine wp_iload_n (pc := 5) dX12_net_5 rfl ?_
  refine wp_Vp (pc := 6) dX12_net_6 cl_X12_209 (sp_Ref_owedAll K m1 hN (.inl rfl) mA hx) rfl rfl K.1 (by rfl) (by decide) (Nat.le_of_ble_eq_true rfl) ?_
  refine wp_aload_n (pc := 9) dX12_net_9 rfl ?_
  refine wp_aload_n (pc := 10) dX12_net_10 rfl ?_
  refine wm_get dX12_net_11 gf_X12_9 K (by rfl) ?_
  refine wp_iload_n (pc := 14) dX12_net_14 rfl ?_
  refine wp_Vp (pc := 15) dX12_net_15 cl_X12_205 (sp_Ref_owesAll K m1 hN (.inl rfl) mA hx) rfl rfl K.1 (by rfl) (by decide) (Nat.le_of_ble_eq_true rfl) ?_
  refine wp_isub (pc := 18) dX12_net_18 ?_
  exact wp_ir (pc := 19) dX12_net_19 rfl (by decide) (by decide) (by first | rfl | omega) (by first | exact ⟨K, O⟩ | rfl)
theorem lp_Ref_netOf (K : ModAt hp q V A rd rl) (m1 : V 1 = (N : Int)) (hN : N ≤ 6) (mA : A 1 = flat T) (hs6 : s < 64) : ∀ (m i : Nat), N < i + m → i ≤ N → wp g MX12_netOf (rm 3 0 0) (Pur (.int (I (bsm (fun j => bal T j N) N s))) hp) 0 0 4 [some (.ref q), some (.int (I (s : Int))), some (.int (I (bsm (fun j => bal T j N) i s))), some (.int (I (i : Int)))] [] hp := by
  intro m
  induction m with
  | zero => intro i h1 h2; exact absurd h1 (by omega)
  | succ m ih =>
    intro i h1 h2
    refine wp_iload_n (pc := 4) dX12_netOf_4 rfl ?_
    refine wp_aload_n (pc := 5) dX12_netOf_5 rfl ?_
    refine wm_gets dX12_netOf_6 gf_X12_92 K (by rfl) (by repeat (first | assumption | exact pv10 | exact pv11 | (apply pv_o; decide; decide) | exact upN_eq | (apply upN_ne; decide) | (apply SV_at; assumption; decide) | exact rfl)) ?_
    refine wp_icmp_ge (pc := 9) 38 dX12_netOf_9 (by decide) (by first | omega | exact TI.i5 (by assumption) | exact TI.i3 (by assumption) | exact TI.i2 (by assumption) | exact TI.i1 (by assumption) | exact TI.i0 (by assumption) | exact TI.i4 (by assumption) | exact TI.i6 (by assumption) | exact TI.i7 (by assumption)) (by first | omega | exact TI.i5 (by assumption) | exact TI.i3 (by assumption) | exact TI.i2 (by assumption) | exact TI.i1 (by assumption) | exact TI.i0 (by assumption) | exact TI.i4 (by assumption) | exact TI.i6 (by assumption) | exact TI.i7 (by assumption)) (fun c9 => ?_) (fun c9 => ?_)
    ·
      have e : i = N := by omega
      subst e -- go
      refine wp_iload_n (pc := 38) dX12_netOf_38 rfl ?_
      exact wp_ir (pc := 39) dX12_netOf_39 rfl (by decide) (by decide) (by first | rfl | omega) (by first | exact ⟨K, O⟩ | rfl)
    ·
      refine wp_iload_n (pc := 12) dX12_netOf_12 rfl ?_
      refine wp_iload_n (pc := 13) dX12_netOf_13 rfl ?_
      refine wp_iload_n (pc := 14) dX12_netOf_14 rfl ?_
      refine wp_Sp (pc := 15) dX12_netOf_15 cl_X12_227 (sp_Ref_has (s := s) (k := i) (by omega) (by omega)) rfl rfl (by decide) (Nat.le_of_ble_eq_true rfl) ?_
      first | refine wp_ifb_eq (pc := 18) 29 dX12_netOf_18 (by decide) (fun c18 => ?_) (fun c18 => ?_) | refine wp_if_eq (pc := 18) 29 dX12_netOf_18 (by decide) (by first | omega | exact TI.i5 (by assumption) | exact TI.i3 (by assumption) | exact TI.i2 (by assumption) | exact TI.i1 (by assumption) | exact TI.i0 (by assumption) | exact TI.i4 (by assumption) | exact TI.i6 (by assumption) | exact TI.i7 (by assumption)) (fun c18 => ?_) (fun c18 => ?_)
      ·
        have e : bsm (fun j => bal T j N) (i + 1) s = bsm (fun j => bal T j N) i s + 0 := by show sm _ i + (if _ then _ else _) = _; rw [if_neg (by rw [Int.toNat_natCast]; exact c18)]; rfl
        skip -- go
        refine wp_iconst (pc := 29) dX12_netOf_29 ?_
        refine wp_iadd (pc := 30) dX12_netOf_30 ?_
        rw [← e]
        refine wp_istore_n (pc := 31) dX12_netOf_31 (by decide) ?_
        refine wp_iinc (pc := 32) dX12_netOf_32 rfl (by decide) ?_
        refine wp_goto (pc := 35) 4 dX12_netOf_35 (by decide) ?_
        refine wp_ls ?_ (ih (i + 1) (by omega) (by omega))
        · repeat' (first | exact LE_0 | refine LE_s rfl ?_ | refine LE_s (I_c (by first | omega | (simp only [sm]; omega))) ?_ | refine LE_s (J_c (by first | omega | exact Int.pow_succ _ _ | exact (Int.pow_succ _ _).symm | exact (Int.pow_zero _).symm | (simp only [sm]; omega))) ?_ | refine LE_n ?_)
      ·
        have e : bsm (fun j => bal T j N) (i + 1) s = bsm (fun j => bal T j N) i s + bal T (i : Int) N := by show sm _ i + (if _ then _ else _) = _; rw [if_pos (by rw [Int.toNat_natCast]; exact c18), Int.toNat_natCast]; rfl
        skip -- go
        refine wp_aload_n (pc := 21) dX12_netOf_21 rfl ?_
        refine wp_iload_n (pc := 22) dX12_netOf_22 rfl ?_
        refine wp_Vp (pc := 23) dX12_netOf_23 cl_X12_306 (sp_Ref_net K m1 hN mA (by omega)) rfl rfl K.1 (by rfl) (by decide) (Nat.le_of_ble_eq_true rfl) ?_
        refine wp_goto (pc := 26) 30 dX12_netOf_26 (by decide) ?_
        refine wp_iadd (pc := 30) dX12_netOf_30 ?_
        rw [← e]
        refine wp_istore_n (pc := 31) dX12_netOf_31 (by decide) ?_
        refine wp_iinc (pc := 32) dX12_netOf_32 rfl (by decide) ?_
        refine wp_goto (pc := 35) 4 dX12_netOf_35 (by decide) ?_
        refine wp_ls ?_ (ih (i + 1) (by omega) (by omega))
        · repeat' (first | exact LE_0 | refine LE_s rfl ?_ | refine LE_s (I_c (by first | omega | (simp only [sm]; omega))) ?_ | refine LE_s (J_c (by first | omega | exact Int.pow_succ _ _ | exact (Int.pow_succ _ _).symm | exact (Int.pow_zero _).symm | (simp only [sm]; omega))) ?_ | refine LE_n ?_)
theorem sp_Ref_netOf (K : ModAt hp q V A rd rl) (m1 : V 1 = (N : Int)) (hN : N ≤ 6) (mA : A 1 = flat T) (hs6 : s < 64) : Sp g MX12_netOf (rm 3 0 0) [.ref q, .int (I (s : Int))] hp (Pur (.int (I (bsm (fun j => bal T j N) N s))) hp) := by
  refine Sp_mk rfl (Nat.le_of_ble_eq_true rfl) ?_
  show wp g _ _ _ 0 0 0 [some (.ref q), some (.int (I (s : Int))), none, none] [] hp
  have O := SO.rf (hp := hp) (lo := q) (hi := q + 25)
  refine wp_iconst (pc := 0) dX12_netOf_0 ?_
  refine wp_istore_n (pc := 1) dX12_netOf_1 (by decide) ?_
  refine wp_iconst (pc := 2) dX12_netOf_2 ?_
  refine wp_istore_n (pc := 3) dX12_netOf_3 (by decide) ?_
  refine wp_ls ?_ (lp_Ref_netOf K m1 hN mA hs6 (N + 1) 0 (by omega) (by omega))
  repeat' (first | exact LE_0 | refine LE_s rfl ?_ | refine LE_s (I_c (by first | omega | (simp only [sm]; omega))) ?_ | refine LE_s (J_c (by first | omega | exact Int.pow_succ _ _ | exact (Int.pow_succ _ _).symm | exact (Int.pow_zero _).symm | (simp only [sm]; omega))) ?_ | refine LE_n ?_)
abbrev gcn (B : Int → Int) (s p : Nat) : Prop := andn p s = 0 ∧ ¬ p &&& low s = 0 ∧ B (p : Int) = 0
/-- the best of the parts s, s - 1 .. s - d + 1 -/
def mdd (B G : Int → Int) (s : Nat) : Nat → Int
  | 0 => -1000000
  | d + 1 => if gcn B s (s - d) then mx (mdd B G s d) (1 + G ((andn s (s - d) : Nat) : Int)) else mdd B G s d
def gmt (B : Int → Int) : Nat → Int → Int
  | 0 => fun _ => 0
  | n + 1 => fun i => if i ≤ (n : Int) then gmt B n i else mdd B (gmt B n) (n + 1) (n + 1)
theorem mdd_in {B G : Int → Int} {h : Int} (hG : ∀ i, -1000000 ≤ G i ∧ G i ≤ h) (hh : 0 ≤ h) (s : Nat) : ∀ d, -1000000 ≤ mdd B G s d ∧ mdd B G s d ≤ h + 1
  | 0 => by unfold mdd; omega
  | d + 1 => by
    have h1 := mdd_in (B := B) hG hh s d
    have h2 := hG ((andn s (s - d) : Nat) : Int)
    unfold mdd mx
    split
    · split <;> omega
    · exact h1
theorem gmt_in (B : Int → Int) : ∀ (n : Nat) (i : Int), -1000000 ≤ gmt B n i ∧ gmt B n i ≤ n
  | 0, i => by unfold gmt; omega
  | n + 1, i => by
    have h1 := gmt_in B n i
    have h2 := mdd_in (B := B) (G := gmt B n) (h := n) (gmt_in B n) (by omega) (n + 1) (n + 1)
    unfold gmt
    split <;> omega
theorem gmt_lo (B : Int → Int) {m : Nat} : ∀ (n : Nat) (i : Int), i ≤ (m : Int) → m ≤ n → gmt B n i = gmt B m i
  | 0, i, h, hm => by rw [show m = 0 by omega]
  | n + 1, i, h, hm => by
    by_cases z : m = n + 1
    · rw [z]
    · show (if i ≤ (n : Int) then gmt B n i else _) = _
      rw [if_pos (by omega)]
      exact gmt_lo B n i h (by omega)
/-- between a part and the next one lies no part -/
theorem nxt_part {s p r : Nat} (hs : s < 64) (hp0 : 0 < p) (hp : andn p s = 0) (hps : p ≤ s) (h1 : (p - 1) &&& s < r) (h2 : r < p) : ¬ andn r s = 0 := by
  have h : ∀ s p : Fin 64, 0 < (p : Nat) → andn (p : Nat) (s : Nat) = 0 → ∀ r : Fin 64, ((p : Nat) - 1) &&& (s : Nat) < (r : Nat) → (r : Nat) < (p : Nat) → ¬ andn (r : Nat) (s : Nat) = 0 := by decide +kernel
  exact h ⟨s, hs⟩ ⟨p, by omega⟩ hp0 hp ⟨r, by omega⟩ h1 h2
theorem sub_and {s p : Nat} (hs : s < 64) (hp : p < 64) : andn (p &&& s) s = 0 := by
  have h : ∀ s p : Fin 64, andn ((p : Nat) &&& (s : Nat)) (s : Nat) = 0 := by decide +kernel
  exact h ⟨s, hs⟩ ⟨p, hp⟩
theorem mdd_skip {m : Nat} : ∀ d : Nat, m ≤ d → (∀ e, m ≤ e → e < d → ¬ gcn B s (s - e)) → mdd B G s d = mdd B G s m
  | 0, h, _ => by rw [show m = 0 by omega]
  | d + 1, h, hz => by
    by_cases z : m = d + 1
    · rw [z]
    · show (if gcn B s (s - d) then _ else _) = _
      rw [if_neg (hz d (by omega) (by omega))]
      exact mdd_skip d (by omega) (fun e a b => hz e a (by omega))
theorem mdd_step {p : Nat} (hs : s < 64) (h0 : 0 < p) (hp : andn p s = 0) (hps : p ≤ s) : mdd B G s (s - ((p - 1) &&& s)) = if gcn B s p then mx (mdd B G s (s - p)) (1 + G ((andn s p : Nat) : Int)) else mdd B G s (s - p) := by
  have hl : (p - 1) &&& s ≤ p - 1 := Nat.and_le_left
  rw [mdd_skip (m := s - p + 1) (s - ((p - 1) &&& s)) (by omega) (fun e a b => fun z => nxt_part hs h0 hp hps (by omega) (by omega) z.1)]
  show (if gcn B s (s - (s - p)) then _ else _) = _
  rw [show s - (s - p) = p by omega]
theorem bsm_r (hI : TI T N) : -4000 ≤ bsm (fun j => bal T j N) N s ∧ bsm (fun j => bal T j N) N s ≤ 4000 := bsm_in (fun i => bal_in hI) hI.men.2
theorem lp_lg2 (hI : TI T N) (hv1 : V 1 = (N : Int)) (mA : A 1 = flat T) (hs1 : 0 < s) (hs2 : s < 2 ^ N) (hG : ∀ i, -1000000 ≤ G i ∧ G i ≤ 64) {Q : Option Value → Hp → Prop} (Kn : ∀ hp3 F, ModAt hp3 q V (upA A 13 F) rd rl → SO hp hp3 q (q + 25) → F (s : Int) = mdd (bsI T N) G s s → (∀ j : Nat, j < s → F j = G j) → wp g MX12_layGroups (rm 4 0 0) Q 0 0 87 [some (.ref q), some (.int (I (s : Int))), none, none] [] hp3) : ∀ (m i : Nat), s < i + m → i ≤ s → ∀ (p : Nat) (hp2 : Hp) (F : Int → Int) (K : ModAt hp2 q V (upA A 13 F) rd rl) (O : SO hp hp2 q (q + 25)) (hp0 : p ≤ s - i) (hpn : andn p s = 0) (hF : F (s : Int) = mdd (bsI T N) G s (s - p)) (hF2 : ∀ j : Nat, j < s → F j = G j), wp g MX12_layGroups (rm 4 0 0) Q 0 0 33 [some (.ref q), some (.int (I (s : Int))), some (.int (I ((low s : Nat) : Int))), some (.int (I (p : Int)))] [] hp2 := by
  intro m
  induction m with
  | zero => intro i h1 h2; exact absurd h1 (by omega)
  | succ m ih =>
    intro i h1 h2 p hp2 F K O hp0 hpn hF hF2
    have hN := hI.men.2
    have hp6 := pow64 hN
    have q1 := mdd_in (B := bsI T N) (G := G) (h := 64) hG (by decide) s (s - p)
    have q2 := bsm_r (s := p) hI
    have hll := low_le (a := s)
    refine wp_iload_n (pc := 33) dX12_layGroups_33 rfl ?_
    refine wp_if_le (pc := 34) 87 dX12_layGroups_34 (by decide) (by first | omega | exact TI.i5 (by assumption) | exact TI.i3 (by assumption) | exact TI.i2 (by assumption) | exact TI.i1 (by assumption) | exact TI.i0 (by assumption) | exact TI.i4 (by assumption) | exact TI.i6 (by assumption) | exact TI.i7 (by assumption)) (fun c34 => ?_) (fun c34 => ?_)
    ·
      have e : p = 0 := by omega
      subst e
      refine wp_ls ?_ (Kn hp2 F K O hF hF2)
      repeat' (first | exact LE_0 | refine LE_s rfl ?_ | refine LE_s (I_c (by first | omega | (simp only [sm]; omega))) ?_ | refine LE_s (J_c (by first | omega | exact Int.pow_succ _ _ | exact (Int.pow_succ _ _).symm | exact (Int.pow_zero _).symm | (simp only [sm]; omega))) ?_ | refine LE_n ?_)
    ·
      have hst := mdd_step (B := bsI T N) (G := G) (s := s) (p := p) (by omega) (by omega) hpn (by omega)
      have hsub : andn ((p - 1) &&& s) s = 0 := sub_and (by omega) (by omega)
      have hle : (p - 1) &&& s ≤ p - 1 := Nat.and_le_left
      have eB : bsI T N ((p : Nat) : Int) = bsm (fun j => bal T j N) N p := by unfold bsI; rw [Int.toNat_natCast]
      have hal := Nat.and_le_left (n := p) (m := low s)
      have han := andn_le (a := s) (b := p) (by omega)
      have hgg := hG ((andn s p : Nat) : Int)
      skip -- go
      refine wp_iload_n (pc := 37) dX12_layGroups_37 rfl ?_
      refine wp_iload_n (pc := 38) dX12_layGroups_38 rfl ?_
      refine wp_iand (pc := 39) dX12_layGroups_39 I_and ?_
      first | refine wp_ifb_eq (pc := 40) 78 dX12_layGroups_40 (by decide) (fun c40 => ?_) (fun c40 => ?_) | refine wp_if_eq (pc := 40) 78 dX12_layGroups_40 (by decide) (by first | omega | exact TI.i5 (by assumption) | exact TI.i3 (by assumption) | exact TI.i2 (by assumption) | exact TI.i1 (by assumption) | exact TI.i0 (by assumption) | exact TI.i4 (by assumption) | exact TI.i6 (by assumption) | exact TI.i7 (by assumption)) (fun c40 => ?_) (fun c40 => ?_)
      ·
        rw [if_neg (fun z => z.2.1 (by omega))] at hst -- go
        refine wp_iload_n (pc := 78) dX12_layGroups_78 rfl ?_
        refine wp_iconst (pc := 79) dX12_layGroups_79 ?_
        refine wp_isub (pc := 80) dX12_layGroups_80 ?_
        refine wp_iload_n (pc := 81) dX12_layGroups_81 rfl ?_
        refine wp_iand (pc := 82) dX12_layGroups_82 (show I ((p : Int) - 1) &&& I (s : Int) = I (((p - 1) &&& s : Nat) : Int) by rw [show (p : Int) - 1 = ((p - 1 : Nat) : Int) by omega]; exact I_and) ?_
        refine wp_istore_n (pc := 83) dX12_layGroups_83 (by decide) ?_
        refine wp_goto (pc := 84) 33 dX12_layGroups_84 (by decide) ?_
        first
        | refine wp_ls ?_ (ih (i + 1) (by omega) (by omega) ((p - 1) &&& s) _ _ K O (by omega) hsub (by rw [hst]; exact hF) hF2)
          repeat' (first | exact LE_0 | refine LE_s rfl ?_ | refine LE_s (I_c (by first | omega | (simp only [sm]; omega))) ?_ | refine LE_s (J_c (by first | omega | exact Int.pow_succ _ _ | exact (Int.pow_succ _ _).symm | exact (Int.pow_zero _).symm | (simp only [sm]; omega))) ?_ | refine LE_n ?_)
        | refine wp_ls ?_ (ih (i + 1) (by omega) (by omega) ((p - 1) &&& s) _ _ K O (by omega) hsub (by rw [hst, updI_eq]) (fun j hj => by rw [updI_ne (by omega)]; exact hF2 j hj))
          repeat' (first | exact LE_0 | refine LE_s rfl ?_ | refine LE_s (I_c (by first | omega | (simp only [sm]; omega))) ?_ | refine LE_s (J_c (by first | omega | exact Int.pow_succ _ _ | exact (Int.pow_succ _ _).symm | exact (Int.pow_zero _).symm | (simp only [sm]; omega))) ?_ | refine LE_n ?_)
      ·
        refine wp_aload_n (pc := 43) dX12_layGroups_43 rfl ?_
        refine wp_iload_n (pc := 44) dX12_layGroups_44 rfl ?_
        refine wp_Vp (pc := 45) dX12_layGroups_45 cl_X12_309 (sp_Ref_netOf (s := p) K hv1 hN (upA_ne (by decide) mA) (by omega)) rfl rfl K.1 (by rfl) (by decide) (Nat.le_of_ble_eq_true rfl) ?_
        first | refine wp_ifb_ne (pc := 48) 78 dX12_layGroups_48 (by decide) (fun c48 => ?_) (fun c48 => ?_) | refine wp_if_ne (pc := 48) 78 dX12_layGroups_48 (by decide) (by first | omega | exact TI.i5 (by assumption) | exact TI.i3 (by assumption) | exact TI.i2 (by assumption) | exact TI.i1 (by assumption) | exact TI.i0 (by assumption) | exact TI.i4 (by assumption) | exact TI.i6 (by assumption) | exact TI.i7 (by assumption)) (fun c48 => ?_) (fun c48 => ?_)
        ·
          rw [if_neg (fun z => c48 (by rw [← eB]; exact z.2.2))] at hst -- go
          refine wp_iload_n (pc := 78) dX12_layGroups_78 rfl ?_
          refine wp_iconst (pc := 79) dX12_layGroups_79 ?_
          refine wp_isub (pc := 80) dX12_layGroups_80 ?_
          refine wp_iload_n (pc := 81) dX12_layGroups_81 rfl ?_
          refine wp_iand (pc := 82) dX12_layGroups_82 (show I ((p : Int) - 1) &&& I (s : Int) = I (((p - 1) &&& s : Nat) : Int) by rw [show (p : Int) - 1 = ((p - 1 : Nat) : Int) by omega]; exact I_and) ?_
          refine wp_istore_n (pc := 83) dX12_layGroups_83 (by decide) ?_
          refine wp_goto (pc := 84) 33 dX12_layGroups_84 (by decide) ?_
          first
          | refine wp_ls ?_ (ih (i + 1) (by omega) (by omega) ((p - 1) &&& s) _ _ K O (by omega) hsub (by rw [hst]; exact hF) hF2)
            repeat' (first | exact LE_0 | refine LE_s rfl ?_ | refine LE_s (I_c (by first | omega | (simp only [sm]; omega))) ?_ | refine LE_s (J_c (by first | omega | exact Int.pow_succ _ _ | exact (Int.pow_succ _ _).symm | exact (Int.pow_zero _).symm | (simp only [sm]; omega))) ?_ | refine LE_n ?_)
          | refine wp_ls ?_ (ih (i + 1) (by omega) (by omega) ((p - 1) &&& s) _ _ K O (by omega) hsub (by rw [hst, updI_eq]) (fun j hj => by rw [updI_ne (by omega)]; exact hF2 j hj))
            repeat' (first | exact LE_0 | refine LE_s rfl ?_ | refine LE_s (I_c (by first | omega | (simp only [sm]; omega))) ?_ | refine LE_s (J_c (by first | omega | exact Int.pow_succ _ _ | exact (Int.pow_succ _ _).symm | exact (Int.pow_zero _).symm | (simp only [sm]; omega))) ?_ | refine LE_n ?_)
        ·
          rw [if_pos ⟨hpn, fun z => c40 (by rw [z]; rfl), by rw [eB]; exact c48⟩] at hst
          have hlt : andn s p < s := andn_lt (by omega) (by omega) (fun z => c40 (by rw [z]; rfl))
          skip -- go
          refine wp_aload_n (pc := 51) dX12_layGroups_51 rfl ?_
          refine wm_get dX12_layGroups_52 gf_X12_48 K (by rfl) ?_
          refine wp_iload_n (pc := 55) dX12_layGroups_55 rfl ?_
          refine wp_aload_n (pc := 56) dX12_layGroups_56 rfl ?_
          refine wm_get dX12_layGroups_57 gf_X12_48 K (by rfl) ?_
          refine wp_iload_n (pc := 60) dX12_layGroups_60 rfl ?_
          refine wm_iald dX12_layGroups_61 K (by rfl) (by decide) (by decide) (by decide) (by omega) (by omega) upA_eq hF ?_
          refine wp_iconst (pc := 62) dX12_layGroups_62 ?_
          refine wp_aload_n (pc := 63) dX12_layGroups_63 rfl ?_
          refine wm_get dX12_layGroups_64 gf_X12_48 K (by rfl) ?_
          refine wp_iload_n (pc := 67) dX12_layGroups_67 rfl ?_
          refine wp_iload_n (pc := 68) dX12_layGroups_68 rfl ?_
          refine wp_iconst (pc := 69) dX12_layGroups_69 ?_
          refine wp_ixor (pc := 70) dX12_layGroups_70 rfl ?_
          refine wp_iand (pc := 71) dX12_layGroups_71 (I_andn (by omega) (by omega)) ?_
          refine wm_iald dX12_layGroups_72 K (by rfl) (by decide) (by decide) (by decide) (by omega) (by omega) upA_eq (hF2 _ hlt) ?_
          refine wp_iadd (pc := 73) dX12_layGroups_73 ?_
          refine wp_max (pc := 74) dX12_layGroups_74 ml_X12_199 ma_max_s ma_ini ma_max_c (by decide) (by decide) (by decide) (by decide) (Nat.le_of_ble_eq_true rfl) (by first | omega | exact TI.i5 (by assumption) | exact TI.i3 (by assumption) | exact TI.i2 (by assumption) | exact TI.i1 (by assumption) | exact TI.i0 (by assumption) | exact TI.i4 (by assumption) | exact TI.i6 (by assumption) | exact TI.i7 (by assumption)) (by first | omega | exact TI.i5 (by assumption) | exact TI.i3 (by assumption) | exact TI.i2 (by assumption) | exact TI.i1 (by assumption) | exact TI.i0 (by assumption) | exact TI.i4 (by assumption) | exact TI.i6 (by assumption) | exact TI.i7 (by assumption)) ?_
          refine wm_iast dX12_layGroups_77 K O (by first | rfl | assumption) (by first | decide | omega) (by first | decide | omega) (by decide) (by omega) (by omega) (by repeat (first | assumption | exact upA_eq | (apply upA_ne; first | decide | omega) | (apply SA_at; assumption; first | decide | (simp; omega)) | exact rfl)) (by first | exact flatv5 (by omega) (by omega) | exact flatv3 (by omega) (by omega) | exact flatv2 (by omega) (by omega) | exact flatv6 (by omega) (by omega) | exact flatv4 (by omega) (by omega) | exact flatw1 (by omega) (by omega) | exact flatw0 (by omega) (by omega) | exact flatw7 | exact rfl) (fun hp K O => ?_)
          rw [upA_upA] at K
          refine wp_iload_n (pc := 78) dX12_layGroups_78 rfl ?_
          refine wp_iconst (pc := 79) dX12_layGroups_79 ?_
          refine wp_isub (pc := 80) dX12_layGroups_80 ?_
          refine wp_iload_n (pc := 81) dX12_layGroups_81 rfl ?_
          refine wp_iand (pc := 82) dX12_layGroups_82 (show I ((p : Int) - 1) &&& I (s : Int) = I (((p - 1) &&& s : Nat) : Int) by rw [show (p : Int) - 1 = ((p - 1 : Nat) : Int) by omega]; exact I_and) ?_
          refine wp_istore_n (pc := 83) dX12_layGroups_83 (by decide) ?_
          refine wp_goto (pc := 84) 33 dX12_layGroups_84 (by decide) ?_
          first
          | refine wp_ls ?_ (ih (i + 1) (by omega) (by omega) ((p - 1) &&& s) _ _ K O (by omega) hsub (by rw [hst]; exact hF) hF2)
            repeat' (first | exact LE_0 | refine LE_s rfl ?_ | refine LE_s (I_c (by first | omega | (simp only [sm]; omega))) ?_ | refine LE_s (J_c (by first | omega | exact Int.pow_succ _ _ | exact (Int.pow_succ _ _).symm | exact (Int.pow_zero _).symm | (simp only [sm]; omega))) ?_ | refine LE_n ?_)
          | refine wp_ls ?_ (ih (i + 1) (by omega) (by omega) ((p - 1) &&& s) _ _ K O (by omega) hsub (by rw [hst, updI_eq]) (fun j hj => by rw [updI_ne (by omega)]; exact hF2 j hj))
            repeat' (first | exact LE_0 | refine LE_s rfl ?_ | refine LE_s (I_c (by first | omega | (simp only [sm]; omega))) ?_ | refine LE_s (J_c (by first | omega | exact Int.pow_succ _ _ | exact (Int.pow_succ _ _).symm | exact (Int.pow_zero _).symm | (simp only [sm]; omega))) ?_ | refine LE_n ?_)
theorem lp_lg1 (hI : TI T N) (hv1 : V 1 = (N : Int)) (mA : A 1 = flat T) : ∀ (m i : Nat), (2 ^ N - 1) < i + m → i ≤ (2 ^ N - 1) → ∀ (hp2 : Hp) (F : Int → Int) (K : ModAt hp2 q V (upA A 13 F) rd rl) (O : SO hp hp2 q (q + 25)) (hF : ∀ j : Nat, j ≤ i → F j = gmt (bsI T N) i j), wp g MX12_layGroups (rm 4 0 0) (Vod (fun hp3 => (∃ F, ModAt hp3 q V (upA A 13 F) rd rl ∧ ∀ j : Nat, j < 2 ^ N → F j = gmt (bsI T N) (2 ^ N - 1) j) ∧ SO hp hp3 q (q + 25))) 0 0 9 [some (.ref q), some (.int (I ((i + 1 : Nat) : Int))), none, none] [] hp2 := by
  intro m
  induction m with
  | zero => intro i h1 h2; exact absurd h1 (by omega)
  | succ m ih =>
    intro i h1 h2 hp2 F K O hF
    have hN := hI.men.2
    have hp6 := pow64 hN
    refine wp_iload_n (pc := 9) dX12_layGroups_9 rfl ?_
    refine wp_aload_n (pc := 10) dX12_layGroups_10 rfl ?_
    refine wp_Vp (pc := 11) dX12_layGroups_11 cl_X12_293 (sp_Ref_all (by first | assumption | omega | (repeat (first | assumption | exact pv10 | exact pv11 | (apply pv_o; decide; decide) | exact upN_eq | (apply upN_ne; decide) | (apply SV_at; assumption; decide) | exact upA_eq | (apply upA_ne; first | decide | omega) | (apply SA_at; assumption; first | decide | (simp; omega)) | exact rfl))) (by first | assumption | omega | (repeat (first | assumption | exact pv10 | exact pv11 | (apply pv_o; decide; decide) | exact upN_eq | (apply upN_ne; decide) | (apply SV_at; assumption; decide) | exact upA_eq | (apply upA_ne; first | decide | omega) | (apply SA_at; assumption; first | decide | (simp; omega)) | exact rfl))) (by first | assumption | omega | (repeat (first | assumption | exact pv10 | exact pv11 | (apply pv_o; decide; decide) | exact upN_eq | (apply upN_ne; decide) | (apply SV_at; assumption; decide) | exact upA_eq | (apply upA_ne; first | decide | omega) | (apply SA_at; assumption; first | decide | (simp; omega)) | exact rfl)))) rfl rfl K.1 (by rfl) (by decide) (Nat.le_of_ble_eq_true rfl) ?_
    refine wp_icmp_gt (pc := 14) 93 dX12_layGroups_14 (by decide) (by first | omega | exact TI.i5 (by assumption) | exact TI.i3 (by assumption) | exact TI.i2 (by assumption) | exact TI.i1 (by assumption) | exact TI.i0 (by assumption) | exact TI.i4 (by assumption) | exact TI.i6 (by assumption) | exact TI.i7 (by assumption)) (by first | omega | exact TI.i5 (by assumption) | exact TI.i3 (by assumption) | exact TI.i2 (by assumption) | exact TI.i1 (by assumption) | exact TI.i0 (by assumption) | exact TI.i4 (by assumption) | exact TI.i6 (by assumption) | exact TI.i7 (by assumption)) (fun c14 => ?_) (fun c14 => ?_)
    ·
      have e : i = 2 ^ N - 1 := by omega
      subst e -- go
      exact wp_vr (pc := 93) dX12_layGroups_93 rfl (by decide) (by decide) ⟨⟨F, K, fun j hj => hF j (by omega)⟩, O⟩
    ·
      refine wp_aload_n (pc := 17) dX12_layGroups_17 rfl ?_
      refine wm_get dX12_layGroups_18 gf_X12_48 K (by rfl) ?_
      refine wp_iload_n (pc := 21) dX12_layGroups_21 rfl ?_
      refine wp_ldcw (pc := 22) (y := -1000000) dX12_layGroups_22 kc_X12_296 ?_
      refine wm_iast dX12_layGroups_25 K O (by first | rfl | assumption) (by first | decide | omega) (by first | decide | omega) (by decide) (by omega) (by omega) (by repeat (first | assumption | exact upA_eq | (apply upA_ne; first | decide | omega) | (apply SA_at; assumption; first | decide | (simp; omega)) | exact rfl)) rfl (fun hp K O => ?_)
      rw [upA_upA] at K
      refine wp_iload_n (pc := 26) dX12_layGroups_26 rfl ?_
      refine wp_iload_n (pc := 27) dX12_layGroups_27 rfl ?_
      refine wp_ineg (pc := 28) dX12_layGroups_28 ?_
      refine wp_iand (pc := 29) dX12_layGroups_29 (I_low (by omega) (by omega)) ?_
      refine wp_istore_n (pc := 30) dX12_layGroups_30 (by decide) ?_
      refine wp_iload_n (pc := 31) dX12_layGroups_31 rfl ?_
      refine wp_istore_n (pc := 32) dX12_layGroups_32 (by decide) ?_
      refine wp_ls ?_ (lp_lg2 (s := i + 1) (G := gmt (bsI T N) i) hI hv1 mA (by omega) (by omega) (fun x => by have := gmt_in (bsI T N) i x; omega) (fun hp3 F3 K3 O3 h3 h4 => ?_) (i + 1 + 1) 0 (by omega) (by omega) (i + 1) _ _ K O (by omega) (by have := sub_and (s := i + 1) (p := i + 1) (by omega) (by omega); rwa [Nat.and_self] at this) (by rw [updI_eq, Nat.sub_self]; rfl) (fun j hj => by rw [updI_ne (by omega)]; exact hF j (by omega)))
      · repeat' (first | exact LE_0 | refine LE_s rfl ?_ | refine LE_s (I_c (by first | omega | (simp only [sm]; omega))) ?_ | refine LE_s (J_c (by first | omega | exact Int.pow_succ _ _ | exact (Int.pow_succ _ _).symm | exact (Int.pow_zero _).symm | (simp only [sm]; omega))) ?_ | refine LE_n ?_)
      · refine wp_iinc (pc := 87) dX12_layGroups_87 rfl (by decide) ?_
        refine wp_goto (pc := 90) 9 dX12_layGroups_90 (by decide) ?_
        refine wp_ls ?_ (ih (i + 1) (by omega) (by omega) _ F3 K3 O3 (fun j hj => ?_))
        · repeat' (first | exact LE_0 | refine LE_s rfl ?_ | refine LE_s (I_c (by first | omega | (simp only [sm]; omega))) ?_ | refine LE_s (J_c (by first | omega | exact Int.pow_succ _ _ | exact (Int.pow_succ _ _).symm | exact (Int.pow_zero _).symm | (simp only [sm]; omega))) ?_ | refine LE_n ?_)
        · show F3 j = if (j : Int) ≤ (i : Int) then _ else _
          by_cases z : j = i + 1
          · rw [z, if_neg (by omega), h3]
          · rw [if_pos (by omega), h4 j (by omega)]
theorem sp_Ref_layGroups (K : ModAt hp q V A rd rl) (hI : TI T N) (hv1 : V 1 = (N : Int)) (mA : A 1 = flat T) : Sp g MX12_layGroups (rm 4 0 0) [.ref q] hp (Vod (fun hp2 => (∃ F, ModAt hp2 q V (upA A 13 F) rd rl ∧ ∀ j : Nat, j < 2 ^ N → F j = gmt (bsI T N) (2 ^ N - 1) j) ∧ SO hp hp2 q (q + 25))) := by
  have hN := hI.men.2
  have hp6 := pow64 hN
  refine Sp_mk rfl (Nat.le_of_ble_eq_true rfl) ?_
  show wp g _ _ _ 0 0 0 [some (.ref q), none, none, none] [] hp
  have O := SO.rf (hp := hp) (lo := q) (hi := q + 25)
  refine wp_aload_n (pc := 0) dX12_layGroups_0 rfl ?_
  refine wm_get dX12_layGroups_1 gf_X12_48 K (by rfl) ?_
  refine wp_iconst (pc := 4) dX12_layGroups_4 ?_
  refine wp_iconst (pc := 5) dX12_layGroups_5 ?_
  refine wm_iast dX12_layGroups_6 K O (by first | rfl | assumption) (by first | decide | omega) (by first | decide | omega) (by decide) (by omega) (by omega) (by repeat (first | assumption | exact upA_eq | (apply upA_ne; first | decide | omega) | (apply SA_at; assumption; first | decide | (simp; omega)) | exact rfl)) rfl (fun hp K O => ?_)
  refine wp_iconst (pc := 7) dX12_layGroups_7 ?_
  refine wp_istore_n (pc := 8) dX12_layGroups_8 (by decide) ?_
  refine wp_ls ?_ (lp_lg1 hI hv1 mA (2 ^ N - 1 + 1) 0 (by omega) (by omega) _ _ K O (fun j hj => by rw [show j = 0 by omega]; exact updI_eq))
  repeat' (first | exact LE_0 | refine LE_s rfl ?_ | refine LE_s (I_c (by first | omega | (simp only [sm]; omega))) ?_ | refine LE_s (J_c (by first | omega | exact Int.pow_succ _ _ | exact (Int.pow_succ _ _).symm | exact (Int.pow_zero _).symm | (simp only [sm]; omega))) ?_ | refine LE_n ?_)
/-! the same groups as the class's -/
theorem mdd_ge {p : Nat} : ∀ d, s - d < p → p ≤ s → gcn B s p → 1 + G ((andn s p : Nat) : Int) ≤ mdd B G s d
  | 0, h, h2, _ => by omega
  | d + 1, h, h2, hc => by
    show _ ≤ (if gcn B s (s - d) then _ else _)
    by_cases z : p = s - d
    · subst z
      rw [if_pos hc]
      unfold mx
      split <;> omega
    · have := mdd_ge d (by omega) h2 hc
      split
      · unfold mx; split <;> omega
      · exact this
theorem mdd_at : ∀ d, mdd B G s d = -1000000 ∨ ∃ p, p ≤ s ∧ gcn B s p ∧ mdd B G s d = 1 + G ((andn s p : Nat) : Int)
  | 0 => .inl rfl
  | d + 1 => by
    have ih := mdd_at d
    by_cases z : gcn B s (s - d)
    · have e : mdd B G s (d + 1) = mx (mdd B G s d) (1 + G ((andn s (s - d) : Nat) : Int)) := if_pos z
      rw [e]
      unfold mx
      split
      · exact .inr ⟨s - d, by omega, z, rfl⟩
      · exact ih
    · have e : mdd B G s (d + 1) = mdd B G s d := if_neg z
      rw [e]
      exact ih
theorem gac_ge {p : Nat} : ∀ d, p < d → gcn B s p → 1 + G ((andn s p : Nat) : Int) ≤ gac B G s d
  | d + 1, h, hc => by
    show _ ≤ (if andn d s = 0 ∧ ¬ d &&& low s = 0 ∧ B (d : Int) = 0 then _ else _)
    by_cases z : p = d
    · subst z
      rw [if_pos hc]
      unfold mx
      split <;> omega
    · have := gac_ge d (by omega) hc
      split
      · unfold mx; split <;> omega
      · exact this
theorem gac_at : ∀ d, gac B G s d = 0 ∨ ∃ p, p < d ∧ gcn B s p ∧ gac B G s d = 1 + G ((andn s p : Nat) : Int)
  | 0 => .inl rfl
  | d + 1 => by
    have ih := gac_at d
    by_cases z : gcn B s d
    · have e : gac B G s (d + 1) = mx (gac B G s d) (1 + G ((andn s d : Nat) : Int)) := if_pos z
      rw [e]
      unfold mx
      split
      · exact .inr ⟨d, by omega, z, rfl⟩
      · rcases ih with h | ⟨p, h1, h2, h3⟩
        · exact .inl h
        · exact .inr ⟨p, by omega, h2, h3⟩
    · have e : gac B G s (d + 1) = gac B G s d := if_neg z
      rw [e]
      rcases ih with h | ⟨p, h1, h2, h3⟩
      · exact .inl h
      · exact .inr ⟨p, by omega, h2, h3⟩
/-- of an even set, with even parts alone -/
theorem mdd_gac {G' : Int → Int} (hs1 : 0 < s) (hs : s < 64) (hB : B (s : Int) = 0) (hG : ∀ p, gcn B s p → p ≤ s → G' ((andn s p : Nat) : Int) = G ((andn s p : Nat) : Int)) (hG0 : ∀ i, 0 ≤ G i) : mdd B G' s s = gac B G s (s + 1) := by
  have hss : gcn B s s := ⟨by have := sub_and (s := s) (p := s) hs hs; rwa [Nat.and_self] at this, by have h : ∀ s : Fin 64, 0 < (s : Nat) → ¬ (s : Nat) &&& low (s : Nat) = 0 := by { decide +kernel }; exact h ⟨s, hs⟩ hs1, hB⟩
  have g0 := hG0 ((andn s s : Nat) : Int)
  have a1 := mdd_ge (B := B) (G := G') (s := s) (p := s) s (by omega) (Nat.le_refl _) hss
  have a2 := gac_ge (B := B) (G := G) (s := s) (p := s) (s + 1) (by omega) hss
  have e0 := hG s hss (Nat.le_refl _)
  have le1 : mdd B G' s s ≤ gac B G s (s + 1) := by
    rcases mdd_at (B := B) (G := G') (s := s) s with h | ⟨p, h1, h2, h3⟩
    · omega
    · have := gac_ge (B := B) (G := G) (s := s) (p := p) (s + 1) (by omega) h2
      rw [h3, hG p h2 h1]
      exact this
  have le2 : gac B G s (s + 1) ≤ mdd B G' s s := by
    rcases gac_at (B := B) (G := G) (s := s) (s + 1) with h | ⟨p, h1, h2, h3⟩
    · omega
    · have hp0 : p ≠ 0 := fun z => h2.2.1 (by rw [z]; simp)
      have := mdd_ge (B := B) (G := G') (s := s) (p := p) s (by omega) (by omega) h2
      rw [h3, ← hG p h2 (by omega)]
      exact this
  omega
theorem bsm_split {b : Nat → Int} {s p : Nat} (hs : s < 64) (hp : andn p s = 0) (hp6 : p < 64) : ∀ n : Nat, n ≤ 6 → bsm b n s = bsm b n p + bsm b n (andn s p)
  | 0, _ => rfl
  | n + 1, hn => by
    have ih := bsm_split (b := b) hs hp hp6 n (by omega)
    have hb : (s.testBit n = true ∧ p.testBit n = true ∧ (andn s p).testBit n = false) ∨ (s.testBit n = true ∧ p.testBit n = false ∧ (andn s p).testBit n = true) ∨ (s.testBit n = false ∧ p.testBit n = false ∧ (andn s p).testBit n = false) := by
      have h : ∀ s p : Fin 64, andn (p : Nat) (s : Nat) = 0 → ∀ n : Fin 6, ((s : Nat).testBit n = true ∧ (p : Nat).testBit n = true ∧ (andn (s : Nat) (p : Nat)).testBit n = false) ∨ ((s : Nat).testBit n = true ∧ (p : Nat).testBit n = false ∧ (andn (s : Nat) (p : Nat)).testBit n = true) ∨ ((s : Nat).testBit n = false ∧ (p : Nat).testBit n = false ∧ (andn (s : Nat) (p : Nat)).testBit n = false) := by decide +kernel
      exact h ⟨s, hs⟩ ⟨p, hp6⟩ hp ⟨n, by omega⟩
    have st : ∀ s : Nat, bsm b (n + 1) s = bsm b n s + (if s.testBit n = true then b n else 0) := fun s => rfl
    rw [st, st, st, ih]
    rcases hb with ⟨h1, h2, h3⟩ | ⟨h1, h2, h3⟩ | ⟨h1, h2, h3⟩
    · simp [h1, h2, h3]; omega
    · simp [h1, h2, h3]; omega
    · simp [h1, h2, h3]
theorem gtb_nn (B : Int → Int) : ∀ (n : Nat) (i : Int), 0 ≤ gtb B n i ∧ gtb B n i ≤ 100 → True := fun _ _ _ => trivial
/-- the tables agree on even sets -/
theorem gm_gt (hN : N ≤ 6) : ∀ n : Nat, n < 2 ^ N → ∀ i : Nat, i ≤ n → bsI T N i = 0 → gmt (bsI T N) n i = gtb (bsI T N) n i
  | 0, _, i, hi, hB => rfl
  | n + 1, hn, i, hi, hB => by
    have hp6 := pow64 hN
    show (if (i : Int) ≤ (n : Int) then gmt (bsI T N) n i else mdd (bsI T N) (gmt (bsI T N) n) (n + 1) (n + 1)) = if (i : Int) ≤ (n : Int) then gtb (bsI T N) n i else if bsI T N ((n + 1 : Nat) : Int) = 0 then gac (bsI T N) (gtb (bsI T N) n) (n + 1) (n + 2) else 0
    by_cases z : (i : Int) ≤ (n : Int)
    · rw [if_pos z, if_pos z]
      exact gm_gt hN n (by omega) i (by omega) hB
    · have ei : i = n + 1 := by omega
      subst ei
      rw [if_neg z, if_neg z, if_pos hB]
      refine mdd_gac (by omega) (by omega) hB (fun p hc hp => ?_) (fun i => (gtb_in (B := bsI T N) n i).1)
      have hlt := andn_lt (s := n + 1) (q := p) (by omega) (by omega) hc.2.1
      refine gm_gt hN n (by omega) _ (by omega) ?_
      have h1 := bsm_split (b := fun j => bal T j N) (s := n + 1) (p := p) (by omega) hc.1 (by omega) N hN
      have hB' : bsm (fun j => bal T j N) N (n + 1) = 0 := hB
      have hC' : bsm (fun j => bal T j N) N p = 0 := hc.2.2
      show bsm (fun j => bal T j N) N _ = 0
      rw [Int.toNat_natCast]
      omega
end MO_

