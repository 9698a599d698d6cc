/-! the reference: settles, groups -/
section MP_
variable {g : GT} {hp hp0 : Hp} {q N n a b s k p D : Nat} {V V2 V3 : Nat → Int} {A A2 A3 : Nat → Int → Int} {rd rl : Value} {i j x v c y z w th : Int} {T T2 : Nat → Int → Int} {l t cs tx rw rw2 rt : List Int} {B G f F : Int → Int} {U U2 : List (Nat → Int → Int)} {hs : List (Int × Int)} {ss : List (Int × Int × Int)} {KT : Nat → Option (Nat → Int → Int)} {L L2 : List Nat}
theorem sm_add (f f' : Int → Int) : ∀ n, sm (fun i => f i + f' i) n = sm f n + sm f' n
  | 0 => rfl
  | n + 1 => by
    show sm _ n + (f n + f' n) = sm f n + f n + (sm f' n + f' n)
    rw [sm_add f f' n]
    omega
theorem sm_sub (f f' : Int → Int) : ∀ n, sm (fun i => f i - f' i) n = sm f n - sm f' n
  | 0 => rfl
  | n + 1 => by
    show sm _ n + (f n - f' n) = sm f n + f n - (sm f' n + f' n)
    rw [sm_sub f f' n]
    omega
theorem sm_0 : ∀ n, sm (fun _ => 0) n = 0
  | 0 => rfl
  | n + 1 => by show sm _ n + 0 = 0; rw [sm_0 n]; rfl
theorem sm_swap (H : Int → Int → Int) (m : Nat) : ∀ n : Nat, sm (fun i => sm (fun j => H i j) m) n = sm (fun j => sm (fun i => H i j) n) m
  | 0 => by
    show 0 = sm (fun j => 0) m
    rw [sm_0]
  | n + 1 => by
    show sm _ n + sm (fun j => H n j) m = sm (fun j => sm (fun i => H i j) n + H n j) m
    rw [sm_swap H m n, ← sm_add]
theorem bal_0 (T : Nat → Int → Int) (N : Nat) : sm (fun i => bal T i N) N = 0 := by
  have e1 : sm (fun i => bal T i N) N = sm (fun i => oto T i N) N - sm (fun i => oby T i N) N := sm_sub _ _ N
  rw [e1]
  unfold oto oby
  rw [sm_swap (fun i j => T 1 (j * 6 + i)) N N]
  omega
theorem bs_all : bsI T N ((2 ^ N - 1 : Nat) : Int) = 0 := by
  unfold bsI bsm
  rw [Int.toNat_natCast]
  refine Eq.trans ?_ (bal_0 T N)
  refine sm_congr fun i hi => ?_
  rw [Int.toNat_natCast, if_pos (by rw [Nat.testBit_two_pow_sub_one]; simp [hi])]
def gall (T : Nat → Int → Int) (N : Nat) : Int := gtb (bsI T N) (2 ^ N - 1) ((2 ^ N - 1 : Nat) : Int)
theorem gall_m (hN : N ≤ 6) : gmt (bsI T N) (2 ^ N - 1) ((2 ^ N - 1 : Nat) : Int) = gall T N := gm_gt hN (2 ^ N - 1) (by have := pow64 hN; omega) (2 ^ N - 1) (Nat.le_refl _) bs_all
theorem gall_in (hN : N ≤ 6) : 0 ≤ gall T N ∧ gall T N ≤ 63 := by
  have := gtb_in (bsI T N) (2 ^ N - 1) ((2 ^ N - 1 : Nat) : Int)
  have := pow64 hN
  unfold gall
  omega
theorem lp_Ref_settles (hI : TI T N) (M : MX V A N T U tx rw rt hs ss KT) : ∀ (m i : Nat), N < i + m → i ≤ N → ∀ (hp2 : Hp) (V2 : Nat → Int) (A2 : Nat → Int → Int) (rd2 : Value) (K : ModAt hp2 q V2 A2 rd2 (.ref (q + 5))) (O : SO hp hp2 q (q + 25)) (h6 : V2 6 = 0) (sV : SV qV V V2) (sA : SA qA A A2) (hR : Mrw V2 A2 (tab (fun i => 1000 + bal T i N) i)) (h13 : A2 13 = F) (hF : ∀ j : Nat, j < 2 ^ N → F j = gmt (bsI T N) (2 ^ N - 1) j), wp g MX12_settles (rm 5 0 0) (Eff (.int (I ((N : Int) - gall T N))) (fun hp3 => MAt hp3 q 0 N T U tx (tab (fun i => 1000 + bal T i N) N) rt hs ss KT ∧ SO hp hp3 q (q + 25))) 0 0 16 [some (.ref q), some (.int (I (i : Int)))] [] hp2 := by
  intro m
  induction m with
  | zero => intro i h1 h2; exact absurd h1 (by omega)
  | succ m ih =>
    intro i h1 h2 hp2 V2 A2 rd2 K O h6 sV sA hR h13 hF
    have hN := hI.men.2
    have m1 := M.1
    have mA := M.2.1
    have hp6 := pow64 hN
    have hll := tab_len (fun i => 1000 + bal T i N) i
    have hba := bal_in (p := (i : Int)) hI
    refine wp_iload_n (pc := 16) dX12_settles_16 rfl ?_
    refine wp_aload_n (pc := 17) dX12_settles_17 rfl ?_
    refine wm_gets dX12_settles_18 gf_X12_92 K (by rfl) (by repeat (first | assumption | exact pv10 | exact pv11 | (apply pv_o; decide; decide) | exact upN_eq | (apply upN_ne; decide) | (apply SV_at; assumption; decide) | exact rfl)) ?_
    refine wp_icmp_ge (pc := 21) 44 dX12_settles_21 (by decide) (by first | omega | exact TI.i5 (by assumption) | exact TI.i3 (by assumption) | exact TI.i2 (by assumption) | exact TI.i1 (by assumption) | exact TI.i0 (by assumption) | exact TI.i4 (by assumption) | exact TI.i6 (by assumption) | exact TI.i7 (by assumption)) (by first | omega | exact TI.i5 (by assumption) | exact TI.i3 (by assumption) | exact TI.i2 (by assumption) | exact TI.i1 (by assumption) | exact TI.i0 (by assumption) | exact TI.i4 (by assumption) | exact TI.i6 (by assumption) | exact TI.i7 (by assumption)) (fun c21 => ?_) (fun c21 => ?_)
    ·
      have e : i = N := by omega
      subst e -- go
      refine wp_aload_n (pc := 44) dX12_settles_44 rfl ?_
      refine wm_gets dX12_settles_45 gf_X12_92 K (by rfl) (by repeat (first | assumption | exact pv10 | exact pv11 | (apply pv_o; decide; decide) | exact upN_eq | (apply upN_ne; decide) | (apply SV_at; assumption; decide) | exact rfl)) ?_
      refine wp_aload_n (pc := 48) dX12_settles_48 rfl ?_
      refine wm_get dX12_settles_49 gf_X12_48 K (by rfl) ?_
      refine wp_aload_n (pc := 52) dX12_settles_52 rfl ?_
      refine wp_Vp (pc := 53) dX12_settles_53 cl_X12_293 (sp_Ref_all K (by repeat (first | assumption | exact pv10 | exact pv11 | (apply pv_o; decide; decide) | exact upN_eq | (apply upN_ne; decide) | (apply SV_at; assumption; decide) | exact rfl)) hN) rfl rfl K.1 (by rfl) (by decide) (Nat.le_of_ble_eq_true rfl) ?_
      refine wm_iald dX12_settles_56 K (by rfl) (by decide) (by decide) (by decide) (by omega) (by omega) h13 ((hF _ (by omega)).trans (gall_m hN)) ?_
      refine wp_isub (pc := 57) dX12_settles_57 ?_
      exact wp_ir (pc := 58) dX12_settles_58 rfl (by decide) (by decide) (by first | rfl | omega) ⟨⟨_, _, _, K, (by repeat (first | assumption | exact pv10 | exact pv11 | (apply pv_o; decide; decide) | exact upN_eq | (apply upN_ne; decide) | (apply SV_at; assumption; decide) | exact rfl)), M.qu (by repeat (first | exact SV.rf | assumption | (apply SV.up1; decide) | (apply SV.tr2; assumption; decide))) (by repeat (first | exact SA.rf | assumption | (apply SA.up1; decide) | (apply SA.tr2; assumption; decide))) (by first | assumption | exact Mrw.z (by repeat (first | assumption | exact pv10 | exact pv11 | (apply pv_o; decide; decide) | exact upN_eq | (apply upN_ne; decide) | (apply SV_at; assumption; decide) | exact rfl)) | exact Mrw.tr (by assumption) (by repeat (first | assumption | exact pv10 | exact pv11 | (apply pv_o; decide; decide) | exact upN_eq | (apply upN_ne; decide) | (apply SV_at; assumption; decide) | exact rfl)) (by repeat (first | assumption | exact upA_eq | (apply upA_ne; first | decide | omega) | (apply SA_at; assumption; first | decide | (simp; omega)) | exact rfl)))⟩, O⟩
    ·
      refine wp_aload_n (pc := 24) dX12_settles_24 rfl ?_
      refine wp_sipush (pc := 25) (y := 1000) dX12_settles_25 (by decide) ?_
      refine wp_aload_n (pc := 28) dX12_settles_28 rfl ?_
      refine wp_iload_n (pc := 29) dX12_settles_29 rfl ?_
      refine wp_Vp (pc := 30) dX12_settles_30 cl_X12_306 (sp_Ref_net K (by repeat (first | assumption | exact pv10 | exact pv11 | (apply pv_o; decide; decide) | exact upN_eq | (apply upN_ne; decide) | (apply SV_at; assumption; decide) | exact rfl)) hN (by repeat (first | assumption | exact upA_eq | (apply upA_ne; first | decide | omega) | (apply SA_at; assumption; first | decide | (simp; omega)) | exact rfl)) (by omega)) rfl rfl K.1 (by rfl) (by decide) (Nat.le_of_ble_eq_true rfl) ?_
      refine wp_iadd (pc := 33) dX12_settles_33 ?_
      refine wp_i2l (pc := 34) dX12_settles_34 (by first | omega | exact TI.i5 (by assumption) | exact TI.i3 (by assumption) | exact TI.i2 (by assumption) | exact TI.i1 (by assumption) | exact TI.i0 (by assumption) | exact TI.i4 (by assumption) | exact TI.i6 (by assumption) | exact TI.i7 (by assumption)) ?_
      refine wp_Vn (pc := 35) dX12_settles_35 cl_X12_253 (sp_Ref_tellR K hR (by omega)) rfl rfl K.1 (by rfl) (by decide) (Nat.le_of_ble_eq_true rfl) (fun hp35 e35 => ?_)
      obtain ⟨⟨V35, A35, K, sV35, sA35, hR35⟩, O1⟩ := e35; replace O := SO.tr O O1
      refine wp_iinc (pc := 38) dX12_settles_38 rfl (by decide) ?_
      refine wp_goto (pc := 41) 16 dX12_settles_41 (by decide) ?_
      refine wp_ls ?_ (ih (i + 1) (by omega) (by omega) _ _ _ _ K O (by repeat (first | assumption | exact pv10 | exact pv11 | (apply pv_o; decide; decide) | exact upN_eq | (apply upN_ne; decide) | (apply SV_at; assumption; decide) | exact rfl)) (by repeat (first | exact SV.rf | assumption | (apply SV.up1; decide) | (apply SV.tr2; assumption; decide))) (by repeat (first | exact SA.rf | assumption | (apply SA.up1; decide) | (apply SA.tr2; assumption; decide))) hR35 (by repeat (first | assumption | exact upA_eq | (apply upA_ne; first | decide | omega) | (apply SA_at; assumption; first | decide | (simp; omega)) | exact rfl)) hF)
      repeat' (first | exact LE_0 | refine LE_s rfl ?_ | refine LE_s (I_c (by first | omega | (simp only [sm]; omega))) ?_ | refine LE_s (J_c (by first | omega | exact Int.pow_succ _ _ | exact (Int.pow_succ _ _).symm | exact (Int.pow_zero _).symm | (simp only [sm]; omega))) ?_ | refine LE_n ?_)
theorem sp_Ref_settles (hM : MAt hp q th N T U tx rw rt hs ss KT) (hI : TI T N) : Sp g MX12_settles (rm 5 0 0) [.ref q] hp (Eff (.int (I ((N : Int) - gall T N))) (fun hp2 => MAt hp2 q 0 N T U tx (tab (fun i => 1000 + bal T i N) N) rt hs ss KT ∧ SO hp hp2 q (q + 25))) := by
  refine Sp_mk rfl (Nat.le_of_ble_eq_true rfl) ?_
  show wp g _ _ _ 0 0 0 [some (.ref q), none] [] hp
  have O := SO.rf (hp := hp) (lo := q) (hi := q + 25)
  obtain ⟨V, A, rd, K, hth, M⟩ := hM
  have hu := M.ru (q := q)
  have M2 := M
  obtain ⟨m1, mA, mt, mr, mu, mU, mh, ms, mk⟩ := M2
  refine wp_aload_n (pc := 0) dX12_settles_0 rfl ?_
  refine wp_iconst (pc := 1) dX12_settles_1 ?_
  refine wm_put dX12_settles_2 pf_X12_85 K O (by decide) mset_6 rfl rfl (fun hp K O => ?_)
  refine wp_aload_n (pc := 5) dX12_settles_5 rfl ?_
  refine wp_Vn (pc := 6) dX12_settles_6 cl_X12_312 (sp_Ref_layGroups K hI (by repeat (first | assumption | exact pv10 | exact pv11 | (apply pv_o; decide; decide) | exact upN_eq | (apply upN_ne; decide) | (apply SV_at; assumption; decide) | exact rfl)) (by repeat (first | assumption | exact upA_eq | (apply upA_ne; first | decide | omega) | (apply SA_at; assumption; first | decide | (simp; omega)) | exact rfl))) rfl rfl K.1 (by rfl) (by decide) (Nat.le_of_ble_eq_true rfl) (fun hp6 e6 => ?_)
  obtain ⟨⟨F6, K, hF6⟩, O1⟩ := e6; replace O := SO.tr O O1
  refine wp_aload_n (pc := 9) dX12_settles_9 rfl ?_
  refine wp_iconst (pc := 10) dX12_settles_10 ?_
  refine wm_put dX12_settles_11 pf_X12_89 K O (by decide) mset_5 rfl rfl (fun hp K O => ?_)
  refine wp_iconst (pc := 14) dX12_settles_14 ?_
  refine wp_istore_n (pc := 15) dX12_settles_15 (by decide) ?_
  refine wp_ls ?_ (lp_Ref_settles hI M (N + 1) 0 (by omega) (by omega) _ _ _ _ K O (by repeat (first | assumption | exact pv10 | exact pv11 | (apply pv_o; decide; decide) | exact upN_eq | (apply upN_ne; decide) | (apply SV_at; assumption; decide) | exact rfl)) (by repeat (first | exact SV.rf | assumption | (apply SV.up1; decide) | (apply SV.tr2; assumption; decide))) (by repeat (first | exact SA.rf | assumption | (apply SA.up1; decide) | (apply SA.tr2; assumption; decide))) (by first | assumption | exact Mrw.z (by repeat (first | assumption | exact pv10 | exact pv11 | (apply pv_o; decide; decide) | exact upN_eq | (apply upN_ne; decide) | (apply SV_at; assumption; decide) | exact rfl)) | exact Mrw.tr (by assumption) (by repeat (first | assumption | exact pv10 | exact pv11 | (apply pv_o; decide; decide) | exact upN_eq | (apply upN_ne; decide) | (apply SV_at; assumption; decide) | exact rfl)) (by repeat (first | assumption | exact upA_eq | (apply upA_ne; first | decide | omega) | (apply SA_at; assumption; first | decide | (simp; omega)) | exact rfl))) upA_eq hF6)
  repeat' (first | exact LE_0 | refine LE_s rfl ?_ | refine LE_s (I_c (by first | omega | (simp only [sm]; omega))) ?_ | refine LE_s (J_c (by first | omega | exact Int.pow_succ _ _ | exact (Int.pow_succ _ _).symm | exact (Int.pow_zero _).symm | (simp only [sm]; omega))) ?_ | refine LE_n ?_)
/-! the least group of the first one -/
def gpt (T : Nat → Int → Int) (N : Nat) : Nat := fst (gfP T N) (2 ^ (N - 1) - 1)
theorem half (h1 : 1 ≤ N) : 2 ^ N = 2 * 2 ^ (N - 1) := by
  obtain ⟨n, rfl⟩ : ∃ n, N = n + 1 := ⟨N - 1, by omega⟩
  rw [Nat.pow_succ, Nat.add_sub_cancel]
  omega
/-- the reference's test of a part that is odd, as the class's -/
theorem gfP_m {j : Nat} (h1 : 1 ≤ N) (hN : N ≤ 6) (hj : 2 * j + 1 < 2 ^ N) : gfP T N j = true ↔ (bsm (fun j => bal T j N) N (2 * j + 1) = 0 ∧ 1 + gmt (bsI T N) (2 ^ N - 1) ((andn (2 ^ N - 1) (2 * j + 1) : Nat) : Int) = gall T N) := by
  have hp6 := pow64 hN
  have e0 : bsI T N ((2 * j + 1 : Nat) : Int) = bsm (fun j => bal T j N) N (2 * j + 1) := by unfold bsI; rw [Int.toNat_natCast]
  have hsub : andn (2 * j + 1) (2 ^ N - 1) = 0 := by
    have h : ∀ n : Fin 7, ∀ p : Fin 64, (p : Nat) < 2 ^ (n : Nat) → andn (p : Nat) (2 ^ (n : Nat) - 1) = 0 := by decide +kernel
    exact h ⟨N, by omega⟩ ⟨2 * j + 1, by omega⟩ hj
  have key : bsm (fun j => bal T j N) N (2 * j + 1) = 0 → gmt (bsI T N) (2 ^ N - 1) ((andn (2 ^ N - 1) (2 * j + 1) : Nat) : Int) = gtb (bsI T N) (2 ^ N - 1) ((andn (2 ^ N - 1) (2 * j + 1) : Nat) : Int) := by
    intro z
    have hle := andn_le (a := 2 ^ N - 1) (b := 2 * j + 1) (by omega)
    refine gm_gt hN (2 ^ N - 1) (by omega) _ hle ?_
    have h2 := bsm_split (b := fun j => bal T j N) (s := 2 ^ N - 1) (p := 2 * j + 1) (by omega) hsub (by omega) N hN
    have h3 : bsm (fun j => bal T j N) N (2 ^ N - 1) = 0 := by have := bs_all (T := T) (N := N); unfold bsI at this; rwa [Int.toNat_natCast] at this
    unfold bsI
    rw [Int.toNat_natCast]
    omega
  unfold gfP
  rw [decide_eq_true_iff, e0]
  constructor
  · intro h; exact ⟨h.1, by rw [key h.1]; exact h.2⟩
  · intro h; exact ⟨h.1, by have := h.2; rw [key h.1] at this; exact this⟩
theorem gfP_last (h1 : 1 ≤ N) (hN : N ≤ 6) (hno : ∀ j, j < 2 ^ (N - 1) - 1 → ¬ gfP T N j = true) : gfP T N (2 ^ (N - 1) - 1) = true := by
  have hp6 := pow64 hN
  have hh := half h1
  have hp5 := Nat.one_le_two_pow (n := N - 1)
  have hlow : ∀ n : Fin 7, 1 ≤ (n : Nat) → low (2 ^ (n : Nat) - 1) = 1 := by decide +kernel
  have hl1 := hlow ⟨N, by omega⟩ h1
  obtain ⟨n, hn⟩ : ∃ n, 2 ^ N - 1 = n + 1 := ⟨2 ^ N - 2, by omega⟩
  have eg : gall T N = gac (bsI T N) (gtb (bsI T N) n) (n + 1) (n + 2) := by
    unfold gall
    rw [hn]
    show (if ((n + 1 : Nat) : Int) ≤ (n : Int) then _ else if bsI T N ((n + 1 : Nat) : Int) = 0 then _ else _) = _
    rw [if_neg (by omega), if_pos (by rw [← hn]; exact bs_all)]
  have hss : gcn (bsI T N) (n + 1) (n + 1) := by
    rw [← hn]
    refine ⟨by have := sub_and (s := 2 ^ N - 1) (p := 2 ^ N - 1) (by omega) (by omega); rwa [Nat.and_self] at this, ?_, bs_all⟩
    have hl1' : low (2 ^ N - 1) = 1 := hl1
    rw [hl1', Nat.and_one_is_mod]
    omega
  have hge := gac_ge (G := gtb (bsI T N) n) (n + 2) (by omega) hss
  have hg0 := (gtb_in (bsI T N) n ((andn (n + 1) (n + 1) : Nat) : Int)).1
  rcases gac_at (B := bsI T N) (G := gtb (bsI T N) n) (s := n + 1) (n + 2) with h | ⟨p, h2, h3, h4⟩
  · omega
  · have hodd : p % 2 = 1 := by
      have := h3.2.1
      rw [← hn, show low (2 ^ N - 1) = 1 from hl1, Nat.and_one_is_mod] at this
      omega
    have hlt := andn_lt (s := n + 1) (q := p) (by omega) (by omega) h3.2.1
    have hP : gfP T N (p / 2) = true := by
      unfold gfP
      rw [decide_eq_true_iff, show 2 * (p / 2) + 1 = p by omega]
      refine ⟨h3.2.2, ?_⟩
      have e2 : gtb (bsI T N) (2 ^ N - 1) ((2 ^ N - 1 : Nat) : Int) = gall T N := rfl
      rw [e2, eg, h4, hn, gtb_mono (bsI T N) (n := n) (by omega) (n + 1) (by omega)]
    by_cases z : p / 2 = 2 ^ (N - 1) - 1
    · rw [← z]; exact hP
    · exact absurd hP (hno _ (by omega))
theorem gpt_at {j : Nat} (hj : j ≤ 2 ^ (N - 1) - 1) (hno : ∀ i, i < j → ¬ gfP T N i = true) (h : gfP T N j = true) : gpt T N = j := by
  unfold gpt
  have hno' : ∀ i, i < j → gfP T N i = false := fun i hi => by have := hno i hi; cases hz : gfP T N i with | false => rfl | true => exact absurd hz this
  by_cases z : j = 2 ^ (N - 1) - 1
  · rw [← z]; exact fst_no _ j hno'
  · exact fst_at _ h hno' _ (by omega)
theorem lp_Ref_groups (hI : TI T N) (M : MX V A N T U tx rw rt hs ss KT) (hN1 : 1 ≤ N) (K : ModAt hp q V2 A2 rd (.ref (q + 5))) (O : SO hp0 hp q (q + 25)) (h6 : V2 6 = 0) (sV : SV qV V V2) (sA : SA qA A A2) (hR : Mrw V2 A2 []) (h13 : A2 13 = F) (hF : ∀ j : Nat, j < 2 ^ N → F j = gmt (bsI T N) (2 ^ N - 1) j) : ∀ (m i : Nat), (2 ^ (N - 1) - 1) < i + m → i ≤ (2 ^ (N - 1) - 1) → ∀ (hno : ∀ j, j < i → ¬ gfP T N j = true), wp g MX12_groups (rm 5 0 0) (Eff (.int (I (gall T N))) (fun hp3 => MAt hp3 q 0 N T U tx [2 * (gpt T N : Int) + 1] rt hs ss KT ∧ SO hp0 hp3 q (q + 25))) 0 0 25 [some (.ref q), some (.int (I (2 * (i : Int) + 1)))] [] hp := by
  intro m
  induction m with
  | zero => intro i h1 h2; exact absurd h1 (by omega)
  | succ m ih =>
    intro i h1 h2 hno
    have hN := hI.men.2
    have m1 := M.1
    have mA := M.2.1
    have hp6 := pow64 hN
    have hh := half hN1
    have hp5 := Nat.one_le_two_pow (n := N - 1)
    have hgm := gfP_m (T := T) (j := i) hN1 hN (by omega)
    have hle := andn_le (a := 2 ^ N - 1) (b := 2 * i + 1) (by omega)
    have q1 := bsm_r (s := 2 * i + 1) hI
    have q2 := gmt_in (bsI T N) (2 ^ N - 1) ((andn (2 ^ N - 1) (2 * i + 1) : Nat) : Int)
    have q3 := gall_in (T := T) hN
    refine wp_aload_n (pc := 25) dX12_groups_25 rfl ?_
    refine wp_iload_n (pc := 26) dX12_groups_26 rfl ?_
    refine wp_topE (show 2 * (i : Int) + 1 = ((2 * i + 1 : Nat) : Int) by omega) ?_
    refine wp_Vp (pc := 27) dX12_groups_27 cl_X12_309 (sp_Ref_netOf (s := 2 * i + 1) K (by repeat (first | assumption | exact pv10 | exact pv11 | (apply pv_o; decide; decide) | exact upN_eq | (apply upN_ne; decide) | (apply SV_at; assumption; decide) | exact rfl)) hN (by repeat (first | assumption | exact upA_eq | (apply upA_ne; first | decide | omega) | (apply SA_at; assumption; first | decide | (simp; omega)) | exact rfl)) (by omega)) rfl rfl K.1 (by rfl) (by decide) (Nat.le_of_ble_eq_true rfl) ?_
    first | refine wp_ifb_ne (pc := 30) 60 dX12_groups_30 (by decide) (fun c30 => ?_) (fun c30 => ?_) | refine wp_if_ne (pc := 30) 60 dX12_groups_30 (by decide) (by first | omega | exact TI.i5 (by assumption) | exact TI.i3 (by assumption) | exact TI.i2 (by assumption) | exact TI.i1 (by assumption) | exact TI.i0 (by assumption) | exact TI.i4 (by assumption) | exact TI.i6 (by assumption) | exact TI.i7 (by assumption)) (fun c30 => ?_) (fun c30 => ?_)
    ·
      have hnP : ¬ gfP T N i = true := fun z => c30 (hgm.mp z).1
      skip -- go
      refine wp_iinc (pc := 60) dX12_groups_60 rfl (by decide) ?_
      refine wp_goto (pc := 63) 25 dX12_groups_63 (by decide) ?_
      by_cases hJ : i = 2 ^ (N - 1) - 1
      · exact absurd (by rw [hJ]; exact gfP_last hN1 hN (by rw [← hJ]; exact hno)) hnP
      · refine wp_ls ?_ (ih (i + 1) (by omega) (by omega) (fun j hj => if z : j = i then by rw [z]; exact hnP else hno j (by omega)))
        repeat' (first | exact LE_0 | refine LE_s rfl ?_ | refine LE_s (I_c (by first | omega | (simp only [sm]; omega))) ?_ | refine LE_s (J_c (by first | omega | exact Int.pow_succ _ _ | exact (Int.pow_succ _ _).symm | exact (Int.pow_zero _).symm | (simp only [sm]; omega))) ?_ | refine LE_n ?_)
    ·
      refine wp_iconst (pc := 33) dX12_groups_33 ?_
      refine wp_aload_n (pc := 34) dX12_groups_34 rfl ?_
      refine wm_get dX12_groups_35 gf_X12_48 K (by rfl) ?_
      refine wp_aload_n (pc := 38) dX12_groups_38 rfl ?_
      refine wp_Vp (pc := 39) dX12_groups_39 cl_X12_293 (sp_Ref_all K (by repeat (first | assumption | exact pv10 | exact pv11 | (apply pv_o; decide; decide) | exact upN_eq | (apply upN_ne; decide) | (apply SV_at; assumption; decide) | exact rfl)) hN) rfl rfl K.1 (by rfl) (by decide) (Nat.le_of_ble_eq_true rfl) ?_
      refine wp_iload_n (pc := 42) dX12_groups_42 rfl ?_
      refine wp_topE (show 2 * (i : Int) + 1 = ((2 * i + 1 : Nat) : Int) by omega) ?_
      refine wp_iconst (pc := 43) dX12_groups_43 ?_
      refine wp_ixor (pc := 44) dX12_groups_44 rfl ?_
      refine wp_iand (pc := 45) dX12_groups_45 (I_andn (by omega) (by omega)) ?_
      refine wm_iald dX12_groups_46 K (by rfl) (by decide) (by decide) (by decide) (by omega) (by omega) h13 (hF _ (by omega)) ?_
      refine wp_iadd (pc := 47) dX12_groups_47 ?_
      refine wp_aload_n (pc := 48) dX12_groups_48 rfl ?_
      refine wm_get dX12_groups_49 gf_X12_48 K (by rfl) ?_
      refine wp_aload_n (pc := 52) dX12_groups_52 rfl ?_
      refine wp_Vp (pc := 53) dX12_groups_53 cl_X12_293 (sp_Ref_all K (by repeat (first | assumption | exact pv10 | exact pv11 | (apply pv_o; decide; decide) | exact upN_eq | (apply upN_ne; decide) | (apply SV_at; assumption; decide) | exact rfl)) hN) rfl rfl K.1 (by rfl) (by decide) (Nat.le_of_ble_eq_true rfl) ?_
      refine wm_iald dX12_groups_56 K (by rfl) (by decide) (by decide) (by decide) (by omega) (by omega) h13 ((hF _ (by omega)).trans (gall_m hN)) ?_
      refine wp_icmp_eq (pc := 57) 66 dX12_groups_57 (by decide) (by first | omega | exact TI.i5 (by assumption) | exact TI.i3 (by assumption) | exact TI.i2 (by assumption) | exact TI.i1 (by assumption) | exact TI.i0 (by assumption) | exact TI.i4 (by assumption) | exact TI.i6 (by assumption) | exact TI.i7 (by assumption)) (by first | omega | exact TI.i5 (by assumption) | exact TI.i3 (by assumption) | exact TI.i2 (by assumption) | exact TI.i1 (by assumption) | exact TI.i0 (by assumption) | exact TI.i4 (by assumption) | exact TI.i6 (by assumption) | exact TI.i7 (by assumption)) (fun c57 => ?_) (fun c57 => ?_)
      ·
        have hP : gfP T N i = true := hgm.mpr ⟨c30, c57⟩
        rw [gpt_at (by omega) hno hP] -- go
        refine wp_aload_n (pc := 66) dX12_groups_66 rfl ?_
        refine wp_iload_n (pc := 67) dX12_groups_67 rfl ?_
        refine wp_i2l (pc := 68) dX12_groups_68 (by first | omega | exact TI.i5 (by assumption) | exact TI.i3 (by assumption) | exact TI.i2 (by assumption) | exact TI.i1 (by assumption) | exact TI.i0 (by assumption) | exact TI.i4 (by assumption) | exact TI.i6 (by assumption) | exact TI.i7 (by assumption)) ?_
        refine wp_Vn (pc := 69) dX12_groups_69 cl_X12_253 (sp_Ref_tellR K (by first | assumption | exact Mrw.z (by repeat (first | assumption | exact pv10 | exact pv11 | (apply pv_o; decide; decide) | exact upN_eq | (apply upN_ne; decide) | (apply SV_at; assumption; decide) | exact rfl))) (by first | decide | (simp; omega) | simp | omega)) rfl rfl K.1 (by rfl) (by decide) (Nat.le_of_ble_eq_true rfl) (fun hp69 e69 => ?_)
        obtain ⟨⟨V69, A69, K, sV69, sA69, hR69⟩, O1⟩ := e69; replace O := SO.tr O O1
        refine wp_aload_n (pc := 72) dX12_groups_72 rfl ?_
        refine wm_get dX12_groups_73 gf_X12_48 K (by rfl) ?_
        refine wp_aload_n (pc := 76) dX12_groups_76 rfl ?_
        refine wp_Vp (pc := 77) dX12_groups_77 cl_X12_293 (sp_Ref_all K (by repeat (first | assumption | exact pv10 | exact pv11 | (apply pv_o; decide; decide) | exact upN_eq | (apply upN_ne; decide) | (apply SV_at; assumption; decide) | exact rfl)) hN) rfl rfl K.1 (by rfl) (by decide) (Nat.le_of_ble_eq_true rfl) ?_
        refine wm_iald dX12_groups_80 K (by rfl) (by decide) (by decide) (by decide) (by omega) (by omega) (by repeat (first | assumption | exact upA_eq | (apply upA_ne; first | decide | omega) | (apply SA_at; assumption; first | decide | (simp; omega)) | exact rfl)) ((hF _ (by omega)).trans (gall_m hN)) ?_
        exact wp_ir (pc := 81) dX12_groups_81 rfl (by decide) (by decide) (by first | rfl | omega) ⟨⟨_, _, _, K, (by repeat (first | assumption | exact pv10 | exact pv11 | (apply pv_o; decide; decide) | exact upN_eq | (apply upN_ne; decide) | (apply SV_at; assumption; decide) | exact rfl)), M.qu (by repeat (first | exact SV.rf | assumption | (apply SV.up1; decide) | (apply SV.tr2; assumption; decide))) (by repeat (first | exact SA.rf | assumption | (apply SA.up1; decide) | (apply SA.tr2; assumption; decide))) (by first | assumption | exact Mrw.z (by repeat (first | assumption | exact pv10 | exact pv11 | (apply pv_o; decide; decide) | exact upN_eq | (apply upN_ne; decide) | (apply SV_at; assumption; decide) | exact rfl)) | exact Mrw.tr (by assumption) (by repeat (first | assumption | exact pv10 | exact pv11 | (apply pv_o; decide; decide) | exact upN_eq | (apply upN_ne; decide) | (apply SV_at; assumption; decide) | exact rfl)) (by repeat (first | assumption | exact upA_eq | (apply upA_ne; first | decide | omega) | (apply SA_at; assumption; first | decide | (simp; omega)) | exact rfl)))⟩, O⟩
      ·
        have hnP : ¬ gfP T N i = true := fun z => c57 (hgm.mp z).2
        skip -- go
        refine wp_iinc (pc := 60) dX12_groups_60 rfl (by decide) ?_
        refine wp_goto (pc := 63) 25 dX12_groups_63 (by decide) ?_
        by_cases hJ : i = 2 ^ (N - 1) - 1
        · exact absurd (by rw [hJ]; exact gfP_last hN1 hN (by rw [← hJ]; exact hno)) hnP
        · refine wp_ls ?_ (ih (i + 1) (by omega) (by omega) (fun j hj => if z : j = i then by rw [z]; exact hnP else hno j (by omega)))
          repeat' (first | exact LE_0 | refine LE_s rfl ?_ | refine LE_s (I_c (by first | omega | (simp only [sm]; omega))) ?_ | refine LE_s (J_c (by first | omega | exact Int.pow_succ _ _ | exact (Int.pow_succ _ _).symm | exact (Int.pow_zero _).symm | (simp only [sm]; omega))) ?_ | refine LE_n ?_)
theorem sp_Ref_groups (hM : MAt hp q th N T U tx rw rt hs ss KT) (hI : TI T N) : Sp g MX12_groups (rm 5 0 0) [.ref q] hp (Eff (.int (I (gall T N))) (fun hp2 => MAt hp2 q 0 N T U tx (if N = 0 then [] else [2 * (gpt T N : Int) + 1]) rt hs ss KT ∧ SO hp hp2 q (q + 25))) := by
  have hN := hI.men.2
  refine Sp_mk rfl (Nat.le_of_ble_eq_true rfl) ?_
  show wp g _ _ _ 0 0 0 [some (.ref q), none] [] hp
  have O := SO.rf (hp := hp) (lo := q) (hi := q + 25)
  obtain ⟨V, A, rd, K, hth, M⟩ := hM
  have hu := M.ru (q := q)
  have M2 := M
  obtain ⟨m1, mA, mt, mr, mu, mU, mh, ms, mk⟩ := M2
  refine wp_aload_n (pc := 0) dX12_groups_0 rfl ?_
  refine wp_iconst (pc := 1) dX12_groups_1 ?_
  refine wm_put dX12_groups_2 pf_X12_85 K O (by decide) mset_6 rfl rfl (fun hp K O => ?_)
  refine wp_aload_n (pc := 5) dX12_groups_5 rfl ?_
  refine wp_Vn (pc := 6) dX12_groups_6 cl_X12_312 (sp_Ref_layGroups K hI (by repeat (first | assumption | exact pv10 | exact pv11 | (apply pv_o; decide; decide) | exact upN_eq | (apply upN_ne; decide) | (apply SV_at; assumption; decide) | exact rfl)) (by repeat (first | assumption | exact upA_eq | (apply upA_ne; first | decide | omega) | (apply SA_at; assumption; first | decide | (simp; omega)) | exact rfl))) rfl rfl K.1 (by rfl) (by decide) (Nat.le_of_ble_eq_true rfl) (fun hp6 e6 => ?_)
  obtain ⟨⟨F6, K, hF6⟩, O1⟩ := e6; replace O := SO.tr O O1
  refine wp_aload_n (pc := 9) dX12_groups_9 rfl ?_
  refine wp_iconst (pc := 10) dX12_groups_10 ?_
  refine wm_put dX12_groups_11 pf_X12_89 K O (by decide) mset_5 rfl rfl (fun hp K O => ?_)
  refine wp_aload_n (pc := 14) dX12_groups_14 rfl ?_
  refine wm_gets dX12_groups_15 gf_X12_92 K (by rfl) (by repeat (first | assumption | exact pv10 | exact pv11 | (apply pv_o; decide; decide) | exact upN_eq | (apply upN_ne; decide) | (apply SV_at; assumption; decide) | exact rfl)) ?_
  first | refine wp_ifb_ne (pc := 18) 23 dX12_groups_18 (by decide) (fun c18 => ?_) (fun c18 => ?_) | refine wp_if_ne (pc := 18) 23 dX12_groups_18 (by decide) (by first | omega | exact TI.i5 (by assumption) | exact TI.i3 (by assumption) | exact TI.i2 (by assumption) | exact TI.i1 (by assumption) | exact TI.i0 (by assumption) | exact TI.i4 (by assumption) | exact TI.i6 (by assumption) | exact TI.i7 (by assumption)) (fun c18 => ?_) (fun c18 => ?_)
  ·
    rw [if_neg (by omega)] -- go
    refine wp_iconst (pc := 23) dX12_groups_23 ?_
    refine wp_istore_n (pc := 24) dX12_groups_24 (by decide) ?_
    refine wp_ls ?_ (lp_Ref_groups (V := V) (A := A) hI M (by omega) K O (by repeat (first | assumption | exact pv10 | exact pv11 | (apply pv_o; decide; decide) | exact upN_eq | (apply upN_ne; decide) | (apply SV_at; assumption; decide) | exact rfl)) (by repeat (first | exact SV.rf | assumption | (apply SV.up1; decide) | (apply SV.tr2; assumption; decide))) (by repeat (first | exact SA.rf | assumption | (apply SA.up1; decide) | (apply SA.tr2; assumption; decide))) (by first | assumption | exact Mrw.z (by repeat (first | assumption | exact pv10 | exact pv11 | (apply pv_o; decide; decide) | exact upN_eq | (apply upN_ne; decide) | (apply SV_at; assumption; decide) | exact rfl)) | exact Mrw.tr (by assumption) (by repeat (first | assumption | exact pv10 | exact pv11 | (apply pv_o; decide; decide) | exact upN_eq | (apply upN_ne; decide) | (apply SV_at; assumption; decide) | exact rfl)) (by repeat (first | assumption | exact upA_eq | (apply upA_ne; first | decide | omega) | (apply SA_at; assumption; first | decide | (simp; omega)) | exact rfl))) upA_eq hF6 (2 ^ (N - 1) - 1 + 1) 0 (by omega) (by omega) (fun j hj => by omega))
    repeat' (first | exact LE_0 | refine LE_s rfl ?_ | refine LE_s (I_c (by first | omega | (simp only [sm]; omega))) ?_ | refine LE_s (J_c (by first | omega | exact Int.pow_succ _ _ | exact (Int.pow_succ _ _).symm | exact (Int.pow_zero _).symm | (simp only [sm]; omega))) ?_ | refine LE_n ?_)
  ·
    have e0 : N = 0 := by omega
    subst e0
    rw [if_pos rfl] -- go
    refine wp_iconst (pc := 21) dX12_groups_21 ?_
    exact wp_ir (pc := 22) dX12_groups_22 rfl (by decide) (by decide) rfl ⟨⟨_, _, _, K, (by repeat (first | assumption | exact pv10 | exact pv11 | (apply pv_o; decide; decide) | exact upN_eq | (apply upN_ne; decide) | (apply SV_at; assumption; decide) | exact rfl)), M.qu (by repeat (first | exact SV.rf | assumption | (apply SV.up1; decide) | (apply SV.tr2; assumption; decide))) (by repeat (first | exact SA.rf | assumption | (apply SA.up1; decide) | (apply SA.tr2; assumption; decide))) (by first | assumption | exact Mrw.z (by repeat (first | assumption | exact pv10 | exact pv11 | (apply pv_o; decide; decide) | exact upN_eq | (apply upN_ne; decide) | (apply SV_at; assumption; decide) | exact rfl)) | exact Mrw.tr (by assumption) (by repeat (first | assumption | exact pv10 | exact pv11 | (apply pv_o; decide; decide) | exact upN_eq | (apply upN_ne; decide) | (apply SV_at; assumption; decide) | exact rfl)) (by repeat (first | assumption | exact upA_eq | (apply upA_ne; first | decide | omega) | (apply SA_at; assumption; first | decide | (simp; omega)) | exact rfl)))⟩, O⟩
end MP_

