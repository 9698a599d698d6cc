/-! the reference: the rule, and words -/
section MF
variable {g : GT} {hp hp0 : Hp} {q N n a s k p tp f L ln : Nat} {V V2 : Nat → Int} {A A2 : Nat → Int → Int} {rd rl : Value} {i j x v b c y dep : Int} {T : Nat → Int → Int} {l t : List Int} {e : Int → Int}
/-- bytes of a text in an array -/
def BA (F : Int → Int) (l : List Int) : Prop := byl l ∧ ∀ i : Nat, i < l.length → F (i : Int) = sb (l.getD i 0)
/-- the value of a text that is a rule -/
def rvl (l : List Int) (T : Nat → Int → Int) (a b : Int) : Int := (eE (hr l 40) (env T a b) 4 0).2.2
theorem rdv_k {ok : Bool} {p n : Nat} (h : p ≤ n) : ((pw (ok, p, 0) = -1 ∧ n ≤ p) ↔ (if ok = true ∧ p = n then (-1 : Int) else p) = -1) ∧ (if pw (ok, p, 0) = -1 ∧ p < n then (p : Int) else pw (ok, p, 0)) = (if ok = true ∧ p = n then -1 else (p : Int)) := by
  cases ok with
  | false =>
    rw [show pw (false, p, 0) = (p : Int) from rfl, if_neg (show ¬ ((p : Int) = -1 ∧ p < n) by omega), if_neg (show ¬ (false = true ∧ p = n) from fun z => by cases z.1)]
    exact ⟨⟨fun z => by omega, fun z => by omega⟩, rfl⟩
  | true =>
    rw [show pw (true, p, 0) = -1 from rfl]
    by_cases z : p = n
    · rw [if_pos (show true = true ∧ p = n from ⟨rfl, z⟩), if_neg (show ¬ ((-1 : Int) = -1 ∧ p < n) by omega)]
      exact ⟨⟨fun _ => rfl, fun _ => ⟨rfl, by omega⟩⟩, rfl⟩
    · rw [if_neg (show ¬ (true = true ∧ p = n) from fun y => z y.2), if_pos (show ((-1 : Int) = -1 ∧ p < n) by omega)]
      exact ⟨⟨fun y => by omega, fun y => by omega⟩, rfl⟩
theorem AKs {F : Int → Int} {w : Int} (hw : w = if T 5 y = 0 then 0 else 1) : upA A 7 (updI (updI (updI (updI (updI (updI F 0 (T 0 (x * 6 + y))) 1 w) 2 (T 4 y)) 3 (T 1 (x * 6 + y))) 4 (T 1 (y * 6 + x))) 5 (T 7 0 % 12)) 7 0 = env T x y 111 ∧ upA A 7 (updI (updI (updI (updI (updI (updI F 0 (T 0 (x * 6 + y))) 1 w) 2 (T 4 y)) 3 (T 1 (x * 6 + y))) 4 (T 1 (y * 6 + x))) 5 (T 7 0 % 12)) 7 1 = env T x y 100 ∧ upA A 7 (updI (updI (updI (updI (updI (updI F 0 (T 0 (x * 6 + y))) 1 w) 2 (T 4 y)) 3 (T 1 (x * 6 + y))) 4 (T 1 (y * 6 + x))) 5 (T 7 0 % 12)) 7 2 = env T x y 116 ∧ upA A 7 (updI (updI (updI (updI (updI (updI F 0 (T 0 (x * 6 + y))) 1 w) 2 (T 4 y)) 3 (T 1 (x * 6 + y))) 4 (T 1 (y * 6 + x))) 5 (T 7 0 % 12)) 7 3 = env T x y 101 ∧ upA A 7 (updI (updI (updI (updI (updI (updI F 0 (T 0 (x * 6 + y))) 1 w) 2 (T 4 y)) 3 (T 1 (x * 6 + y))) 4 (T 1 (y * 6 + x))) 5 (T 7 0 % 12)) 7 4 = env T x y 102 ∧ upA A 7 (updI (updI (updI (updI (updI (updI F 0 (T 0 (x * 6 + y))) 1 w) 2 (T 4 y)) 3 (T 1 (x * 6 + y))) 4 (T 1 (y * 6 + x))) 5 (T 7 0 % 12)) 7 5 = env T x y 110 := by
  rw [upA_eq, hw]
  exact ⟨rfl, rfl, rfl, rfl, rfl, rfl⟩
theorem sp_Ref_readRule (K : ModAt hp q V A rd rl) (h3 : V 3 = (l.length : Int)) (hB : BA (A 2) l) (hl : l.length ≤ 80) : Sp g MX12_readRule (rm 229 0 0) [.ref q] hp (Eff (.int (B (rdv l = -1))) (fun hp2 => (∃ V2, ModAt hp2 q V2 A (.ref (q + 2)) rl ∧ SV [3, 8, 9, 10, 11, 16] V V2 ∧ V2 3 = 0 ∧ V2 11 = rdv l) ∧ SO hp hp2 q (q + 25))) := by
  have hn := NX_h hB.1
  have hR : RdL A (upN (upN (upN (upN V 8 l.length) 9 40) 3 0) 16 0) q (.ref (q + 2)) l 40 := ⟨2, .inl rfl, rfl, rfl, rfl, hl, fun z => absurd rfl z, by decide, hB.1, hB.2⟩
  have hA : AK (upN (upN (upN (upN V 8 l.length) 9 40) 3 0) 16 0) A (fun _ => 0) := .inl ⟨rfl, fun _ => rfl⟩
  have he : ∀ c : Int, 0 ≤ (fun _ => (0 : Int)) c ∧ (fun _ => (0 : Int)) c ≤ 99 := fun _ => ⟨Int.le_refl 0, by show (0 : Int) ≤ 99; decide⟩
  have hv := ev_all (g := g) (rl := rl) hR hA he 4 (by decide)
  have hr0 := rd_same hB.1 he
  have hg := GP_E hn 4 0 (by omega)
  have hs : SV [3, 8, 9, 10, 11, 16] V (upN (upN (upN (upN V 8 l.length) 9 40) 3 0) 16 0) := ((((SV.rf).up (by decide)).up (by decide)).up (by decide)).up (by decide)
  refine Sp_mk rfl (Nat.le_of_ble_eq_true rfl) ?_
  show wp g _ _ _ 0 0 0 [some (.ref q)] [] hp
  have O := SO.rf (hp := hp) (lo := q) (hi := q + 25)
  refine wp_aload_n (pc := 0) dX12_readRule_0 rfl ?_
  refine wp_bipush (pc := 1) (y := 40) dX12_readRule_1 (by decide) ?_
  refine wp_Vn (pc := 3) dX12_readRule_3 cl_X12_145 (sp_Ref_beginText K h3) rfl rfl K.1 (by rfl) (by decide) (Nat.le_of_ble_eq_true rfl) (fun hp3 e3 => ?_)
  obtain ⟨K, O1⟩ := e3
  replace O := SO.tr O O1
  refine wp_aload_n (pc := 6) dX12_readRule_6 rfl ?_
  refine wp_iconst (pc := 7) dX12_readRule_7 ?_
  refine wm_put dX12_readRule_8 pf_X12_184 K O (by decide) mset_16 rfl rfl (fun hp K O => ?_)
  rw [pv_up (by decide) (by decide)] at K
  refine wp_aload_n (pc := 11) dX12_readRule_11 rfl ?_
  refine wm_gets dX12_readRule_12 gf_X12_109 K (by rfl) (by repeat (first | assumption | exact pv10 | exact pv11 | (apply pv_o; decide; decide) | exact upN_eq | (apply upN_ne; decide) | (apply SV_at; assumption; decide) | exact rfl)) ?_
  refine wp_if_le (pc := 15) 24 dX12_readRule_15 (by decide) (by first | omega | exact TI.i5 (by assumption) | exact TI.i3 (by assumption) | exact TI.i2 (by assumption) | exact TI.i1 (by assumption) | exact TI.i0 (by assumption) | exact TI.i4 (by assumption) | exact TI.i6 (by assumption) | exact TI.i7 (by assumption)) (fun c15 => ?_) (fun c15 => ?_)
  ·
    have e0 : l = [] := List.eq_nil_of_length_eq_zero (by omega)
    have er : rdv l = -1 := if_pos e0
    rw [er] -- go
    refine wp_aload_n (pc := 24) dX12_readRule_24 rfl ?_
    refine wp_Vs (pc := 25) dX12_readRule_25 cl_X12_148 (sp_Ref_wasRight K (n := l.length) rfl (by first | exact hpi | decide) (by first | omega | (have : (rdl l).2.1 ≤ min l.length 40 := hg.2.1; omega)) (by omega)) rfl rfl K.1 (by rfl) (by decide) (Nat.le_of_ble_eq_true rfl) (fun hp25 e25 => ?_)
    obtain ⟨K, O1⟩ := e25
    replace O := SO.tr O O1
    first | exact wp_zb (pc := 28) dX12_readRule_28 rfl (by decide) (by decide) ⟨fun _ => rfl, fun _ => ⟨rfl, by omega⟩⟩ ⟨⟨_, K, (hs.up (by decide)).up (by decide), rfl, if_neg (by omega)⟩, O⟩ | exact wp_zb (pc := 28) dX12_readRule_28 rfl (by decide) (by decide) (by rw [er]; exact (rdv_k hpl).1) ⟨⟨_, K, (hs.up (by decide)).up (by decide), rfl, (by rw [er]; exact (rdv_k hpl).2)⟩, O⟩
  ·
    have e0 : ¬ l = [] := fun z => c15 (by rw [z]; decide)
    have er : rdv l = if (rdl l).1 = true ∧ (rdl l).2.1 = l.length then -1 else ((rdl l).2.1 : Int) := if_neg e0 -- go
    refine wp_aload_n (pc := 18) dX12_readRule_18 rfl ?_
    refine wp_iconst (pc := 19) dX12_readRule_19 ?_
    refine wp_Vs (pc := 20) dX12_readRule_20 cl_X12_171 (hv _ 0 K (by omega)) rfl rfl K.1 (by rfl) (by decide) (Nat.le_of_ble_eq_true rfl) (fun hp20 e20 => ?_)
    obtain ⟨K, O1⟩ := e20
    replace O := SO.tr O O1
    rw [← hr0.2.1, show pw (eE (hr l 40) (fun _ => 0) 4 0) = pw ((rdl l).1, (rdl l).2.1, 0) by unfold pw; rw [← hr0.1, ← hr0.2.1]] at K
    have hpi := pw_in (r := ((rdl l).1, (rdl l).2.1, 0)) (show (rdl l).2.1 ≤ 80 by have : (rdl l).2.1 ≤ min l.length 40 := hg.2.1; omega)
    have hpl : (rdl l).2.1 ≤ l.length := by have : (rdl l).2.1 ≤ min l.length 40 := hg.2.1; omega
    refine wp_pop (pc := 23) dX12_readRule_23 rfl ?_
    refine wp_aload_n (pc := 24) dX12_readRule_24 rfl ?_
    refine wp_Vs (pc := 25) dX12_readRule_25 cl_X12_148 (sp_Ref_wasRight K (n := l.length) rfl (by first | exact hpi | decide) (by first | omega | (have : (rdl l).2.1 ≤ min l.length 40 := hg.2.1; omega)) (by omega)) rfl rfl K.1 (by rfl) (by decide) (Nat.le_of_ble_eq_true rfl) (fun hp25 e25 => ?_)
    obtain ⟨K, O1⟩ := e25
    replace O := SO.tr O O1
    first | exact wp_zb (pc := 28) dX12_readRule_28 rfl (by decide) (by decide) ⟨fun _ => rfl, fun _ => ⟨rfl, by omega⟩⟩ ⟨⟨_, K, (hs.up (by decide)).up (by decide), rfl, if_neg (by omega)⟩, O⟩ | exact wp_zb (pc := 28) dX12_readRule_28 rfl (by decide) (by decide) (by rw [er]; exact (rdv_k hpl).1) ⟨⟨_, K, (hs.up (by decide)).up (by decide), rfl, (by rw [er]; exact (rdv_k hpl).2)⟩, O⟩
theorem rdv_l (h : rdv l = -1) (hb : byl l) : l.length ≤ 40 ∧ (l ≠ [] → (rdl l).1 = true) := by
  unfold rdv at h
  by_cases z : l = []
  · rw [z]; exact ⟨by decide, fun y => absurd rfl y⟩
  · rw [if_neg z] at h
    have hg := (GP_E (NX_h hb) 4 0 (by omega)).2.1
    have hg2 : (rdl l).2.1 ≤ min l.length 40 := hg
    by_cases y : (rdl l).1 = true ∧ (rdl l).2.1 = l.length
    · exact ⟨by omega, fun _ => y.1⟩
    · rw [if_neg y] at h; omega
theorem sb_nar (h : 0 ≤ c ∧ c ≤ 255) : (I (sb c)).toInt8.toInt32 = I (sb c) := by
  obtain ⟨n, rfl⟩ := Int.eq_ofNat_of_zero_le h.1
  have : ∀ n : Fin 256, (I (sb ((n : Nat) : Int))).toInt8.toInt32 = I (sb ((n : Nat) : Int)) := by decide +kernel
  exact this ⟨n, by omega⟩
theorem lp_Ref_rule (hB : BA (A 2) l) (hl : l.length ≤ 40) (h15 : l.length ≤ 40) (hv : rdv l = -1) : ∀ (m i : Nat), l.length < i + m → i ≤ l.length → ∀ (hp2 : Hp) (F : Int → Int) (K : ModAt hp2 q V2 (upA A 5 F) rd (.ref (q + 5))) (O : SO hp hp2 q (q + 25)) (hF : ∀ j : Nat, j < i → F j = sb (l.getD j 0)), wp g MX12_rule (rm 230 0 0) (Eff (.int (I 0)) (fun hp3 => (∃ F, ModAt hp3 q (upN V2 15 l.length) (upA A 5 F) rd (.ref (q + 5)) ∧ BA F l) ∧ SO hp hp3 q (q + 25))) 0 0 26 [some (.ref q), some (.int (I (l.length : Int))), some (.int (I (i : Int)))] [] hp2 := by
  intro m
  induction m with
  | zero => intro i h1 h2; exact absurd h1 (by omega)
  | succ m ih =>
    intro i h1 h2 hp2 F K O hF
    refine wp_iload_n (pc := 26) dX12_rule_26 rfl ?_
    refine wp_iload_n (pc := 27) dX12_rule_27 rfl ?_
    refine wp_icmp_ge (pc := 28) 49 dX12_rule_28 (by decide) (by first | omega | exact TI.i5 (by assumption) | exact TI.i3 (by assumption) | exact TI.i2 (by assumption) | exact TI.i1 (by assumption) | exact TI.i0 (by assumption) | exact TI.i4 (by assumption) | exact TI.i6 (by assumption) | exact TI.i7 (by assumption)) (by first | omega | exact TI.i5 (by assumption) | exact TI.i3 (by assumption) | exact TI.i2 (by assumption) | exact TI.i1 (by assumption) | exact TI.i0 (by assumption) | exact TI.i4 (by assumption) | exact TI.i6 (by assumption) | exact TI.i7 (by assumption)) (fun c28 => ?_) (fun c28 => ?_)
    ·
      have e : i = l.length := by omega
      subst e -- go
      refine wp_aload_n (pc := 49) dX12_rule_49 rfl ?_
      refine wp_iload_n (pc := 50) dX12_rule_50 rfl ?_
      refine wm_put dX12_rule_51 pf_X12_191 K O (by decide) mset_15 rfl rfl (fun hp K O => ?_)
      refine wp_iconst (pc := 54) dX12_rule_54 ?_
      exact wp_ir (pc := 55) dX12_rule_55 rfl (by decide) (by decide) (by first | rfl | omega) ⟨⟨F, K, hB.1, fun j hj => hF j hj⟩, O⟩
    ·
      refine wp_aload_n (pc := 31) dX12_rule_31 rfl ?_
      refine wm_get dX12_rule_32 gf_X12_24 K (by rfl) ?_
      refine wp_iload_n (pc := 35) dX12_rule_35 rfl ?_
      refine wp_aload_n (pc := 36) dX12_rule_36 rfl ?_
      refine wm_get dX12_rule_37 gf_X12_13 K (by rfl) ?_
      refine wp_iload_n (pc := 40) dX12_rule_40 rfl ?_
      refine wm_bald dX12_rule_41 K (by rfl) (by decide) (by decide) (by decide) (by omega) (by omega) (upA_ne (by decide) rfl) (hB.2 i (by omega)) ?_
      refine wm_bast dX12_rule_42 K O (by rfl) (by decide) (by decide) (by decide) (by omega) (by omega) upA_eq (sb_nar (byl_at hB.1 (by omega))) rfl (fun hp K O => ?_)
      rw [upA_upA] at K
      refine wp_iinc (pc := 43) dX12_rule_43 rfl (by decide) ?_
      refine wp_goto (pc := 46) 26 dX12_rule_46 (by decide) ?_
      refine wp_ls ?_ (ih (i + 1) (by omega) (by omega) _ _ K O (fun j hj => ?_))
      · repeat' (first | exact LE_0 | refine LE_s rfl ?_ | refine LE_s (I_c (by first | omega | (simp only [sm]; omega))) ?_ | refine LE_s (J_c (by first | omega | exact Int.pow_succ _ _ | exact (Int.pow_succ _ _).symm | exact (Int.pow_zero _).symm | (simp only [sm]; omega))) ?_ | refine LE_n ?_)
      · by_cases z : j = i
        · subst z; exact updI_eq
        · rw [updI_ne (by omega)]; exact hF j (by omega)
theorem sp_Ref_rule (K : ModAt hp q V A rd (.ref (q + 5))) (h3 : V 3 = (l.length : Int)) (hB : BA (A 2) l) (hl : l.length ≤ 80) : Sp g MX12_rule (rm 230 0 0) [.ref q] hp (Eff (.int (I (if rdv l = -1 then 0 else -1 - rdv l))) (fun hp2 => (∃ V2 A2 rd2, ModAt hp2 q V2 A2 rd2 (.ref (q + 5)) ∧ SV [3, 6, 8, 9, 10, 11, 15, 16] V V2 ∧ V2 3 = 0 ∧ V2 6 = 0 ∧ SA [5] A A2 ∧ (rdv l = -1 → V2 15 = l.length ∧ BA (A2 5) l) ∧ (¬ rdv l = -1 → V2 15 = V 15 ∧ A2 5 = A 5)) ∧ SO hp hp2 q (q + 25))) := by
  refine Sp_mk rfl (Nat.le_of_ble_eq_true rfl) ?_
  show wp g _ _ _ 0 0 0 [some (.ref q), none, none] [] hp
  have O := SO.rf (hp := hp) (lo := q) (hi := q + 25)
  refine wp_aload_n (pc := 0) dX12_rule_0 rfl ?_
  refine wp_iconst (pc := 1) dX12_rule_1 ?_
  refine wm_put dX12_rule_2 pf_X12_85 K O (by decide) mset_6 rfl rfl (fun hp K O => ?_)
  refine wp_aload_n (pc := 5) dX12_rule_5 rfl ?_
  refine wm_gets dX12_rule_6 gf_X12_103 K (by rfl) (by repeat (first | assumption | exact pv10 | exact pv11 | (apply pv_o; decide; decide) | exact upN_eq | (apply upN_ne; decide) | (apply SV_at; assumption; decide) | exact rfl)) ?_
  refine wp_istore_n (pc := 9) dX12_rule_9 (by decide) ?_
  refine wp_aload_n (pc := 10) dX12_rule_10 rfl ?_
  refine wp_Vs (pc := 11) dX12_rule_11 cl_X12_188 (sp_Ref_readRule K (upN_ne (by decide) h3) hB hl) rfl rfl K.1 (by rfl) (by decide) (Nat.le_of_ble_eq_true rfl) (fun hp11 e11 => ?_)
  obtain ⟨⟨V2, K, hs, e3, e11⟩, O1⟩ := e11
  replace O := SO.tr O O1
  have hs2 : SV [3, 6, 8, 9, 10, 11, 15, 16] V V2 := SV.tr (L2 := [3, 8, 9, 10, 11, 16]) ((SV.rf (V := V)).up (k := 6) (L := [6]) (by decide)) hs (by decide) (by decide)
  have e6 : V2 6 = 0 := SV_at hs (by decide) upN_eq
  have e15 : V2 15 = V 15 := SV_at hs (by decide) (upN_ne (by decide) rfl)
  first | refine wp_ifb_ne (pc := 14) 24 dX12_rule_14 (by decide) (fun c14 => ?_) (fun c14 => ?_) | refine wp_if_ne (pc := 14) 24 dX12_rule_14 (by decide) (by first | omega | exact TI.i5 (by assumption) | exact TI.i3 (by assumption) | exact TI.i2 (by assumption) | exact TI.i1 (by assumption) | exact TI.i0 (by assumption) | exact TI.i4 (by assumption) | exact TI.i6 (by assumption) | exact TI.i7 (by assumption)) (fun c14 => ?_) (fun c14 => ?_)
  ·
    rw [if_pos c14]
    have hl4 := (rdv_l c14 hB.1).1 -- go
    refine wp_iconst (pc := 24) dX12_rule_24 ?_
    refine wp_istore_n (pc := 25) dX12_rule_25 (by decide) ?_
    refine wp_ls ?_ (wp_post (fun v hp3 hv => ?_) (lp_Ref_rule (V2 := V2) (A := A) hB hl4 hl4 c14 (l.length + 1) 0 (by omega) (by omega) _ (A 5) (by rw [upA_id rfl]; exact K) O (fun j hj => by cases hj)))
    · repeat' (first | exact LE_0 | refine LE_s rfl ?_ | refine LE_s (I_c (by first | omega | (simp only [sm]; omega))) ?_ | refine LE_s (J_c (by first | omega | exact Int.pow_succ _ _ | exact (Int.pow_succ _ _).symm | exact (Int.pow_zero _).symm | (simp only [sm]; omega))) ?_ | refine LE_n ?_)
    · obtain ⟨hv, ⟨F, K, hb⟩, O⟩ := hv
      exact ⟨hv, ⟨_, _, _, K, hs2.up (by decide), (upN_ne (by decide) e3), (upN_ne (by decide) e6), (SA.rf).up (by decide), fun _ => ⟨upN_eq, by rw [upA_eq]; exact hb⟩, fun z => absurd c14 z⟩, O⟩
  ·
    rw [if_neg c14] -- go
    refine wp_iconst (pc := 17) dX12_rule_17 ?_
    refine wp_aload_n (pc := 18) dX12_rule_18 rfl ?_
    refine wm_gets dX12_rule_19 gf_X12_118 K (by rfl) (by repeat (first | assumption | exact pv10 | exact pv11 | (apply pv_o; decide; decide) | exact upN_eq | (apply upN_ne; decide) | (apply SV_at; assumption; decide) | exact rfl)) ?_
    refine wp_isub (pc := 22) dX12_rule_22 ?_
    exact wp_ir (pc := 23) dX12_rule_23 rfl (by decide) (by decide) (by first | rfl | omega) ⟨⟨V2, A, _, K, hs2, e3, e6, SA.rf, fun z => absurd z c14, fun _ => ⟨e15, rfl⟩⟩, O⟩
/-- the rule as the object holds it -/
def RuA (A : Nat → Int → Int) (V : Nat → Int) (q : Nat) (rl : Value) (t : List Int) : Prop := ∃ j, (j = 5 ∨ j = 6) ∧ rl = .ref (q + j) ∧ V 15 = (t.length : Int) ∧ BA (A j) t ∧ rdv t = -1
theorem ex_F : ex e csF [] = [jn 43 (jn 42 (e 100) (e 111)) (jn 47 (jn 42 (jn 45 1 (e 100)) (jn 43 (e 111) 9)) 2)] := rfl
theorem wv_F (hI : TI T N) : wv csF T x y = mx 0 (mi 9 (if 0 < T 5 y then T 0 (x * 6 + y) else (T 0 (x * 6 + y) + 9) / 2)) := by
  unfold wv
  rw [ex_F]
  have ho := hI.r0 (x * 6 + y)
  have h5 := hI.r5 y
  have k1 : ∀ o : Fin 10, jn 43 (jn 42 0 ((o : Nat) : Int)) (jn 47 (jn 42 (jn 45 1 0) (jn 43 ((o : Nat) : Int) 9)) 2) = (((o : Nat) : Int) + 9) / 2 := by decide +kernel
  have k2 : ∀ o : Fin 10, jn 43 (jn 42 1 ((o : Nat) : Int)) (jn 47 (jn 42 (jn 45 1 1) (jn 43 ((o : Nat) : Int) 9)) 2) = ((o : Nat) : Int) := by decide +kernel
  show mx 0 (mi 9 (jn 43 (jn 42 (if T 5 y = 0 then 0 else 1) (T 0 (x * 6 + y))) (jn 47 (jn 42 (jn 45 1 (if T 5 y = 0 then 0 else 1)) (jn 43 (T 0 (x * 6 + y)) 9)) 2))) = _
  obtain ⟨n, hn⟩ := Int.eq_ofNat_of_zero_le ho.1
  rw [hn]
  by_cases z : T 5 y = 0
  · rw [if_pos z, if_neg (by omega)]
    exact congrArg (fun v => mx 0 (mi 9 v)) (k1 ⟨n, by omega⟩)
  · rw [if_neg z, if_pos (by omega)]
    exact congrArg (fun v => mx 0 (mi 9 v)) (k2 ⟨n, by omega⟩)
theorem wv_R (hI : TI T N) (hb : byl t) (hv : rdv t = -1) (ht : t ≠ []) : wv (stl t) T x y = mx 0 (mi 9 (rvl t T x y)) ∧ InR (rvl t T x y) := by
  have h := rd_same hb (env_in hI x y)
  have ho := (rdv_l hv hb).2 ht
  have := h.2.2.2 ho []
  unfold wv stl
  rw [if_neg ht, this]
  exact ⟨rfl, h.2.2.1⟩
theorem RuA.red (h : RuA A V q rl t) (hA : ∀ j, j = 5 ∨ j = 6 → A2 j = A j) (h8 : V2 8 = (t.length : Int)) (h9 : V2 9 = 40) : RdL A2 V2 q rl t 40 := by
  obtain ⟨j, hj, hrl, h15, hB, hv⟩ := h
  have hl := (rdv_l hv hB.1).1
  exact ⟨j, .inr hj, hrl, h8, h9, by omega, fun _ => hl, by decide, hB.1, fun i hi => by rw [hA j hj]; exact hB.2 i hi⟩
theorem wo_ev {F : Int → Int} {w : Int} {b : Nat} (h : RuA A V q (.ref b) t) (hI : TI T N) (hw : w = if T 5 y = 0 then 0 else 1) : EvS g q (upN (upN (upN V 8 t.length) 9 40) 16 1) (upA A 7 (updI (updI (updI (updI (updI (updI F 0 (T 0 (x * 6 + y))) 1 w) 2 (T 4 y)) 3 (T 1 (x * 6 + y))) 4 (T 1 (y * 6 + x))) 5 (T 7 0 % 12))) (.ref b) (.ref b) (min t.length 40) MX12_held 228 (eE (hr t 40) (env T x y) 4) 0 := ev_all (h.red (fun j hj => upA_ne (by omega) rfl) rfl rfl) (.inr ⟨rfl, AKs hw⟩) (env_in hI x y) 4 (by decide)
theorem sp_Ref_wordsOf (K : ModAt hp q V A rd rl) (hI : TI T N) (ha : a = 1 ∨ a = 10) (hA : A a = flat T) (hu : RuA A V q rl t) (rx : 0 ≤ x ∧ x < 6) (ry : 0 ≤ y ∧ y < 6) : Sp g MX12_wordsOf (rm 229 0 0) [.ref q, .ref (q + a), .int (I x), .int (I y)] hp (Eff (.int (I (wv (stl t) T x y))) (fun hp2 => (∃ V2 A2 rd2, ModAt hp2 q V2 A2 rd2 rl ∧ SV [8, 9, 10, 11, 16] V V2 ∧ SA [7] A A2) ∧ SO hp hp2 q (q + 25))) := by
  have hm := mty_n ha
  have h5 := hI.r5 y
  have ho := hI.r0 (x * 6 + y)
  have h7 := hI.r7
  have h15 : V 15 = (t.length : Int) := by obtain ⟨j, hj, hrl, h15, hB, hv⟩ := hu; exact h15
  have hb : byl t := by obtain ⟨j, hj, hrl, h15, hB, hv⟩ := hu; exact hB.1
  have hv : rdv t = -1 := by obtain ⟨j, hj, hrl, h15, hB, hv⟩ := hu; exact hv
  have hl := (rdv_l hv hb).1
  obtain ⟨b, hbr⟩ : ∃ b, rl = .ref b := by obtain ⟨j, hj, hrl, h15, hB, hv⟩ := hu; exact ⟨_, hrl⟩
  have hmi : InR (mi 9 (rvl t T x y)) := by
    have := rd_same hb (env_in hI x y)
    have h3 : InR (rvl t T x y) := this.2.2.1
    unfold mi; split <;> omega
  refine Sp_mk rfl (Nat.le_of_ble_eq_true rfl) ?_
  show wp g _ _ _ 0 0 0 [some (.ref q), some (.ref (q + a)), some (.int (I x)), some (.int (I y)), none, none] [] hp
  have O := SO.rf (hp := hp) (lo := q) (hi := q + 25)
  refine wp_aload_n (pc := 0) dX12_wordsOf_0 rfl ?_
  refine wp_iload_n (pc := 1) dX12_wordsOf_1 rfl ?_
  refine wp_iload_n (pc := 2) dX12_wordsOf_2 rfl ?_
  refine wp_Sp (pc := 3) dX12_wordsOf_3 cl_X12_151 sp_Ref_pair rfl rfl (by decide) (Nat.le_of_ble_eq_true rfl) ?_
  refine wm_iald dX12_wordsOf_6 K (by first | rfl | assumption) (by first | decide | omega) (by first | decide | omega) (by decide) (by omega) (by omega) (by repeat (first | assumption | exact upA_eq | (apply upA_ne; first | decide | omega) | (apply SA_at; assumption; first | decide | (simp; omega)) | exact rfl)) (by first | exact flat5 (by omega) (by omega) | exact flat3 (by omega) (by omega) | exact flat2 (by omega) (by omega) | exact flat6 (by omega) (by omega) | exact flat4 (by omega) (by omega) | exact flat1 (by omega) (by omega) | exact flat0 (by omega) (by omega) | exact flat7 | exact rfl) ?_
  refine wp_istore (pc := 7) dX12_wordsOf_7 (by decide) ?_
  refine wp_aload_n (pc := 9) dX12_wordsOf_9 rfl ?_
  refine wp_bipush (pc := 10) (y := 54) dX12_wordsOf_10 (by decide) ?_
  refine wp_iload_n (pc := 12) dX12_wordsOf_12 rfl ?_
  refine wp_iadd (pc := 13) dX12_wordsOf_13 ?_
  refine wm_iald dX12_wordsOf_14 K (by first | rfl | assumption) (by first | decide | omega) (by first | decide | omega) (by decide) (by omega) (by omega) (by repeat (first | assumption | exact upA_eq | (apply upA_ne; first | decide | omega) | (apply SA_at; assumption; first | decide | (simp; omega)) | exact rfl)) (by first | exact flat5 (by omega) (by omega) | exact flat3 (by omega) (by omega) | exact flat2 (by omega) (by omega) | exact flat6 (by omega) (by omega) | exact flat4 (by omega) (by omega) | exact flat1 (by omega) (by omega) | exact flat0 (by omega) (by omega) | exact flat7 | exact rfl) ?_
  refine wp_if_le (pc := 15) 23 dX12_wordsOf_15 (by decide) (by first | omega | exact TI.i5 (by assumption) | exact TI.i3 (by assumption) | exact TI.i2 (by assumption) | exact TI.i1 (by assumption) | exact TI.i0 (by assumption) | exact TI.i4 (by assumption) | exact TI.i6 (by assumption) | exact TI.i7 (by assumption)) (fun c15 => ?_) (fun c15 => ?_)
  ·
    first
    | (exfalso; omega)
    | skip
      refine wp_iload (pc := 23) dX12_wordsOf_23 rfl ?_
      refine wp_bipush (pc := 25) (y := 9) dX12_wordsOf_25 (by decide) ?_
      refine wp_iadd (pc := 27) dX12_wordsOf_27 ?_
      refine wp_iconst (pc := 28) dX12_wordsOf_28 ?_
      refine wp_idiv (pc := 29) dX12_wordsOf_29 (by decide) (I_div (by omega) (by omega) (by omega) (by omega)) ?_
      refine wp_istore (pc := 30) dX12_wordsOf_30 (by decide) ?_
      refine wp_aload_n (pc := 32) dX12_wordsOf_32 rfl ?_
      refine wm_gets dX12_wordsOf_33 gf_X12_191 K (by rfl) (by repeat (first | assumption | exact pv10 | exact pv11 | (apply pv_o; decide; decide) | exact upN_eq | (apply upN_ne; decide) | (apply SV_at; assumption; decide) | exact rfl)) ?_
      refine wp_if_le (pc := 36) 155 dX12_wordsOf_36 (by decide) (by first | omega | exact TI.i5 (by assumption) | exact TI.i3 (by assumption) | exact TI.i2 (by assumption) | exact TI.i1 (by assumption) | exact TI.i0 (by assumption) | exact TI.i4 (by assumption) | exact TI.i6 (by assumption) | exact TI.i7 (by assumption)) (fun c36 => ?_) (fun c36 => ?_)
      ·
        have et : t = [] := List.eq_nil_of_length_eq_zero (by omega)
        have hw : wv (stl t) T x y = mx 0 (mi 9 (if 0 < T 5 y then T 0 (x * 6 + y) else (T 0 (x * 6 + y) + 9) / 2)) := by rw [et]; exact wv_F hI
        rw [hw] -- go
        refine wp_iconst (pc := 155) dX12_wordsOf_155 ?_
        refine wp_bipush (pc := 156) (y := 9) dX12_wordsOf_156 (by decide) ?_
        refine wp_iload (pc := 158) dX12_wordsOf_158 rfl ?_
        refine wp_min (pc := 160) dX12_wordsOf_160 ml_X12_194 ma_min_s ma_ini ma_min_c (by decide) (by decide) (by decide) (by decide) (Nat.le_of_ble_eq_true rfl) (by first | omega | (split <;> omega)) (by first | omega | (split <;> omega)) ?_
        refine wp_max (pc := 163) dX12_wordsOf_163 ml_X12_199 ma_max_s ma_ini ma_max_c (by decide) (by decide) (by decide) (by decide) (Nat.le_of_ble_eq_true rfl) (by first | omega | assumption | (unfold mi; repeat' split <;> omega)) (by first | omega | assumption | (unfold mi; repeat' split <;> omega)) ?_
        exact wp_ir (pc := 166) dX12_wordsOf_166 rfl (by decide) (by decide) (by first | rfl | (rw [if_pos (by omega)]) | (rw [if_neg (by omega)])) (by first | exact ⟨⟨_, _, _, K, SV.rf, SA.rf⟩, O⟩ | exact ⟨⟨_, _, _, K, (((((SV.rf).up (by decide)).up (by decide)).up (by decide)).up (by decide)).up (by decide) |>.up (by decide), (SA.rf).up (by decide)⟩, O⟩)
      ·
        have et : t ≠ [] := fun z => c36 (by rw [z]; decide)
        have hw := (wv_R (x := x) (y := y) hI hb hv et).1
        have hin := (wv_R (x := x) (y := y) hI hb hv et).2
        rw [hw] -- go
        refine wp_aload_n (pc := 39) dX12_wordsOf_39 rfl ?_
        refine wm_get dX12_wordsOf_40 gf_X12_30 K (by rfl) ?_
        refine wp_iconst (pc := 43) dX12_wordsOf_43 ?_
        refine wp_iload (pc := 44) dX12_wordsOf_44 rfl ?_
        refine wm_iast dX12_wordsOf_46 K O (by first | rfl | assumption) (by first | decide | omega) (by first | decide | omega) (by decide) (by omega) (by omega) (by repeat (first | assumption | exact upA_eq | (apply upA_ne; first | decide | omega) | (apply SA_at; assumption; first | decide | (simp; omega)) | exact rfl)) (by first | exact flatw5 (by omega) (by omega) | exact flatw3 (by omega) (by omega) | exact flatw2 (by omega) (by omega) | exact flatw6 (by omega) (by omega) | exact flatw4 (by omega) (by omega) | exact flatw1 (by omega) (by omega) | exact flatw0 (by omega) (by omega) | exact flatw7 | exact rfl) (fun hp K O => ?_)
        skip
        refine wp_aload_n (pc := 47) dX12_wordsOf_47 rfl ?_
        refine wm_get dX12_wordsOf_48 gf_X12_30 K (by rfl) ?_
        refine wp_iconst (pc := 51) dX12_wordsOf_51 ?_
        refine wp_aload_n (pc := 52) dX12_wordsOf_52 rfl ?_
        refine wp_bipush (pc := 53) (y := 54) dX12_wordsOf_53 (by decide) ?_
        refine wp_iload_n (pc := 55) dX12_wordsOf_55 rfl ?_
        refine wp_iadd (pc := 56) dX12_wordsOf_56 ?_
        refine wm_iald dX12_wordsOf_57 K (by first | rfl | assumption) (by first | decide | omega) (by first | decide | omega) (by decide) (by omega) (by omega) (by repeat (first | assumption | exact upA_eq | (apply upA_ne; first | decide | omega) | (apply SA_at; assumption; first | decide | (simp; omega)) | exact rfl)) (by first | exact flat5 (by omega) (by omega) | exact flat3 (by omega) (by omega) | exact flat2 (by omega) (by omega) | exact flat6 (by omega) (by omega) | exact flat4 (by omega) (by omega) | exact flat1 (by omega) (by omega) | exact flat0 (by omega) (by omega) | exact flat7 | exact rfl) ?_
        refine wp_if_le (pc := 58) 65 dX12_wordsOf_58 (by decide) (by first | omega | exact TI.i5 (by assumption) | exact TI.i3 (by assumption) | exact TI.i2 (by assumption) | exact TI.i1 (by assumption) | exact TI.i0 (by assumption) | exact TI.i4 (by assumption) | exact TI.i6 (by assumption) | exact TI.i7 (by assumption)) (fun c58 => ?_) (fun c58 => ?_)
        ·
          first
          | (exfalso; omega)
          | skip
            refine wp_iconst (pc := 65) dX12_wordsOf_65 ?_
            refine wm_iast dX12_wordsOf_66 K O (by first | rfl | assumption) (by first | decide | omega) (by first | decide | omega) (by decide) (by omega) (by omega) (by repeat (first | assumption | exact upA_eq | (apply upA_ne; first | decide | omega) | (apply SA_at; assumption; first | decide | (simp; omega)) | exact rfl)) (by first | exact flatw5 (by omega) (by omega) | exact flatw3 (by omega) (by omega) | exact flatw2 (by omega) (by omega) | exact flatw6 (by omega) (by omega) | exact flatw4 (by omega) (by omega) | exact flatw1 (by omega) (by omega) | exact flatw0 (by omega) (by omega) | exact flatw7 | exact rfl) (fun hp K O => ?_)
            rw [upA_upA] at K
            refine wp_aload_n (pc := 67) dX12_wordsOf_67 rfl ?_
            refine wm_get dX12_wordsOf_68 gf_X12_30 K (by rfl) ?_
            refine wp_iconst (pc := 71) dX12_wordsOf_71 ?_
            refine wp_aload_n (pc := 72) dX12_wordsOf_72 rfl ?_
            refine wp_bipush (pc := 73) (y := 48) dX12_wordsOf_73 (by decide) ?_
            refine wp_iload_n (pc := 75) dX12_wordsOf_75 rfl ?_
            refine wp_iadd (pc := 76) dX12_wordsOf_76 ?_
            refine wm_iald dX12_wordsOf_77 K (by first | rfl | assumption) (by first | decide | omega) (by first | decide | omega) (by decide) (by omega) (by omega) (by repeat (first | assumption | exact upA_eq | (apply upA_ne; first | decide | omega) | (apply SA_at; assumption; first | decide | (simp; omega)) | exact rfl)) (by first | exact flat5 (by omega) (by omega) | exact flat3 (by omega) (by omega) | exact flat2 (by omega) (by omega) | exact flat6 (by omega) (by omega) | exact flat4 (by omega) (by omega) | exact flat1 (by omega) (by omega) | exact flat0 (by omega) (by omega) | exact flat7 | exact rfl) ?_
            refine wm_iast dX12_wordsOf_78 K O (by first | rfl | assumption) (by first | decide | omega) (by first | decide | omega) (by decide) (by omega) (by omega) (by repeat (first | assumption | exact upA_eq | (apply upA_ne; first | decide | omega) | (apply SA_at; assumption; first | decide | (simp; omega)) | exact rfl)) (by first | exact flatw5 (by omega) (by omega) | exact flatw3 (by omega) (by omega) | exact flatw2 (by omega) (by omega) | exact flatw6 (by omega) (by omega) | exact flatw4 (by omega) (by omega) | exact flatw1 (by omega) (by omega) | exact flatw0 (by omega) (by omega) | exact flatw7 | exact rfl) (fun hp K O => ?_)
            rw [upA_upA] at K
            refine wp_aload_n (pc := 79) dX12_wordsOf_79 rfl ?_
            refine wm_get dX12_wordsOf_80 gf_X12_30 K (by rfl) ?_
            refine wp_iconst (pc := 83) dX12_wordsOf_83 ?_
            refine wp_aload_n (pc := 84) dX12_wordsOf_84 rfl ?_
            refine wp_bipush (pc := 85) (y := 66) dX12_wordsOf_85 (by decide) ?_
            refine wp_iload_n (pc := 87) dX12_wordsOf_87 rfl ?_
            refine wp_iload_n (pc := 88) dX12_wordsOf_88 rfl ?_
            refine wp_Sp (pc := 89) dX12_wordsOf_89 cl_X12_151 sp_Ref_pair rfl rfl (by decide) (Nat.le_of_ble_eq_true rfl) ?_
            refine wp_iadd (pc := 92) dX12_wordsOf_92 ?_
            refine wm_iald dX12_wordsOf_93 K (by first | rfl | assumption) (by first | decide | omega) (by first | decide | omega) (by decide) (by omega) (by omega) (by repeat (first | assumption | exact upA_eq | (apply upA_ne; first | decide | omega) | (apply SA_at; assumption; first | decide | (simp; omega)) | exact rfl)) (by first | exact flat5 (by omega) (by omega) | exact flat3 (by omega) (by omega) | exact flat2 (by omega) (by omega) | exact flat6 (by omega) (by omega) | exact flat4 (by omega) (by omega) | exact flat1 (by omega) (by omega) | exact flat0 (by omega) (by omega) | exact flat7 | exact rfl) ?_
            refine wm_iast dX12_wordsOf_94 K O (by first | rfl | assumption) (by first | decide | omega) (by first | decide | omega) (by decide) (by omega) (by omega) (by repeat (first | assumption | exact upA_eq | (apply upA_ne; first | decide | omega) | (apply SA_at; assumption; first | decide | (simp; omega)) | exact rfl)) (by first | exact flatw5 (by omega) (by omega) | exact flatw3 (by omega) (by omega) | exact flatw2 (by omega) (by omega) | exact flatw6 (by omega) (by omega) | exact flatw4 (by omega) (by omega) | exact flatw1 (by omega) (by omega) | exact flatw0 (by omega) (by omega) | exact flatw7 | exact rfl) (fun hp K O => ?_)
            rw [upA_upA] at K
            refine wp_aload_n (pc := 95) dX12_wordsOf_95 rfl ?_
            refine wm_get dX12_wordsOf_96 gf_X12_30 K (by rfl) ?_
            refine wp_iconst (pc := 99) dX12_wordsOf_99 ?_
            refine wp_aload_n (pc := 100) dX12_wordsOf_100 rfl ?_
            refine wp_bipush (pc := 101) (y := 66) dX12_wordsOf_101 (by decide) ?_
            refine wp_iload_n (pc := 103) dX12_wordsOf_103 rfl ?_
            refine wp_iload_n (pc := 104) dX12_wordsOf_104 rfl ?_
            refine wp_Sp (pc := 105) dX12_wordsOf_105 cl_X12_151 sp_Ref_pair rfl rfl (by decide) (Nat.le_of_ble_eq_true rfl) ?_
            refine wp_iadd (pc := 108) dX12_wordsOf_108 ?_
            refine wm_iald dX12_wordsOf_109 K (by first | rfl | assumption) (by first | decide | omega) (by first | decide | omega) (by decide) (by omega) (by omega) (by repeat (first | assumption | exact upA_eq | (apply upA_ne; first | decide | omega) | (apply SA_at; assumption; first | decide | (simp; omega)) | exact rfl)) (by first | exact flat5 (by omega) (by omega) | exact flat3 (by omega) (by omega) | exact flat2 (by omega) (by omega) | exact flat6 (by omega) (by omega) | exact flat4 (by omega) (by omega) | exact flat1 (by omega) (by omega) | exact flat0 (by omega) (by omega) | exact flat7 | exact rfl) ?_
            refine wm_iast dX12_wordsOf_110 K O (by first | rfl | assumption) (by first | decide | omega) (by first | decide | omega) (by decide) (by omega) (by omega) (by repeat (first | assumption | exact upA_eq | (apply upA_ne; first | decide | omega) | (apply SA_at; assumption; first | decide | (simp; omega)) | exact rfl)) (by first | exact flatw5 (by omega) (by omega) | exact flatw3 (by omega) (by omega) | exact flatw2 (by omega) (by omega) | exact flatw6 (by omega) (by omega) | exact flatw4 (by omega) (by omega) | exact flatw1 (by omega) (by omega) | exact flatw0 (by omega) (by omega) | exact flatw7 | exact rfl) (fun hp K O => ?_)
            rw [upA_upA] at K
            refine wp_aload_n (pc := 111) dX12_wordsOf_111 rfl ?_
            refine wm_get dX12_wordsOf_112 gf_X12_30 K (by rfl) ?_
            refine wp_iconst (pc := 115) dX12_wordsOf_115 ?_
            refine wp_aload_n (pc := 116) dX12_wordsOf_116 rfl ?_
            refine wp_bipush (pc := 117) (y := 102) dX12_wordsOf_117 (by decide) ?_
            refine wm_iald dX12_wordsOf_119 K (by first | rfl | assumption) (by first | decide | omega) (by first | decide | omega) (by decide) (by omega) (by omega) (by repeat (first | assumption | exact upA_eq | (apply upA_ne; first | decide | omega) | (apply SA_at; assumption; first | decide | (simp; omega)) | exact rfl)) (by first | exact flat5 (by omega) (by omega) | exact flat3 (by omega) (by omega) | exact flat2 (by omega) (by omega) | exact flat6 (by omega) (by omega) | exact flat4 (by omega) (by omega) | exact flat1 (by omega) (by omega) | exact flat0 (by omega) (by omega) | exact flat7 | exact rfl) ?_
            refine wp_bipush (pc := 120) (y := 12) dX12_wordsOf_120 (by decide) ?_
            refine wp_irem (pc := 122) dX12_wordsOf_122 (by decide) (I_rem (by omega) (by omega) (by omega) (by omega)) ?_
            refine wm_iast dX12_wordsOf_123 K O (by first | rfl | assumption) (by first | decide | omega) (by first | decide | omega) (by decide) (by omega) (by omega) (by repeat (first | assumption | exact upA_eq | (apply upA_ne; first | decide | omega) | (apply SA_at; assumption; first | decide | (simp; omega)) | exact rfl)) (by first | exact flatw5 (by omega) (by omega) | exact flatw3 (by omega) (by omega) | exact flatw2 (by omega) (by omega) | exact flatw6 (by omega) (by omega) | exact flatw4 (by omega) (by omega) | exact flatw1 (by omega) (by omega) | exact flatw0 (by omega) (by omega) | exact flatw7 | exact rfl) (fun hp K O => ?_)
            rw [upA_upA] at K
            subst hbr
            refine wp_aload_n (pc := 124) dX12_wordsOf_124 rfl ?_
            refine wp_aload_n (pc := 125) dX12_wordsOf_125 rfl ?_
            refine wm_get dX12_wordsOf_126 gf_X12_24 K (by rfl) ?_
            refine wp_aload_n (pc := 129) dX12_wordsOf_129 rfl ?_
            refine wm_gets dX12_wordsOf_130 gf_X12_191 K (by rfl) (by repeat (first | assumption | exact pv10 | exact pv11 | (apply pv_o; decide; decide) | exact upN_eq | (apply upN_ne; decide) | (apply SV_at; assumption; decide) | exact rfl)) ?_
            refine wp_bipush (pc := 133) (y := 40) dX12_wordsOf_133 (by decide) ?_
            refine wp_Vn (pc := 135) dX12_wordsOf_135 cl_X12_121 (sp_Ref_begin (by first | assumption | omega | (repeat (first | assumption | exact pv10 | exact pv11 | (apply pv_o; decide; decide) | exact upN_eq | (apply upN_ne; decide) | (apply SV_at; assumption; decide) | exact upA_eq | (apply upA_ne; first | decide | omega) | (apply SA_at; assumption; first | decide | (simp; omega)) | exact rfl)))) rfl rfl K.1 (by rfl) (by decide) (Nat.le_of_ble_eq_true rfl) (fun hp135 e135 => ?_)
            obtain ⟨K, O1⟩ := e135
            replace O := SO.tr O O1
            refine wp_aload_n (pc := 138) dX12_wordsOf_138 rfl ?_
            refine wp_iconst (pc := 139) dX12_wordsOf_139 ?_
            refine wm_put dX12_wordsOf_140 pf_X12_184 K O (by decide) mset_16 rfl rfl (fun hp K O => ?_)
            rw [pv_up (by decide) (by decide)] at K
            refine wp_aload_n (pc := 143) dX12_wordsOf_143 rfl ?_
            refine wp_iconst (pc := 144) dX12_wordsOf_144 ?_
            refine wp_Vs (pc := 145) dX12_wordsOf_145 cl_X12_171 (wo_ev hu hI (by first | rw [if_neg (by omega)] | rw [if_pos (by omega)]) _ 0 K (by omega)) rfl rfl K.1 (by rfl) (by decide) (Nat.le_of_ble_eq_true rfl) (fun hp145 e145 => ?_)
            obtain ⟨K, O1⟩ := e145
            replace O := SO.tr O O1
            have eh : (eE (hr t 40) (env T x y) 4 0).2.2 = rvl t T x y := rfl
            rw [eh]
            refine wp_istore (pc := 148) dX12_wordsOf_148 (by decide) ?_
            refine wp_aload_n (pc := 150) dX12_wordsOf_150 rfl ?_
            refine wp_iconst (pc := 151) dX12_wordsOf_151 ?_
            refine wm_put dX12_wordsOf_152 pf_X12_184 K O (by decide) mset_16 rfl rfl (fun hp K O => ?_)
            refine wp_iconst (pc := 155) dX12_wordsOf_155 ?_
            refine wp_bipush (pc := 156) (y := 9) dX12_wordsOf_156 (by decide) ?_
            refine wp_iload (pc := 158) dX12_wordsOf_158 rfl ?_
            refine wp_min (pc := 160) dX12_wordsOf_160 ml_X12_194 ma_min_s ma_ini ma_min_c (by decide) (by decide) (by decide) (by decide) (Nat.le_of_ble_eq_true rfl) (by first | omega | (split <;> omega)) (by first | omega | (split <;> omega)) ?_
            refine wp_max (pc := 163) dX12_wordsOf_163 ml_X12_199 ma_max_s ma_ini ma_max_c (by decide) (by decide) (by decide) (by decide) (Nat.le_of_ble_eq_true rfl) (by first | omega | assumption | (unfold mi; repeat' split <;> omega)) (by first | omega | assumption | (unfold mi; repeat' split <;> omega)) ?_
            exact wp_ir (pc := 166) dX12_wordsOf_166 rfl (by decide) (by decide) (by first | rfl | (rw [if_pos (by omega)]) | (rw [if_neg (by omega)])) (by first | exact ⟨⟨_, _, _, K, SV.rf, SA.rf⟩, O⟩ | exact ⟨⟨_, _, _, K, (((((SV.rf).up (by decide)).up (by decide)).up (by decide)).up (by decide)).up (by decide) |>.up (by decide), (SA.rf).up (by decide)⟩, O⟩)
        ·
          first
          | (exfalso; omega)
          | skip
            refine wp_iconst (pc := 61) dX12_wordsOf_61 ?_
            refine wp_goto (pc := 62) 66 dX12_wordsOf_62 (by decide) ?_
            refine wm_iast dX12_wordsOf_66 K O (by first | rfl | assumption) (by first | decide | omega) (by first | decide | omega) (by decide) (by omega) (by omega) (by repeat (first | assumption | exact upA_eq | (apply upA_ne; first | decide | omega) | (apply SA_at; assumption; first | decide | (simp; omega)) | exact rfl)) (by first | exact flatw5 (by omega) (by omega) | exact flatw3 (by omega) (by omega) | exact flatw2 (by omega) (by omega) | exact flatw6 (by omega) (by omega) | exact flatw4 (by omega) (by omega) | exact flatw1 (by omega) (by omega) | exact flatw0 (by omega) (by omega) | exact flatw7 | exact rfl) (fun hp K O => ?_)
            rw [upA_upA] at K
            refine wp_aload_n (pc := 67) dX12_wordsOf_67 rfl ?_
            refine wm_get dX12_wordsOf_68 gf_X12_30 K (by rfl) ?_
            refine wp_iconst (pc := 71) dX12_wordsOf_71 ?_
            refine wp_aload_n (pc := 72) dX12_wordsOf_72 rfl ?_
            refine wp_bipush (pc := 73) (y := 48) dX12_wordsOf_73 (by decide) ?_
            refine wp_iload_n (pc := 75) dX12_wordsOf_75 rfl ?_
            refine wp_iadd (pc := 76) dX12_wordsOf_76 ?_
            refine wm_iald dX12_wordsOf_77 K (by first | rfl | assumption) (by first | decide | omega) (by first | decide | omega) (by decide) (by omega) (by omega) (by repeat (first | assumption | exact upA_eq | (apply upA_ne; first | decide | omega) | (apply SA_at; assumption; first | decide | (simp; omega)) | exact rfl)) (by first | exact flat5 (by omega) (by omega) | exact flat3 (by omega) (by omega) | exact flat2 (by omega) (by omega) | exact flat6 (by omega) (by omega) | exact flat4 (by omega) (by omega) | exact flat1 (by omega) (by omega) | exact flat0 (by omega) (by omega) | exact flat7 | exact rfl) ?_
            refine wm_iast dX12_wordsOf_78 K O (by first | rfl | assumption) (by first | decide | omega) (by first | decide | omega) (by decide) (by omega) (by omega) (by repeat (first | assumption | exact upA_eq | (apply upA_ne; first | decide | omega) | (apply SA_at; assumption; first | decide | (simp; omega)) | exact rfl)) (by first | exact flatw5 (by omega) (by omega) | exact flatw3 (by omega) (by omega) | exact flatw2 (by omega) (by omega) | exact flatw6 (by omega) (by omega) | exact flatw4 (by omega) (by omega) | exact flatw1 (by omega) (by omega) | exact flatw0 (by omega) (by omega) | exact flatw7 | exact rfl) (fun hp K O => ?_)
            rw [upA_upA] at K
            refine wp_aload_n (pc := 79) dX12_wordsOf_79 rfl ?_
            refine wm_get dX12_wordsOf_80 gf_X12_30 K (by rfl) ?_
            refine wp_iconst (pc := 83) dX12_wordsOf_83 ?_
            refine wp_aload_n (pc := 84) dX12_wordsOf_84 rfl ?_
            refine wp_bipush (pc := 85) (y := 66) dX12_wordsOf_85 (by decide) ?_
            refine wp_iload_n (pc := 87) dX12_wordsOf_87 rfl ?_
            refine wp_iload_n (pc := 88) dX12_wordsOf_88 rfl ?_
            refine wp_Sp (pc := 89) dX12_wordsOf_89 cl_X12_151 sp_Ref_pair rfl rfl (by decide) (Nat.le_of_ble_eq_true rfl) ?_
            refine wp_iadd (pc := 92) dX12_wordsOf_92 ?_
            refine wm_iald dX12_wordsOf_93 K (by first | rfl | assumption) (by first | decide | omega) (by first | decide | omega) (by decide) (by omega) (by omega) (by repeat (first | assumption | exact upA_eq | (apply upA_ne; first | decide | omega) | (apply SA_at; assumption; first | decide | (simp; omega)) | exact rfl)) (by first | exact flat5 (by omega) (by omega) | exact flat3 (by omega) (by omega) | exact flat2 (by omega) (by omega) | exact flat6 (by omega) (by omega) | exact flat4 (by omega) (by omega) | exact flat1 (by omega) (by omega) | exact flat0 (by omega) (by omega) | exact flat7 | exact rfl) ?_
            refine wm_iast dX12_wordsOf_94 K O (by first | rfl | assumption) (by first | decide | omega) (by first | decide | omega) (by decide) (by omega) (by omega) (by repeat (first | assumption | exact upA_eq | (apply upA_ne; first | decide | omega) | (apply SA_at; assumption; first | decide | (simp; omega)) | exact rfl)) (by first | exact flatw5 (by omega) (by omega) | exact flatw3 (by omega) (by omega) | exact flatw2 (by omega) (by omega) | exact flatw6 (by omega) (by omega) | exact flatw4 (by omega) (by omega) | exact flatw1 (by omega) (by omega) | exact flatw0 (by omega) (by omega) | exact flatw7 | exact rfl) (fun hp K O => ?_)
            rw [upA_upA] at K
            refine wp_aload_n (pc := 95) dX12_wordsOf_95 rfl ?_
            refine wm_get dX12_wordsOf_96 gf_X12_30 K (by rfl) ?_
            refine wp_iconst (pc := 99) dX12_wordsOf_99 ?_
            refine wp_aload_n (pc := 100) dX12_wordsOf_100 rfl ?_
            refine wp_bipush (pc := 101) (y := 66) dX12_wordsOf_101 (by decide) ?_
            refine wp_iload_n (pc := 103) dX12_wordsOf_103 rfl ?_
            refine wp_iload_n (pc := 104) dX12_wordsOf_104 rfl ?_
            refine wp_Sp (pc := 105) dX12_wordsOf_105 cl_X12_151 sp_Ref_pair rfl rfl (by decide) (Nat.le_of_ble_eq_true rfl) ?_
            refine wp_iadd (pc := 108) dX12_wordsOf_108 ?_
            refine wm_iald dX12_wordsOf_109 K (by first | rfl | assumption) (by first | decide | omega) (by first | decide | omega) (by decide) (by omega) (by omega) (by repeat (first | assumption | exact upA_eq | (apply upA_ne; first | decide | omega) | (apply SA_at; assumption; first | decide | (simp; omega)) | exact rfl)) (by first | exact flat5 (by omega) (by omega) | exact flat3 (by omega) (by omega) | exact flat2 (by omega) (by omega) | exact flat6 (by omega) (by omega) | exact flat4 (by omega) (by omega) | exact flat1 (by omega) (by omega) | exact flat0 (by omega) (by omega) | exact flat7 | exact rfl) ?_
            refine wm_iast dX12_wordsOf_110 K O (by first | rfl | assumption) (by first | decide | omega) (by first | decide | omega) (by decide) (by omega) (by omega) (by repeat (first | assumption | exact upA_eq | (apply upA_ne; first | decide | omega) | (apply SA_at; assumption; first | decide | (simp; omega)) | exact rfl)) (by first | exact flatw5 (by omega) (by omega) | exact flatw3 (by omega) (by omega) | exact flatw2 (by omega) (by omega) | exact flatw6 (by omega) (by omega) | exact flatw4 (by omega) (by omega) | exact flatw1 (by omega) (by omega) | exact flatw0 (by omega) (by omega) | exact flatw7 | exact rfl) (fun hp K O => ?_)
            rw [upA_upA] at K
            refine wp_aload_n (pc := 111) dX12_wordsOf_111 rfl ?_
            refine wm_get dX12_wordsOf_112 gf_X12_30 K (by rfl) ?_
            refine wp_iconst (pc := 115) dX12_wordsOf_115 ?_
            refine wp_aload_n (pc := 116) dX12_wordsOf_116 rfl ?_
            refine wp_bipush (pc := 117) (y := 102) dX12_wordsOf_117 (by decide) ?_
            refine wm_iald dX12_wordsOf_119 K (by first | rfl | assumption) (by first | decide | omega) (by first | decide | omega) (by decide) (by omega) (by omega) (by repeat (first | assumption | exact upA_eq | (apply upA_ne; first | decide | omega) | (apply SA_at; assumption; first | decide | (simp; omega)) | exact rfl)) (by first | exact flat5 (by omega) (by omega) | exact flat3 (by omega) (by omega) | exact flat2 (by omega) (by omega) | exact flat6 (by omega) (by omega) | exact flat4 (by omega) (by omega) | exact flat1 (by omega) (by omega) | exact flat0 (by omega) (by omega) | exact flat7 | exact rfl) ?_
            refine wp_bipush (pc := 120) (y := 12) dX12_wordsOf_120 (by decide) ?_
            refine wp_irem (pc := 122) dX12_wordsOf_122 (by decide) (I_rem (by omega) (by omega) (by omega) (by omega)) ?_
            refine wm_iast dX12_wordsOf_123 K O (by first | rfl | assumption) (by first | decide | omega) (by first | decide | omega) (by decide) (by omega) (by omega) (by repeat (first | assumption | exact upA_eq | (apply upA_ne; first | decide | omega) | (apply SA_at; assumption; first | decide | (simp; omega)) | exact rfl)) (by first | exact flatw5 (by omega) (by omega) | exact flatw3 (by omega) (by omega) | exact flatw2 (by omega) (by omega) | exact flatw6 (by omega) (by omega) | exact flatw4 (by omega) (by omega) | exact flatw1 (by omega) (by omega) | exact flatw0 (by omega) (by omega) | exact flatw7 | exact rfl) (fun hp K O => ?_)
            rw [upA_upA] at K
            subst hbr
            refine wp_aload_n (pc := 124) dX12_wordsOf_124 rfl ?_
            refine wp_aload_n (pc := 125) dX12_wordsOf_125 rfl ?_
            refine wm_get dX12_wordsOf_126 gf_X12_24 K (by rfl) ?_
            refine wp_aload_n (pc := 129) dX12_wordsOf_129 rfl ?_
            refine wm_gets dX12_wordsOf_130 gf_X12_191 K (by rfl) (by repeat (first | assumption | exact pv10 | exact pv11 | (apply pv_o; decide; decide) | exact upN_eq | (apply upN_ne; decide) | (apply SV_at; assumption; decide) | exact rfl)) ?_
            refine wp_bipush (pc := 133) (y := 40) dX12_wordsOf_133 (by decide) ?_
            refine wp_Vn (pc := 135) dX12_wordsOf_135 cl_X12_121 (sp_Ref_begin (by first | assumption | omega | (repeat (first | assumption | exact pv10 | exact pv11 | (apply pv_o; decide; decide) | exact upN_eq | (apply upN_ne; decide) | (apply SV_at; assumption; decide) | exact upA_eq | (apply upA_ne; first | decide | omega) | (apply SA_at; assumption; first | decide | (simp; omega)) | exact rfl)))) rfl rfl K.1 (by rfl) (by decide) (Nat.le_of_ble_eq_true rfl) (fun hp135 e135 => ?_)
            obtain ⟨K, O1⟩ := e135
            replace O := SO.tr O O1
            refine wp_aload_n (pc := 138) dX12_wordsOf_138 rfl ?_
            refine wp_iconst (pc := 139) dX12_wordsOf_139 ?_
            refine wm_put dX12_wordsOf_140 pf_X12_184 K O (by decide) mset_16 rfl rfl (fun hp K O => ?_)
            rw [pv_up (by decide) (by decide)] at K
            refine wp_aload_n (pc := 143) dX12_wordsOf_143 rfl ?_
            refine wp_iconst (pc := 144) dX12_wordsOf_144 ?_
            refine wp_Vs (pc := 145) dX12_wordsOf_145 cl_X12_171 (wo_ev hu hI (by first | rw [if_neg (by omega)] | rw [if_pos (by omega)]) _ 0 K (by omega)) rfl rfl K.1 (by rfl) (by decide) (Nat.le_of_ble_eq_true rfl) (fun hp145 e145 => ?_)
            obtain ⟨K, O1⟩ := e145
            replace O := SO.tr O O1
            have eh : (eE (hr t 40) (env T x y) 4 0).2.2 = rvl t T x y := rfl
            rw [eh]
            refine wp_istore (pc := 148) dX12_wordsOf_148 (by decide) ?_
            refine wp_aload_n (pc := 150) dX12_wordsOf_150 rfl ?_
            refine wp_iconst (pc := 151) dX12_wordsOf_151 ?_
            refine wm_put dX12_wordsOf_152 pf_X12_184 K O (by decide) mset_16 rfl rfl (fun hp K O => ?_)
            refine wp_iconst (pc := 155) dX12_wordsOf_155 ?_
            refine wp_bipush (pc := 156) (y := 9) dX12_wordsOf_156 (by decide) ?_
            refine wp_iload (pc := 158) dX12_wordsOf_158 rfl ?_
            refine wp_min (pc := 160) dX12_wordsOf_160 ml_X12_194 ma_min_s ma_ini ma_min_c (by decide) (by decide) (by decide) (by decide) (Nat.le_of_ble_eq_true rfl) (by first | omega | (split <;> omega)) (by first | omega | (split <;> omega)) ?_
            refine wp_max (pc := 163) dX12_wordsOf_163 ml_X12_199 ma_max_s ma_ini ma_max_c (by decide) (by decide) (by decide) (by decide) (Nat.le_of_ble_eq_true rfl) (by first | omega | assumption | (unfold mi; repeat' split <;> omega)) (by first | omega | assumption | (unfold mi; repeat' split <;> omega)) ?_
            exact wp_ir (pc := 166) dX12_wordsOf_166 rfl (by decide) (by decide) (by first | rfl | (rw [if_pos (by omega)]) | (rw [if_neg (by omega)])) (by first | exact ⟨⟨_, _, _, K, SV.rf, SA.rf⟩, O⟩ | exact ⟨⟨_, _, _, K, (((((SV.rf).up (by decide)).up (by decide)).up (by decide)).up (by decide)).up (by decide) |>.up (by decide), (SA.rf).up (by decide)⟩, O⟩)
  ·
    first
    | (exfalso; omega)
    | skip
      refine wp_iload (pc := 18) dX12_wordsOf_18 rfl ?_
      refine wp_goto (pc := 20) 30 dX12_wordsOf_20 (by decide) ?_
      refine wp_istore (pc := 30) dX12_wordsOf_30 (by decide) ?_
      refine wp_aload_n (pc := 32) dX12_wordsOf_32 rfl ?_
      refine wm_gets dX12_wordsOf_33 gf_X12_191 K (by rfl) (by repeat (first | assumption | exact pv10 | exact pv11 | (apply pv_o; decide; decide) | exact upN_eq | (apply upN_ne; decide) | (apply SV_at; assumption; decide) | exact rfl)) ?_
      refine wp_if_le (pc := 36) 155 dX12_wordsOf_36 (by decide) (by first | omega | exact TI.i5 (by assumption) | exact TI.i3 (by assumption) | exact TI.i2 (by assumption) | exact TI.i1 (by assumption) | exact TI.i0 (by assumption) | exact TI.i4 (by assumption) | exact TI.i6 (by assumption) | exact TI.i7 (by assumption)) (fun c36 => ?_) (fun c36 => ?_)
      ·
        have et : t = [] := List.eq_nil_of_length_eq_zero (by omega)
        have hw : wv (stl t) T x y = mx 0 (mi 9 (if 0 < T 5 y then T 0 (x * 6 + y) else (T 0 (x * 6 + y) + 9) / 2)) := by rw [et]; exact wv_F hI
        rw [hw] -- go
        refine wp_iconst (pc := 155) dX12_wordsOf_155 ?_
        refine wp_bipush (pc := 156) (y := 9) dX12_wordsOf_156 (by decide) ?_
        refine wp_iload (pc := 158) dX12_wordsOf_158 rfl ?_
        refine wp_min (pc := 160) dX12_wordsOf_160 ml_X12_194 ma_min_s ma_ini ma_min_c (by decide) (by decide) (by decide) (by decide) (Nat.le_of_ble_eq_true rfl) (by first | omega | (split <;> omega)) (by first | omega | (split <;> omega)) ?_
        refine wp_max (pc := 163) dX12_wordsOf_163 ml_X12_199 ma_max_s ma_ini ma_max_c (by decide) (by decide) (by decide) (by decide) (Nat.le_of_ble_eq_true rfl) (by first | omega | assumption | (unfold mi; repeat' split <;> omega)) (by first | omega | assumption | (unfold mi; repeat' split <;> omega)) ?_
        exact wp_ir (pc := 166) dX12_wordsOf_166 rfl (by decide) (by decide) (by first | rfl | (rw [if_pos (by omega)]) | (rw [if_neg (by omega)])) (by first | exact ⟨⟨_, _, _, K, SV.rf, SA.rf⟩, O⟩ | exact ⟨⟨_, _, _, K, (((((SV.rf).up (by decide)).up (by decide)).up (by decide)).up (by decide)).up (by decide) |>.up (by decide), (SA.rf).up (by decide)⟩, O⟩)
      ·
        have et : t ≠ [] := fun z => c36 (by rw [z]; decide)
        have hw := (wv_R (x := x) (y := y) hI hb hv et).1
        have hin := (wv_R (x := x) (y := y) hI hb hv et).2
        rw [hw] -- go
        refine wp_aload_n (pc := 39) dX12_wordsOf_39 rfl ?_
        refine wm_get dX12_wordsOf_40 gf_X12_30 K (by rfl) ?_
        refine wp_iconst (pc := 43) dX12_wordsOf_43 ?_
        refine wp_iload (pc := 44) dX12_wordsOf_44 rfl ?_
        refine wm_iast dX12_wordsOf_46 K O (by first | rfl | assumption) (by first | decide | omega) (by first | decide | omega) (by decide) (by omega) (by omega) (by repeat (first | assumption | exact upA_eq | (apply upA_ne; first | decide | omega) | (apply SA_at; assumption; first | decide | (simp; omega)) | exact rfl)) (by first | exact flatw5 (by omega) (by omega) | exact flatw3 (by omega) (by omega) | exact flatw2 (by omega) (by omega) | exact flatw6 (by omega) (by omega) | exact flatw4 (by omega) (by omega) | exact flatw1 (by omega) (by omega) | exact flatw0 (by omega) (by omega) | exact flatw7 | exact rfl) (fun hp K O => ?_)
        skip
        refine wp_aload_n (pc := 47) dX12_wordsOf_47 rfl ?_
        refine wm_get dX12_wordsOf_48 gf_X12_30 K (by rfl) ?_
        refine wp_iconst (pc := 51) dX12_wordsOf_51 ?_
        refine wp_aload_n (pc := 52) dX12_wordsOf_52 rfl ?_
        refine wp_bipush (pc := 53) (y := 54) dX12_wordsOf_53 (by decide) ?_
        refine wp_iload_n (pc := 55) dX12_wordsOf_55 rfl ?_
        refine wp_iadd (pc := 56) dX12_wordsOf_56 ?_
        refine wm_iald dX12_wordsOf_57 K (by first | rfl | assumption) (by first | decide | omega) (by first | decide | omega) (by decide) (by omega) (by omega) (by repeat (first | assumption | exact upA_eq | (apply upA_ne; first | decide | omega) | (apply SA_at; assumption; first | decide | (simp; omega)) | exact rfl)) (by first | exact flat5 (by omega) (by omega) | exact flat3 (by omega) (by omega) | exact flat2 (by omega) (by omega) | exact flat6 (by omega) (by omega) | exact flat4 (by omega) (by omega) | exact flat1 (by omega) (by omega) | exact flat0 (by omega) (by omega) | exact flat7 | exact rfl) ?_
        refine wp_if_le (pc := 58) 65 dX12_wordsOf_58 (by decide) (by first | omega | exact TI.i5 (by assumption) | exact TI.i3 (by assumption) | exact TI.i2 (by assumption) | exact TI.i1 (by assumption) | exact TI.i0 (by assumption) | exact TI.i4 (by assumption) | exact TI.i6 (by assumption) | exact TI.i7 (by assumption)) (fun c58 => ?_) (fun c58 => ?_)
        ·
          first
          | (exfalso; omega)
          | skip
            refine wp_iconst (pc := 65) dX12_wordsOf_65 ?_
            refine wm_iast dX12_wordsOf_66 K O (by first | rfl | assumption) (by first | decide | omega) (by first | decide | omega) (by decide) (by omega) (by omega) (by repeat (first | assumption | exact upA_eq | (apply upA_ne; first | decide | omega) | (apply SA_at; assumption; first | decide | (simp; omega)) | exact rfl)) (by first | exact flatw5 (by omega) (by omega) | exact flatw3 (by omega) (by omega) | exact flatw2 (by omega) (by omega) | exact flatw6 (by omega) (by omega) | exact flatw4 (by omega) (by omega) | exact flatw1 (by omega) (by omega) | exact flatw0 (by omega) (by omega) | exact flatw7 | exact rfl) (fun hp K O => ?_)
            rw [upA_upA] at K
            refine wp_aload_n (pc := 67) dX12_wordsOf_67 rfl ?_
            refine wm_get dX12_wordsOf_68 gf_X12_30 K (by rfl) ?_
            refine wp_iconst (pc := 71) dX12_wordsOf_71 ?_
            refine wp_aload_n (pc := 72) dX12_wordsOf_72 rfl ?_
            refine wp_bipush (pc := 73) (y := 48) dX12_wordsOf_73 (by decide) ?_
            refine wp_iload_n (pc := 75) dX12_wordsOf_75 rfl ?_
            refine wp_iadd (pc := 76) dX12_wordsOf_76 ?_
            refine wm_iald dX12_wordsOf_77 K (by first | rfl | assumption) (by first | decide | omega) (by first | decide | omega) (by decide) (by omega) (by omega) (by repeat (first | assumption | exact upA_eq | (apply upA_ne; first | decide | omega) | (apply SA_at; assumption; first | decide | (simp; omega)) | exact rfl)) (by first | exact flat5 (by omega) (by omega) | exact flat3 (by omega) (by omega) | exact flat2 (by omega) (by omega) | exact flat6 (by omega) (by omega) | exact flat4 (by omega) (by omega) | exact flat1 (by omega) (by omega) | exact flat0 (by omega) (by omega) | exact flat7 | exact rfl) ?_
            refine wm_iast dX12_wordsOf_78 K O (by first | rfl | assumption) (by first | decide | omega) (by first | decide | omega) (by decide) (by omega) (by omega) (by repeat (first | assumption | exact upA_eq | (apply upA_ne; first | decide | omega) | (apply SA_at; assumption; first | decide | (simp; omega)) | exact rfl)) (by first | exact flatw5 (by omega) (by omega) | exact flatw3 (by omega) (by omega) | exact flatw2 (by omega) (by omega) | exact flatw6 (by omega) (by omega) | exact flatw4 (by omega) (by omega) | exact flatw1 (by omega) (by omega) | exact flatw0 (by omega) (by omega) | exact flatw7 | exact rfl) (fun hp K O => ?_)
            rw [upA_upA] at K
            refine wp_aload_n (pc := 79) dX12_wordsOf_79 rfl ?_
            refine wm_get dX12_wordsOf_80 gf_X12_30 K (by rfl) ?_
            refine wp_iconst (pc := 83) dX12_wordsOf_83 ?_
            refine wp_aload_n (pc := 84) dX12_wordsOf_84 rfl ?_
            refine wp_bipush (pc := 85) (y := 66) dX12_wordsOf_85 (by decide) ?_
            refine wp_iload_n (pc := 87) dX12_wordsOf_87 rfl ?_
            refine wp_iload_n (pc := 88) dX12_wordsOf_88 rfl ?_
            refine wp_Sp (pc := 89) dX12_wordsOf_89 cl_X12_151 sp_Ref_pair rfl rfl (by decide) (Nat.le_of_ble_eq_true rfl) ?_
            refine wp_iadd (pc := 92) dX12_wordsOf_92 ?_
            refine wm_iald dX12_wordsOf_93 K (by first | rfl | assumption) (by first | decide | omega) (by first | decide | omega) (by decide) (by omega) (by omega) (by repeat (first | assumption | exact upA_eq | (apply upA_ne; first | decide | omega) | (apply SA_at; assumption; first | decide | (simp; omega)) | exact rfl)) (by first | exact flat5 (by omega) (by omega) | exact flat3 (by omega) (by omega) | exact flat2 (by omega) (by omega) | exact flat6 (by omega) (by omega) | exact flat4 (by omega) (by omega) | exact flat1 (by omega) (by omega) | exact flat0 (by omega) (by omega) | exact flat7 | exact rfl) ?_
            refine wm_iast dX12_wordsOf_94 K O (by first | rfl | assumption) (by first | decide | omega) (by first | decide | omega) (by decide) (by omega) (by omega) (by repeat (first | assumption | exact upA_eq | (apply upA_ne; first | decide | omega) | (apply SA_at; assumption; first | decide | (simp; omega)) | exact rfl)) (by first | exact flatw5 (by omega) (by omega) | exact flatw3 (by omega) (by omega) | exact flatw2 (by omega) (by omega) | exact flatw6 (by omega) (by omega) | exact flatw4 (by omega) (by omega) | exact flatw1 (by omega) (by omega) | exact flatw0 (by omega) (by omega) | exact flatw7 | exact rfl) (fun hp K O => ?_)
            rw [upA_upA] at K
            refine wp_aload_n (pc := 95) dX12_wordsOf_95 rfl ?_
            refine wm_get dX12_wordsOf_96 gf_X12_30 K (by rfl) ?_
            refine wp_iconst (pc := 99) dX12_wordsOf_99 ?_
            refine wp_aload_n (pc := 100) dX12_wordsOf_100 rfl ?_
            refine wp_bipush (pc := 101) (y := 66) dX12_wordsOf_101 (by decide) ?_
            refine wp_iload_n (pc := 103) dX12_wordsOf_103 rfl ?_
            refine wp_iload_n (pc := 104) dX12_wordsOf_104 rfl ?_
            refine wp_Sp (pc := 105) dX12_wordsOf_105 cl_X12_151 sp_Ref_pair rfl rfl (by decide) (Nat.le_of_ble_eq_true rfl) ?_
            refine wp_iadd (pc := 108) dX12_wordsOf_108 ?_
            refine wm_iald dX12_wordsOf_109 K (by first | rfl | assumption) (by first | decide | omega) (by first | decide | omega) (by decide) (by omega) (by omega) (by repeat (first | assumption | exact upA_eq | (apply upA_ne; first | decide | omega) | (apply SA_at; assumption; first | decide | (simp; omega)) | exact rfl)) (by first | exact flat5 (by omega) (by omega) | exact flat3 (by omega) (by omega) | exact flat2 (by omega) (by omega) | exact flat6 (by omega) (by omega) | exact flat4 (by omega) (by omega) | exact flat1 (by omega) (by omega) | exact flat0 (by omega) (by omega) | exact flat7 | exact rfl) ?_
            refine wm_iast dX12_wordsOf_110 K O (by first | rfl | assumption) (by first | decide | omega) (by first | decide | omega) (by decide) (by omega) (by omega) (by repeat (first | assumption | exact upA_eq | (apply upA_ne; first | decide | omega) | (apply SA_at; assumption; first | decide | (simp; omega)) | exact rfl)) (by first | exact flatw5 (by omega) (by omega) | exact flatw3 (by omega) (by omega) | exact flatw2 (by omega) (by omega) | exact flatw6 (by omega) (by omega) | exact flatw4 (by omega) (by omega) | exact flatw1 (by omega) (by omega) | exact flatw0 (by omega) (by omega) | exact flatw7 | exact rfl) (fun hp K O => ?_)
            rw [upA_upA] at K
            refine wp_aload_n (pc := 111) dX12_wordsOf_111 rfl ?_
            refine wm_get dX12_wordsOf_112 gf_X12_30 K (by rfl) ?_
            refine wp_iconst (pc := 115) dX12_wordsOf_115 ?_
            refine wp_aload_n (pc := 116) dX12_wordsOf_116 rfl ?_
            refine wp_bipush (pc := 117) (y := 102) dX12_wordsOf_117 (by decide) ?_
            refine wm_iald dX12_wordsOf_119 K (by first | rfl | assumption) (by first | decide | omega) (by first | decide | omega) (by decide) (by omega) (by omega) (by repeat (first | assumption | exact upA_eq | (apply upA_ne; first | decide | omega) | (apply SA_at; assumption; first | decide | (simp; omega)) | exact rfl)) (by first | exact flat5 (by omega) (by omega) | exact flat3 (by omega) (by omega) | exact flat2 (by omega) (by omega) | exact flat6 (by omega) (by omega) | exact flat4 (by omega) (by omega) | exact flat1 (by omega) (by omega) | exact flat0 (by omega) (by omega) | exact flat7 | exact rfl) ?_
            refine wp_bipush (pc := 120) (y := 12) dX12_wordsOf_120 (by decide) ?_
            refine wp_irem (pc := 122) dX12_wordsOf_122 (by decide) (I_rem (by omega) (by omega) (by omega) (by omega)) ?_
            refine wm_iast dX12_wordsOf_123 K O (by first | rfl | assumption) (by first | decide | omega) (by first | decide | omega) (by decide) (by omega) (by omega) (by repeat (first | assumption | exact upA_eq | (apply upA_ne; first | decide | omega) | (apply SA_at; assumption; first | decide | (simp; omega)) | exact rfl)) (by first | exact flatw5 (by omega) (by omega) | exact flatw3 (by omega) (by omega) | exact flatw2 (by omega) (by omega) | exact flatw6 (by omega) (by omega) | exact flatw4 (by omega) (by omega) | exact flatw1 (by omega) (by omega) | exact flatw0 (by omega) (by omega) | exact flatw7 | exact rfl) (fun hp K O => ?_)
            rw [upA_upA] at K
            subst hbr
            refine wp_aload_n (pc := 124) dX12_wordsOf_124 rfl ?_
            refine wp_aload_n (pc := 125) dX12_wordsOf_125 rfl ?_
            refine wm_get dX12_wordsOf_126 gf_X12_24 K (by rfl) ?_
            refine wp_aload_n (pc := 129) dX12_wordsOf_129 rfl ?_
            refine wm_gets dX12_wordsOf_130 gf_X12_191 K (by rfl) (by repeat (first | assumption | exact pv10 | exact pv11 | (apply pv_o; decide; decide) | exact upN_eq | (apply upN_ne; decide) | (apply SV_at; assumption; decide) | exact rfl)) ?_
            refine wp_bipush (pc := 133) (y := 40) dX12_wordsOf_133 (by decide) ?_
            refine wp_Vn (pc := 135) dX12_wordsOf_135 cl_X12_121 (sp_Ref_begin (by first | assumption | omega | (repeat (first | assumption | exact pv10 | exact pv11 | (apply pv_o; decide; decide) | exact upN_eq | (apply upN_ne; decide) | (apply SV_at; assumption; decide) | exact upA_eq | (apply upA_ne; first | decide | omega) | (apply SA_at; assumption; first | decide | (simp; omega)) | exact rfl)))) rfl rfl K.1 (by rfl) (by decide) (Nat.le_of_ble_eq_true rfl) (fun hp135 e135 => ?_)
            obtain ⟨K, O1⟩ := e135
            replace O := SO.tr O O1
            refine wp_aload_n (pc := 138) dX12_wordsOf_138 rfl ?_
            refine wp_iconst (pc := 139) dX12_wordsOf_139 ?_
            refine wm_put dX12_wordsOf_140 pf_X12_184 K O (by decide) mset_16 rfl rfl (fun hp K O => ?_)
            rw [pv_up (by decide) (by decide)] at K
            refine wp_aload_n (pc := 143) dX12_wordsOf_143 rfl ?_
            refine wp_iconst (pc := 144) dX12_wordsOf_144 ?_
            refine wp_Vs (pc := 145) dX12_wordsOf_145 cl_X12_171 (wo_ev hu hI (by first | rw [if_neg (by omega)] | rw [if_pos (by omega)]) _ 0 K (by omega)) rfl rfl K.1 (by rfl) (by decide) (Nat.le_of_ble_eq_true rfl) (fun hp145 e145 => ?_)
            obtain ⟨K, O1⟩ := e145
            replace O := SO.tr O O1
            have eh : (eE (hr t 40) (env T x y) 4 0).2.2 = rvl t T x y := rfl
            rw [eh]
            refine wp_istore (pc := 148) dX12_wordsOf_148 (by decide) ?_
            refine wp_aload_n (pc := 150) dX12_wordsOf_150 rfl ?_
            refine wp_iconst (pc := 151) dX12_wordsOf_151 ?_
            refine wm_put dX12_wordsOf_152 pf_X12_184 K O (by decide) mset_16 rfl rfl (fun hp K O => ?_)
            refine wp_iconst (pc := 155) dX12_wordsOf_155 ?_
            refine wp_bipush (pc := 156) (y := 9) dX12_wordsOf_156 (by decide) ?_
            refine wp_iload (pc := 158) dX12_wordsOf_158 rfl ?_
            refine wp_min (pc := 160) dX12_wordsOf_160 ml_X12_194 ma_min_s ma_ini ma_min_c (by decide) (by decide) (by decide) (by decide) (Nat.le_of_ble_eq_true rfl) (by first | omega | (split <;> omega)) (by first | omega | (split <;> omega)) ?_
            refine wp_max (pc := 163) dX12_wordsOf_163 ml_X12_199 ma_max_s ma_ini ma_max_c (by decide) (by decide) (by decide) (by decide) (Nat.le_of_ble_eq_true rfl) (by first | omega | assumption | (unfold mi; repeat' split <;> omega)) (by first | omega | assumption | (unfold mi; repeat' split <;> omega)) ?_
            exact wp_ir (pc := 166) dX12_wordsOf_166 rfl (by decide) (by decide) (by first | rfl | (rw [if_pos (by omega)]) | (rw [if_neg (by omega)])) (by first | exact ⟨⟨_, _, _, K, SV.rf, SA.rf⟩, O⟩ | exact ⟨⟨_, _, _, K, (((((SV.rf).up (by decide)).up (by decide)).up (by decide)).up (by decide)).up (by decide) |>.up (by decide), (SA.rf).up (by decide)⟩, O⟩)
        ·
          first
          | (exfalso; omega)
          | skip
            refine wp_iconst (pc := 61) dX12_wordsOf_61 ?_
            refine wp_goto (pc := 62) 66 dX12_wordsOf_62 (by decide) ?_
            refine wm_iast dX12_wordsOf_66 K O (by first | rfl | assumption) (by first | decide | omega) (by first | decide | omega) (by decide) (by omega) (by omega) (by repeat (first | assumption | exact upA_eq | (apply upA_ne; first | decide | omega) | (apply SA_at; assumption; first | decide | (simp; omega)) | exact rfl)) (by first | exact flatw5 (by omega) (by omega) | exact flatw3 (by omega) (by omega) | exact flatw2 (by omega) (by omega) | exact flatw6 (by omega) (by omega) | exact flatw4 (by omega) (by omega) | exact flatw1 (by omega) (by omega) | exact flatw0 (by omega) (by omega) | exact flatw7 | exact rfl) (fun hp K O => ?_)
            rw [upA_upA] at K
            refine wp_aload_n (pc := 67) dX12_wordsOf_67 rfl ?_
            refine wm_get dX12_wordsOf_68 gf_X12_30 K (by rfl) ?_
            refine wp_iconst (pc := 71) dX12_wordsOf_71 ?_
            refine wp_aload_n (pc := 72) dX12_wordsOf_72 rfl ?_
            refine wp_bipush (pc := 73) (y := 48) dX12_wordsOf_73 (by decide) ?_
            refine wp_iload_n (pc := 75) dX12_wordsOf_75 rfl ?_
            refine wp_iadd (pc := 76) dX12_wordsOf_76 ?_
            refine wm_iald dX12_wordsOf_77 K (by first | rfl | assumption) (by first | decide | omega) (by first | decide | omega) (by decide) (by omega) (by omega) (by repeat (first | assumption | exact upA_eq | (apply upA_ne; first | decide | omega) | (apply SA_at; assumption; first | decide | (simp; omega)) | exact rfl)) (by first | exact flat5 (by omega) (by omega) | exact flat3 (by omega) (by omega) | exact flat2 (by omega) (by omega) | exact flat6 (by omega) (by omega) | exact flat4 (by omega) (by omega) | exact flat1 (by omega) (by omega) | exact flat0 (by omega) (by omega) | exact flat7 | exact rfl) ?_
            refine wm_iast dX12_wordsOf_78 K O (by first | rfl | assumption) (by first | decide | omega) (by first | decide | omega) (by decide) (by omega) (by omega) (by repeat (first | assumption | exact upA_eq | (apply upA_ne; first | decide | omega) | (apply SA_at; assumption; first | decide | (simp; omega)) | exact rfl)) (by first | exact flatw5 (by omega) (by omega) | exact flatw3 (by omega) (by omega) | exact flatw2 (by omega) (by omega) | exact flatw6 (by omega) (by omega) | exact flatw4 (by omega) (by omega) | exact flatw1 (by omega) (by omega) | exact flatw0 (by omega) (by omega) | exact flatw7 | exact rfl) (fun hp K O => ?_)
            rw [upA_upA] at K
            refine wp_aload_n (pc := 79) dX12_wordsOf_79 rfl ?_
            refine wm_get dX12_wordsOf_80 gf_X12_30 K (by rfl) ?_
            refine wp_iconst (pc := 83) dX12_wordsOf_83 ?_
            refine wp_aload_n (pc := 84) dX12_wordsOf_84 rfl ?_
            refine wp_bipush (pc := 85) (y := 66) dX12_wordsOf_85 (by decide) ?_
            refine wp_iload_n (pc := 87) dX12_wordsOf_87 rfl ?_
            refine wp_iload_n (pc := 88) dX12_wordsOf_88 rfl ?_
            refine wp_Sp (pc := 89) dX12_wordsOf_89 cl_X12_151 sp_Ref_pair rfl rfl (by decide) (Nat.le_of_ble_eq_true rfl) ?_
            refine wp_iadd (pc := 92) dX12_wordsOf_92 ?_
            refine wm_iald dX12_wordsOf_93 K (by first | rfl | assumption) (by first | decide | omega) (by first | decide | omega) (by decide) (by omega) (by omega) (by repeat (first | assumption | exact upA_eq | (apply upA_ne; first | decide | omega) | (apply SA_at; assumption; first | decide | (simp; omega)) | exact rfl)) (by first | exact flat5 (by omega) (by omega) | exact flat3 (by omega) (by omega) | exact flat2 (by omega) (by omega) | exact flat6 (by omega) (by omega) | exact flat4 (by omega) (by omega) | exact flat1 (by omega) (by omega) | exact flat0 (by omega) (by omega) | exact flat7 | exact rfl) ?_
            refine wm_iast dX12_wordsOf_94 K O (by first | rfl | assumption) (by first | decide | omega) (by first | decide | omega) (by decide) (by omega) (by omega) (by repeat (first | assumption | exact upA_eq | (apply upA_ne; first | decide | omega) | (apply SA_at; assumption; first | decide | (simp; omega)) | exact rfl)) (by first | exact flatw5 (by omega) (by omega) | exact flatw3 (by omega) (by omega) | exact flatw2 (by omega) (by omega) | exact flatw6 (by omega) (by omega) | exact flatw4 (by omega) (by omega) | exact flatw1 (by omega) (by omega) | exact flatw0 (by omega) (by omega) | exact flatw7 | exact rfl) (fun hp K O => ?_)
            rw [upA_upA] at K
            refine wp_aload_n (pc := 95) dX12_wordsOf_95 rfl ?_
            refine wm_get dX12_wordsOf_96 gf_X12_30 K (by rfl) ?_
            refine wp_iconst (pc := 99) dX12_wordsOf_99 ?_
            refine wp_aload_n (pc := 100) dX12_wordsOf_100 rfl ?_
            refine wp_bipush (pc := 101) (y := 66) dX12_wordsOf_101 (by decide) ?_
            refine wp_iload_n (pc := 103) dX12_wordsOf_103 rfl ?_
            refine wp_iload_n (pc := 104) dX12_wordsOf_104 rfl ?_
            refine wp_Sp (pc := 105) dX12_wordsOf_105 cl_X12_151 sp_Ref_pair rfl rfl (by decide) (Nat.le_of_ble_eq_true rfl) ?_
            refine wp_iadd (pc := 108) dX12_wordsOf_108 ?_
            refine wm_iald dX12_wordsOf_109 K (by first | rfl | assumption) (by first | decide | omega) (by first | decide | omega) (by decide) (by omega) (by omega) (by repeat (first | assumption | exact upA_eq | (apply upA_ne; first | decide | omega) | (apply SA_at; assumption; first | decide | (simp; omega)) | exact rfl)) (by first | exact flat5 (by omega) (by omega) | exact flat3 (by omega) (by omega) | exact flat2 (by omega) (by omega) | exact flat6 (by omega) (by omega) | exact flat4 (by omega) (by omega) | exact flat1 (by omega) (by omega) | exact flat0 (by omega) (by omega) | exact flat7 | exact rfl) ?_
            refine wm_iast dX12_wordsOf_110 K O (by first | rfl | assumption) (by first | decide | omega) (by first | decide | omega) (by decide) (by omega) (by omega) (by repeat (first | assumption | exact upA_eq | (apply upA_ne; first | decide | omega) | (apply SA_at; assumption; first | decide | (simp; omega)) | exact rfl)) (by first | exact flatw5 (by omega) (by omega) | exact flatw3 (by omega) (by omega) | exact flatw2 (by omega) (by omega) | exact flatw6 (by omega) (by omega) | exact flatw4 (by omega) (by omega) | exact flatw1 (by omega) (by omega) | exact flatw0 (by omega) (by omega) | exact flatw7 | exact rfl) (fun hp K O => ?_)
            rw [upA_upA] at K
            refine wp_aload_n (pc := 111) dX12_wordsOf_111 rfl ?_
            refine wm_get dX12_wordsOf_112 gf_X12_30 K (by rfl) ?_
            refine wp_iconst (pc := 115) dX12_wordsOf_115 ?_
            refine wp_aload_n (pc := 116) dX12_wordsOf_116 rfl ?_
            refine wp_bipush (pc := 117) (y := 102) dX12_wordsOf_117 (by decide) ?_
            refine wm_iald dX12_wordsOf_119 K (by first | rfl | assumption) (by first | decide | omega) (by first | decide | omega) (by decide) (by omega) (by omega) (by repeat (first | assumption | exact upA_eq | (apply upA_ne; first | decide | omega) | (apply SA_at; assumption; first | decide | (simp; omega)) | exact rfl)) (by first | exact flat5 (by omega) (by omega) | exact flat3 (by omega) (by omega) | exact flat2 (by omega) (by omega) | exact flat6 (by omega) (by omega) | exact flat4 (by omega) (by omega) | exact flat1 (by omega) (by omega) | exact flat0 (by omega) (by omega) | exact flat7 | exact rfl) ?_
            refine wp_bipush (pc := 120) (y := 12) dX12_wordsOf_120 (by decide) ?_
            refine wp_irem (pc := 122) dX12_wordsOf_122 (by decide) (I_rem (by omega) (by omega) (by omega) (by omega)) ?_
            refine wm_iast dX12_wordsOf_123 K O (by first | rfl | assumption) (by first | decide | omega) (by first | decide | omega) (by decide) (by omega) (by omega) (by repeat (first | assumption | exact upA_eq | (apply upA_ne; first | decide | omega) | (apply SA_at; assumption; first | decide | (simp; omega)) | exact rfl)) (by first | exact flatw5 (by omega) (by omega) | exact flatw3 (by omega) (by omega) | exact flatw2 (by omega) (by omega) | exact flatw6 (by omega) (by omega) | exact flatw4 (by omega) (by omega) | exact flatw1 (by omega) (by omega) | exact flatw0 (by omega) (by omega) | exact flatw7 | exact rfl) (fun hp K O => ?_)
            rw [upA_upA] at K
            subst hbr
            refine wp_aload_n (pc := 124) dX12_wordsOf_124 rfl ?_
            refine wp_aload_n (pc := 125) dX12_wordsOf_125 rfl ?_
            refine wm_get dX12_wordsOf_126 gf_X12_24 K (by rfl) ?_
            refine wp_aload_n (pc := 129) dX12_wordsOf_129 rfl ?_
            refine wm_gets dX12_wordsOf_130 gf_X12_191 K (by rfl) (by repeat (first | assumption | exact pv10 | exact pv11 | (apply pv_o; decide; decide) | exact upN_eq | (apply upN_ne; decide) | (apply SV_at; assumption; decide) | exact rfl)) ?_
            refine wp_bipush (pc := 133) (y := 40) dX12_wordsOf_133 (by decide) ?_
            refine wp_Vn (pc := 135) dX12_wordsOf_135 cl_X12_121 (sp_Ref_begin (by first | assumption | omega | (repeat (first | assumption | exact pv10 | exact pv11 | (apply pv_o; decide; decide) | exact upN_eq | (apply upN_ne; decide) | (apply SV_at; assumption; decide) | exact upA_eq | (apply upA_ne; first | decide | omega) | (apply SA_at; assumption; first | decide | (simp; omega)) | exact rfl)))) rfl rfl K.1 (by rfl) (by decide) (Nat.le_of_ble_eq_true rfl) (fun hp135 e135 => ?_)
            obtain ⟨K, O1⟩ := e135
            replace O := SO.tr O O1
            refine wp_aload_n (pc := 138) dX12_wordsOf_138 rfl ?_
            refine wp_iconst (pc := 139) dX12_wordsOf_139 ?_
            refine wm_put dX12_wordsOf_140 pf_X12_184 K O (by decide) mset_16 rfl rfl (fun hp K O => ?_)
            rw [pv_up (by decide) (by decide)] at K
            refine wp_aload_n (pc := 143) dX12_wordsOf_143 rfl ?_
            refine wp_iconst (pc := 144) dX12_wordsOf_144 ?_
            refine wp_Vs (pc := 145) dX12_wordsOf_145 cl_X12_171 (wo_ev hu hI (by first | rw [if_neg (by omega)] | rw [if_pos (by omega)]) _ 0 K (by omega)) rfl rfl K.1 (by rfl) (by decide) (Nat.le_of_ble_eq_true rfl) (fun hp145 e145 => ?_)
            obtain ⟨K, O1⟩ := e145
            replace O := SO.tr O O1
            have eh : (eE (hr t 40) (env T x y) 4 0).2.2 = rvl t T x y := rfl
            rw [eh]
            refine wp_istore (pc := 148) dX12_wordsOf_148 (by decide) ?_
            refine wp_aload_n (pc := 150) dX12_wordsOf_150 rfl ?_
            refine wp_iconst (pc := 151) dX12_wordsOf_151 ?_
            refine wm_put dX12_wordsOf_152 pf_X12_184 K O (by decide) mset_16 rfl rfl (fun hp K O => ?_)
            refine wp_iconst (pc := 155) dX12_wordsOf_155 ?_
            refine wp_bipush (pc := 156) (y := 9) dX12_wordsOf_156 (by decide) ?_
            refine wp_iload (pc := 158) dX12_wordsOf_158 rfl ?_
            refine wp_min (pc := 160) dX12_wordsOf_160 ml_X12_194 ma_min_s ma_ini ma_min_c (by decide) (by decide) (by decide) (by decide) (Nat.le_of_ble_eq_true rfl) (by first | omega | (split <;> omega)) (by first | omega | (split <;> omega)) ?_
            refine wp_max (pc := 163) dX12_wordsOf_163 ml_X12_199 ma_max_s ma_ini ma_max_c (by decide) (by decide) (by decide) (by decide) (Nat.le_of_ble_eq_true rfl) (by first | omega | assumption | (unfold mi; repeat' split <;> omega)) (by first | omega | assumption | (unfold mi; repeat' split <;> omega)) ?_
            exact wp_ir (pc := 166) dX12_wordsOf_166 rfl (by decide) (by decide) (by first | rfl | (rw [if_pos (by omega)]) | (rw [if_neg (by omega)])) (by first | exact ⟨⟨_, _, _, K, SV.rf, SA.rf⟩, O⟩ | exact ⟨⟨_, _, _, K, (((((SV.rf).up (by decide)).up (by decide)).up (by decide)).up (by decide)).up (by decide) |>.up (by decide), (SA.rf).up (by decide)⟩, O⟩)
end MF

