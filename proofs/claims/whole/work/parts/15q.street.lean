/-! the reference: streets -/
section MQ_
variable {g : GT} {hp hp0 : Hp} {q N n a b s k p : Nat} {V V2 V3 : Nat → Int} {A A2 A3 : Nat → Int → Int} {rd rl : Value} {i j x v c y z w th : Int} {T T2 : Nat → Int → Int} {l t cs tx rw rw2 rt : List Int} {G f F D : Int → Int} {U U2 : List (Nat → Int → Int)} {hs : List (Int × Int)} {ss : List (Int × Int × Int)} {KT : Nat → Option (Nat → Int → Int)} {L L2 : List Nat}
theorem I_row {m u : Nat} (hm : m < 7) (hu : u < 64) : (I (m : Int) <<< (I 6 &&& 31)) ||| I (u : Int) = I ((m * 64 + u : Nat) : Int) := by
  have h : ∀ m : Fin 7, ∀ u : Fin 64, (I ((m : Nat) : Int) <<< (I 6 &&& 31)) ||| I ((u : Nat) : Int) = I (((m : Nat) * 64 + (u : Nat) : Nat) : Int) := by decide +kernel
  exact h ⟨m, hm⟩ ⟨u, hu⟩
theorem I_rowb {m u i : Nat} (hm : m < 7) (hu : u < 64) (hi : i < 6) : I ((m * 64 + u : Nat) : Int) ||| I ((2 ^ i : Nat) : Int) = I ((m * 64 + (u ||| 2 ^ i) : Nat) : Int) := by
  have h : ∀ m : Fin 7, ∀ u : Fin 64, ∀ i : Fin 6, I (((m : Nat) * 64 + (u : Nat) : Nat) : Int) ||| I ((2 ^ (i : Nat) : Nat) : Int) = I (((m : Nat) * 64 + ((u : Nat) ||| 2 ^ (i : Nat)) : Nat) : Int) := by decide +kernel
  exact h ⟨m, hm⟩ ⟨u, hu⟩ ⟨i, hi⟩
/-- the digits of the streets in an array -/
def SD (F : Int → Int) (l : List Int) (n : Nat) : Prop := ∀ j : Nat, j < n → F j = l.getD j 0 - 48
theorem lp_st1 (hb : byl l) {Q : Option Value → Hp → Prop} (Kn : ∀ hp3 F n p x, ModAt hp3 q (pv V p x) (upA A 4 F) rd rl → SO hp hp3 q (q + 25) → p ≤ 6 → (x = -1 ∨ x = (p : Int)) → (rsA l = -1 → n = l.length ∧ p = l.length ∧ x = -1 ∧ SD F l n) → (x = -1 ∧ l.length ≤ p ↔ rsA l = -1) → (if x = -1 ∧ p < l.length then (p : Int) else x) = rsA l → wp g MX12_streets (rm 3 0 0) Q 0 0 52 [some (.ref q), some (.int (I ((n : Nat) : Int))), none, none, none, none] [] hp3) : ∀ (m i : Nat), 6 < i + m → i ≤ 6 → ∀ (hp2 : Hp) (F : Int → Int) (K : ModAt hp2 q (pv V i (-1)) (upA A 4 F) rd rl) (O : SO hp hp2 q (q + 25)) (L : RdL (upA A 4 F) V q rd l 6) (hil : i ≤ l.length) (hS : SD F l i) (hd : ∀ j, j < i → ndg l j = false), wp g MX12_streets (rm 3 0 0) Q 0 0 13 [some (.ref q), some (.int (I (i : Int))), none, none, none, none] [] hp2 := by
  intro m
  induction m with
  | zero => intro i h1 h2; exact absurd h1 (by omega)
  | succ m ih =>
    intro i h1 h2 hp2 F K O L hil hS hd
    have hh := hr_in (tp := 6) (p := i) hb
    refine wp_aload_n (pc := 13) dX12_streets_13 rfl ?_
    refine wp_Vp (pc := 14) dX12_streets_14 cl_X12_125 (sp_Ref_fine (by first | assumption | omega | (repeat (first | assumption | exact pv10 | exact pv11 | (apply pv_o; decide; decide) | exact upN_eq | (apply upN_ne; decide) | (apply SV_at; assumption; decide) | exact upA_eq | (apply upA_ne; first | decide | omega) | (apply SA_at; assumption; first | decide | (simp; omega)) | exact rfl))) (by first | assumption | omega | (repeat (first | assumption | exact pv10 | exact pv11 | (apply pv_o; decide; decide) | exact upN_eq | (apply upN_ne; decide) | (apply SV_at; assumption; decide) | exact upA_eq | (apply upA_ne; first | decide | omega) | (apply SA_at; assumption; first | decide | (simp; omega)) | exact rfl)))) rfl rfl K.1 (by rfl) (by decide) (Nat.le_of_ble_eq_true rfl) ?_
    first | refine wp_ifb_eq (pc := 17) 52 dX12_streets_17 (by decide) (fun c17 => ?_) (fun c17 => ?_) | refine wp_if_eq (pc := 17) 52 dX12_streets_17 (by decide) (by first | omega | exact TI.i5 (by assumption) | exact TI.i3 (by assumption) | exact TI.i2 (by assumption) | exact TI.i1 (by assumption) | exact TI.i0 (by assumption) | exact TI.i4 (by assumption) | exact TI.i6 (by assumption) | exact TI.i7 (by assumption)) (fun c17 => ?_) (fun c17 => ?_)
    ·
      exact absurd rfl c17
    ·
      first
      | (exfalso; omega)
      | skip
        refine wp_iload_n (pc := 20) dX12_streets_20 rfl ?_
        first | refine wp_ifb_eq (pc := 21) 32 dX12_streets_21 (by decide) (fun c21 => ?_) (fun c21 => ?_) | refine wp_if_eq (pc := 21) 32 dX12_streets_21 (by decide) (by first | omega | exact TI.i5 (by assumption) | exact TI.i3 (by assumption) | exact TI.i2 (by assumption) | exact TI.i1 (by assumption) | exact TI.i0 (by assumption) | exact TI.i4 (by assumption) | exact TI.i6 (by assumption) | exact TI.i7 (by assumption)) (fun c21 => ?_) (fun c21 => ?_)
        ·
          have hx : ¬ (i < l.length ∧ i < 6) → l.length = 0 := fun z => by omega
          skip -- go
          refine wp_aload_n (pc := 32) dX12_streets_32 rfl ?_
          refine wm_get dX12_streets_33 gf_X12_21 K (by rfl) ?_
          refine wp_iload_n (pc := 36) dX12_streets_36 rfl ?_
          refine wp_aload_n (pc := 37) dX12_streets_37 rfl ?_
          refine wp_bipush (pc := 38) (y := 48) dX12_streets_38 (by decide) ?_
          refine wp_bipush (pc := 40) (y := 10) dX12_streets_40 (by decide) ?_
          refine wp_Vs (pc := 42) dX12_streets_42 cl_X12_141 (sp_Ref_oneOf K L (by decide) (by omega) (by decide)) rfl rfl K.1 (by rfl) (by decide) (Nat.le_of_ble_eq_true rfl) (fun hp42 e42 => ?_)
          obtain ⟨K, O1⟩ := e42
          replace O := SO.tr O O1
          refine wm_iast dX12_streets_45 K O (by rfl) (by decide) (by decide) (by decide) (by omega) (by omega) upA_eq rfl (fun hp K O => ?_)
          rw [upA_upA] at K
          refine wp_iinc (pc := 46) dX12_streets_46 rfl (by decide) ?_
          refine wp_goto (pc := 49) 13 dX12_streets_49 (by decide) ?_
          have L3 := L.aa (A2 := upA A 4 (updI F (i : Int) (if (-1 : Int) = -1 ∧ 48 ≤ hr l 6 i ∧ hr l 6 i < 48 + 10 then hr l 6 i - 48 else 0))) rfl rfl rfl
          by_cases hok : (-1 : Int) = -1 ∧ 48 ≤ hr l 6 i ∧ hr l 6 i < 48 + 10
          · have hlt := hr_lt (l := l) (tp := 6) (p := i) (by omega)
            have heq := hr_eq hlt
            rw [if_pos hok] at L3
            rw [if_pos hok, if_neg (show ¬ ((-1 : Int) = -1 ∧ ¬ (48 ≤ hr l 6 i ∧ hr l 6 i < 48 + 10)) by omega), if_pos hok] at K
            refine wp_ls ?_ (ih (i + 1) (by omega) (by omega) _ _ K O L3 (by omega) (fun j hj => ?_) (fun j hj => ?_))
            · repeat' (first | exact LE_0 | refine LE_s rfl ?_ | refine LE_s (I_c (by first | omega | (simp only [sm]; omega))) ?_ | refine LE_s (J_c (by first | omega | exact Int.pow_succ _ _ | exact (Int.pow_succ _ _).symm | exact (Int.pow_zero _).symm | (simp only [sm]; omega))) ?_ | refine LE_n ?_)
            · by_cases z : j = i
              · rw [z, updI_eq, heq]
              · rw [updI_ne (by omega)]; exact hS j (by omega)
            · by_cases z : j = i
              · rw [z]; unfold ndg; rw [decide_eq_true (show 48 ≤ l.getD i 0 ∧ l.getD i 0 ≤ 57 by omega)]; rfl
              · exact hd j (by omega)
          · have hnd : ¬ (48 ≤ hr l 6 i ∧ hr l 6 i < 48 + 10) := fun z => hok ⟨rfl, z⟩
            rw [if_neg hok, if_pos (show ((-1 : Int) = -1 ∧ ¬ (48 ≤ hr l 6 i ∧ hr l 6 i < 48 + 10)) from ⟨rfl, hnd⟩)] at K
            have er : rsA l = (i : Int) := by
              by_cases y : i < l.length ∧ i < 6
              · have heq := hr_eq (l := l) (tp := 6) y
                have hf : fst (ndg l) (min l.length 6) = i := fst_at _ (by unfold ndg; rw [decide_eq_false (show ¬ (48 ≤ l.getD i 0 ∧ l.getD i 0 ≤ 57) by omega)]; rfl) hd _ (by omega)
                unfold rsA
                rw [hf, if_pos (by omega)]
              · have hm : min l.length 6 = i := by omega
                have hf : fst (ndg l) (min l.length 6) = min l.length 6 := fst_no _ _ (fun j hj => hd j (by omega))
                have hi0 : l.length = 0 ∨ 6 < l.length := .inl (hx y)
                unfold rsA
                rw [hf, if_neg (by omega), if_pos hi0, hm]
            refine wp_aload_n (pc := 13) dX12_streets_13 rfl ?_
            refine wp_Vp (pc := 14) dX12_streets_14 cl_X12_125 (sp_Ref_fine K (by omega)) rfl rfl K.1 (by rfl) (by decide) (Nat.le_of_ble_eq_true rfl) ?_
            refine wp_ifb_eq (pc := 17) 52 dX12_streets_17 (by decide) (fun c => ?_) (fun c => absurd c (by omega))
            refine wp_ls ?_ (Kn _ _ (i + 1) i (i : Int) K O (by omega) (.inr rfl) (fun z => by omega) ⟨fun z => by omega, fun z => by omega⟩ (by rw [if_neg (by omega), er]))
            repeat' (first | exact LE_0 | refine LE_s rfl ?_ | refine LE_s (I_c (by first | omega | (simp only [sm]; omega))) ?_ | refine LE_s (J_c (by first | omega | exact Int.pow_succ _ _ | exact (Int.pow_succ _ _).symm | exact (Int.pow_zero _).symm | (simp only [sm]; omega))) ?_ | refine LE_n ?_)
        ·
          first
          | (exfalso; omega)
          | skip
            refine wp_aload_n (pc := 24) dX12_streets_24 rfl ?_
            refine wp_Vp (pc := 25) dX12_streets_25 cl_X12_129 (sp_Ref_here K L (by omega)) rfl rfl K.1 (by rfl) (by decide) (Nat.le_of_ble_eq_true rfl) ?_
            refine wp_iconst (pc := 28) dX12_streets_28 ?_
            refine wp_icmp_eq (pc := 29) 52 dX12_streets_29 (by decide) (by first | omega | exact TI.i5 (by assumption) | exact TI.i3 (by assumption) | exact TI.i2 (by assumption) | exact TI.i1 (by assumption) | exact TI.i0 (by assumption) | exact TI.i4 (by assumption) | exact TI.i6 (by assumption) | exact TI.i7 (by assumption)) (by first | omega | exact TI.i5 (by assumption) | exact TI.i3 (by assumption) | exact TI.i2 (by assumption) | exact TI.i1 (by assumption) | exact TI.i0 (by assumption) | exact TI.i4 (by assumption) | exact TI.i6 (by assumption) | exact TI.i7 (by assumption)) (fun c29 => ?_) (fun c29 => ?_)
            ·
              have hno : ¬ (i < l.length ∧ i < 6) := fun z => by have := hr_eq (l := l) (tp := 6) z; have := byl_at hb z.1; omega
              have hm : min l.length 6 = i := by omega
              have hf : fst (ndg l) (min l.length 6) = min l.length 6 := fst_no _ _ (fun j hj => hd j (by omega))
              have er : rsA l = if l.length = 0 ∨ 6 < l.length then ((min l.length 6 : Nat) : Int) else -1 := by unfold rsA; rw [hf, if_neg (by omega)]
              refine wp_ls ?_ (Kn hp2 F i i (-1) K O (by omega) (.inl rfl) (fun z => ?_) ?_ ?_)
              · repeat' (first | exact LE_0 | refine LE_s rfl ?_ | refine LE_s (I_c (by first | omega | (simp only [sm]; omega))) ?_ | refine LE_s (J_c (by first | omega | exact Int.pow_succ _ _ | exact (Int.pow_succ _ _).symm | exact (Int.pow_zero _).symm | (simp only [sm]; omega))) ?_ | refine LE_n ?_)
              · rw [er] at z
                have hl : l.length = i := by
                  by_cases y : l.length = 0 ∨ 6 < l.length
                  · rw [if_pos y] at z; omega
                  · omega
                exact ⟨hl.symm, hl.symm, rfl, hS⟩
              · rw [er]
                by_cases y : l.length = 0 ∨ 6 < l.length
                · rw [if_pos y]; exact ⟨fun z => by omega, fun z => by omega⟩
                · rw [if_neg y]; exact ⟨fun _ => rfl, fun _ => ⟨rfl, by omega⟩⟩
              · rw [er]
                by_cases y : l.length = 0 ∨ 6 < l.length
                · rw [if_pos y, if_pos (by omega)]; omega
                · rw [if_neg y, if_neg (by omega)]
            ·
              have hx : ¬ (i < l.length ∧ i < 6) → l.length = 0 := fun z => absurd (show hr l 6 i = -1 from if_neg z) c29
              skip -- go
              refine wp_aload_n (pc := 32) dX12_streets_32 rfl ?_
              refine wm_get dX12_streets_33 gf_X12_21 K (by rfl) ?_
              refine wp_iload_n (pc := 36) dX12_streets_36 rfl ?_
              refine wp_aload_n (pc := 37) dX12_streets_37 rfl ?_
              refine wp_bipush (pc := 38) (y := 48) dX12_streets_38 (by decide) ?_
              refine wp_bipush (pc := 40) (y := 10) dX12_streets_40 (by decide) ?_
              refine wp_Vs (pc := 42) dX12_streets_42 cl_X12_141 (sp_Ref_oneOf K L (by decide) (by omega) (by decide)) rfl rfl K.1 (by rfl) (by decide) (Nat.le_of_ble_eq_true rfl) (fun hp42 e42 => ?_)
              obtain ⟨K, O1⟩ := e42
              replace O := SO.tr O O1
              refine wm_iast dX12_streets_45 K O (by rfl) (by decide) (by decide) (by decide) (by omega) (by omega) upA_eq rfl (fun hp K O => ?_)
              rw [upA_upA] at K
              refine wp_iinc (pc := 46) dX12_streets_46 rfl (by decide) ?_
              refine wp_goto (pc := 49) 13 dX12_streets_49 (by decide) ?_
              have L3 := L.aa (A2 := upA A 4 (updI F (i : Int) (if (-1 : Int) = -1 ∧ 48 ≤ hr l 6 i ∧ hr l 6 i < 48 + 10 then hr l 6 i - 48 else 0))) rfl rfl rfl
              by_cases hok : (-1 : Int) = -1 ∧ 48 ≤ hr l 6 i ∧ hr l 6 i < 48 + 10
              · have hlt := hr_lt (l := l) (tp := 6) (p := i) (by omega)
                have heq := hr_eq hlt
                rw [if_pos hok] at L3
                rw [if_pos hok, if_neg (show ¬ ((-1 : Int) = -1 ∧ ¬ (48 ≤ hr l 6 i ∧ hr l 6 i < 48 + 10)) by omega), if_pos hok] at K
                refine wp_ls ?_ (ih (i + 1) (by omega) (by omega) _ _ K O L3 (by omega) (fun j hj => ?_) (fun j hj => ?_))
                · repeat' (first | exact LE_0 | refine LE_s rfl ?_ | refine LE_s (I_c (by first | omega | (simp only [sm]; omega))) ?_ | refine LE_s (J_c (by first | omega | exact Int.pow_succ _ _ | exact (Int.pow_succ _ _).symm | exact (Int.pow_zero _).symm | (simp only [sm]; omega))) ?_ | refine LE_n ?_)
                · by_cases z : j = i
                  · rw [z, updI_eq, heq]
                  · rw [updI_ne (by omega)]; exact hS j (by omega)
                · by_cases z : j = i
                  · rw [z]; unfold ndg; rw [decide_eq_true (show 48 ≤ l.getD i 0 ∧ l.getD i 0 ≤ 57 by omega)]; rfl
                  · exact hd j (by omega)
              · have hnd : ¬ (48 ≤ hr l 6 i ∧ hr l 6 i < 48 + 10) := fun z => hok ⟨rfl, z⟩
                rw [if_neg hok, if_pos (show ((-1 : Int) = -1 ∧ ¬ (48 ≤ hr l 6 i ∧ hr l 6 i < 48 + 10)) from ⟨rfl, hnd⟩)] at K
                have er : rsA l = (i : Int) := by
                  by_cases y : i < l.length ∧ i < 6
                  · have heq := hr_eq (l := l) (tp := 6) y
                    have hf : fst (ndg l) (min l.length 6) = i := fst_at _ (by unfold ndg; rw [decide_eq_false (show ¬ (48 ≤ l.getD i 0 ∧ l.getD i 0 ≤ 57) by omega)]; rfl) hd _ (by omega)
                    unfold rsA
                    rw [hf, if_pos (by omega)]
                  · have hm : min l.length 6 = i := by omega
                    have hf : fst (ndg l) (min l.length 6) = min l.length 6 := fst_no _ _ (fun j hj => hd j (by omega))
                    have hi0 : l.length = 0 ∨ 6 < l.length := .inl (hx y)
                    unfold rsA
                    rw [hf, if_neg (by omega), if_pos hi0, hm]
                refine wp_aload_n (pc := 13) dX12_streets_13 rfl ?_
                refine wp_Vp (pc := 14) dX12_streets_14 cl_X12_125 (sp_Ref_fine K (by omega)) rfl rfl K.1 (by rfl) (by decide) (Nat.le_of_ble_eq_true rfl) ?_
                refine wp_ifb_eq (pc := 17) 52 dX12_streets_17 (by decide) (fun c => ?_) (fun c => absurd c (by omega))
                refine wp_ls ?_ (Kn _ _ (i + 1) i (i : Int) K O (by omega) (.inr rfl) (fun z => by omega) ⟨fun z => by omega, fun z => by omega⟩ (by rw [if_neg (by omega), er]))
                repeat' (first | exact LE_0 | refine LE_s rfl ?_ | refine LE_s (I_c (by first | omega | (simp only [sm]; omega))) ?_ | refine LE_s (J_c (by first | omega | exact Int.pow_succ _ _ | exact (Int.pow_succ _ _).symm | exact (Int.pow_zero _).symm | (simp only [sm]; omega))) ?_ | refine LE_n ?_)
theorem sp_Ref_canName (K : ModAt hp q V A rd rl) (hI : TI T N) (mA : A 1 = flat T) (h4 : A 4 = F) (hk : k < 6) (ha : a < 42) (hs6 : s < 64) (hF : 0 ≤ F (a : Int) ∧ F (a : Int) ≤ 9) : Sp g MX12_canName (rm 1 0 0) [.ref q, .int (I (a : Int)), .int (I (k : Int)), .int (I (s : Int))] hp (Pur (.int (B (¬ s.testBit k = true ∧ 10 * F (a : Int) ≤ T 3 (k : Int)))) hp) := by
  have h3 := hI.r3 (k : Int)
  refine Sp_mk rfl (Nat.le_of_ble_eq_true rfl) ?_
  show wp g _ _ _ 0 0 0 [some (.ref q), some (.int (I (a : Int))), some (.int (I (k : Int))), some (.int (I (s : Int)))] [] hp
  have O := SO.rf (hp := hp) (lo := q) (hi := q + 25)
  refine wp_iload_n (pc := 0) dX12_canName_0 rfl ?_
  refine wp_iload_n (pc := 1) dX12_canName_1 rfl ?_
  refine wp_Sp (pc := 2) dX12_canName_2 cl_X12_227 (sp_Ref_has (s := s) (k := k) (by omega) (by omega)) rfl rfl (by decide) (Nat.le_of_ble_eq_true rfl) ?_
  first | refine wp_ifb_ne (pc := 5) 33 dX12_canName_5 (by decide) (fun c5 => ?_) (fun c5 => ?_) | refine wp_if_ne (pc := 5) 33 dX12_canName_5 (by decide) (by first | omega | exact TI.i5 (by assumption) | exact TI.i3 (by assumption) | exact TI.i2 (by assumption) | exact TI.i1 (by assumption) | exact TI.i0 (by assumption) | exact TI.i4 (by assumption) | exact TI.i6 (by assumption) | exact TI.i7 (by assumption)) (fun c5 => ?_) (fun c5 => ?_)
  ·
    have hz : ¬ (¬ s.testBit k = true ∧ 10 * F (a : Int) ≤ T 3 (k : Int)) := fun z => z.1 c5
    skip -- go
    refine wp_iconst (pc := 33) dX12_canName_33 ?_
    first | exact wp_z1 (pc := 34) dX12_canName_34 rfl (by decide) (by decide) hz (by first | exact ⟨K, O⟩ | rfl) | exact wp_z0 (pc := 34) dX12_canName_34 rfl (by decide) (by decide) hz (by first | exact ⟨K, O⟩ | rfl) | exact wp_zb (pc := 34) dX12_canName_34 rfl (by decide) (by decide) Iff.rfl (by first | exact ⟨K, O⟩ | rfl)
  ·
    refine wp_aload_n (pc := 8) dX12_canName_8 rfl ?_
    refine wm_get dX12_canName_9 gf_X12_9 K (by rfl) ?_
    refine wp_bipush (pc := 12) (y := 42) dX12_canName_12 (by decide) ?_
    refine wp_iload_n (pc := 14) dX12_canName_14 rfl ?_
    refine wp_iadd (pc := 15) dX12_canName_15 ?_
    refine wm_iald dX12_canName_16 K (by first | rfl | assumption) (by first | decide | omega) (by first | decide | omega) (by decide) (by omega) (by omega) (by repeat (first | assumption | exact upA_eq | (apply upA_ne; first | decide | omega) | (apply SA_at; assumption; first | decide | (simp; omega)) | exact rfl)) (by first | exact flat5 (by omega) (by omega) | exact flat3 (by omega) (by omega) | exact flat2 (by omega) (by omega) | exact flat6 (by omega) (by omega) | exact flat4 (by omega) (by omega) | exact flat1 (by omega) (by omega) | exact flat0 (by omega) (by omega) | exact flat7 | exact rfl) ?_
    refine wp_bipush (pc := 17) (y := 10) dX12_canName_17 (by decide) ?_
    refine wp_aload_n (pc := 19) dX12_canName_19 rfl ?_
    refine wm_get dX12_canName_20 gf_X12_21 K (by rfl) ?_
    refine wp_iload_n (pc := 23) dX12_canName_23 rfl ?_
    refine wm_iald dX12_canName_24 K (by first | rfl | assumption) (by first | decide | omega) (by first | decide | omega) (by decide) (by omega) (by omega) (by repeat (first | assumption | exact upA_eq | (apply upA_ne; first | decide | omega) | (apply SA_at; assumption; first | decide | (simp; omega)) | exact rfl)) (by first | exact flat5 (by omega) (by omega) | exact flat3 (by omega) (by omega) | exact flat2 (by omega) (by omega) | exact flat6 (by omega) (by omega) | exact flat4 (by omega) (by omega) | exact flat1 (by omega) (by omega) | exact flat0 (by omega) (by omega) | exact flat7 | exact rfl) ?_
    refine wp_imul (pc := 25) dX12_canName_25 ?_
    refine wp_icmp_lt (pc := 26) 33 dX12_canName_26 (by decide) (by first | omega | exact TI.i5 (by assumption) | exact TI.i3 (by assumption) | exact TI.i2 (by assumption) | exact TI.i1 (by assumption) | exact TI.i0 (by assumption) | exact TI.i4 (by assumption) | exact TI.i6 (by assumption) | exact TI.i7 (by assumption)) (by first | omega | exact TI.i5 (by assumption) | exact TI.i3 (by assumption) | exact TI.i2 (by assumption) | exact TI.i1 (by assumption) | exact TI.i0 (by assumption) | exact TI.i4 (by assumption) | exact TI.i6 (by assumption) | exact TI.i7 (by assumption)) (fun c26 => ?_) (fun c26 => ?_)
    ·
      have hz : ¬ (¬ s.testBit k = true ∧ 10 * F (a : Int) ≤ T 3 (k : Int)) := fun z => by omega
      skip -- go
      refine wp_iconst (pc := 33) dX12_canName_33 ?_
      first | exact wp_z1 (pc := 34) dX12_canName_34 rfl (by decide) (by decide) hz (by first | exact ⟨K, O⟩ | rfl) | exact wp_z0 (pc := 34) dX12_canName_34 rfl (by decide) (by decide) hz (by first | exact ⟨K, O⟩ | rfl) | exact wp_zb (pc := 34) dX12_canName_34 rfl (by decide) (by decide) Iff.rfl (by first | exact ⟨K, O⟩ | rfl)
    ·
      have hz : ¬ s.testBit k = true ∧ 10 * F (a : Int) ≤ T 3 (k : Int) := ⟨c5, by omega⟩
      skip -- go
      refine wp_iconst (pc := 29) dX12_canName_29 ?_
      refine wp_goto (pc := 30) 34 dX12_canName_30 (by decide) ?_
      first | exact wp_z1 (pc := 34) dX12_canName_34 rfl (by decide) (by decide) hz (by first | exact ⟨K, O⟩ | rfl) | exact wp_z0 (pc := 34) dX12_canName_34 rfl (by decide) (by decide) hz (by first | exact ⟨K, O⟩ | rfl) | exact wp_zb (pc := 34) dX12_canName_34 rfl (by decide) (by decide) Iff.rfl (by first | exact ⟨K, O⟩ | rfl)
/-- the table of the reference, filled for m streets from behind -/
def TB (T : Nat → Int → Int) (D : Int → Int) (N n m : Nat) (Nc : Int → Int) : Prop := ∀ j : Nat, j ≤ m → ∀ u : Nat, u < 2 ^ N → Nc (((n - j) * 64 + u : Nat) : Int) = nvt T D N n j u
theorem lp_st2 (hN : N ≤ 6) (hv1 : V 1 = (N : Int)) (hn : n ≤ 6) {Q : Option Value → Hp → Prop} (Kn : ∀ hp3 F, ModAt hp3 q V (upA A 14 F) rd rl → SO hp hp3 q (q + 25) → TB T D N n 0 F → wp g MX12_streets (rm 3 0 0) Q 0 0 94 [some (.ref q), some (.int (I (n : Int))), none, none, none, none] [] hp3) : ∀ (m i : Nat), (2 ^ N) < i + m → i ≤ (2 ^ N) → ∀ (hp2 : Hp) (F : Int → Int) (K : ModAt hp2 q V (upA A 14 F) rd rl) (O : SO hp hp2 q (q + 25)) (hF : ∀ u : Nat, u < i → F ((n * 64 + u : Nat) : Int) = 0), wp g MX12_streets (rm 3 0 0) Q 0 0 68 [some (.ref q), some (.int (I (n : Int))), some (.int (I (i : Int))), none, none, none] [] hp2 := by
  intro m
  induction m with
  | zero => intro i h1 h2; exact absurd h1 (by omega)
  | succ m ih =>
    intro i h1 h2 hp2 F K O hF
    have hp6 := pow64 hN
    refine wp_iload_n (pc := 68) dX12_streets_68 rfl ?_
    refine wp_aload_n (pc := 69) dX12_streets_69 rfl ?_
    refine wp_Vp (pc := 70) dX12_streets_70 cl_X12_293 (sp_Ref_all (by first | assumption | omega | (repeat (first | assumption | exact pv10 | exact pv11 | (apply pv_o; decide; decide) | exact upN_eq | (apply upN_ne; decide) | (apply SV_at; assumption; decide) | exact upA_eq | (apply upA_ne; first | decide | omega) | (apply SA_at; assumption; first | decide | (simp; omega)) | exact rfl))) (by first | assumption | omega | (repeat (first | assumption | exact pv10 | exact pv11 | (apply pv_o; decide; decide) | exact upN_eq | (apply upN_ne; decide) | (apply SV_at; assumption; decide) | exact upA_eq | (apply upA_ne; first | decide | omega) | (apply SA_at; assumption; first | decide | (simp; omega)) | exact rfl))) (by first | assumption | omega | (repeat (first | assumption | exact pv10 | exact pv11 | (apply pv_o; decide; decide) | exact upN_eq | (apply upN_ne; decide) | (apply SV_at; assumption; decide) | exact upA_eq | (apply upA_ne; first | decide | omega) | (apply SA_at; assumption; first | decide | (simp; omega)) | exact rfl)))) rfl rfl K.1 (by rfl) (by decide) (Nat.le_of_ble_eq_true rfl) ?_
    refine wp_icmp_gt (pc := 73) 94 dX12_streets_73 (by decide) (by first | omega | exact TI.i5 (by assumption) | exact TI.i3 (by assumption) | exact TI.i2 (by assumption) | exact TI.i1 (by assumption) | exact TI.i0 (by assumption) | exact TI.i4 (by assumption) | exact TI.i6 (by assumption) | exact TI.i7 (by assumption)) (by first | omega | exact TI.i5 (by assumption) | exact TI.i3 (by assumption) | exact TI.i2 (by assumption) | exact TI.i1 (by assumption) | exact TI.i0 (by assumption) | exact TI.i4 (by assumption) | exact TI.i6 (by assumption) | exact TI.i7 (by assumption)) (fun c73 => ?_) (fun c73 => ?_)
    ·
      have e : i = 2 ^ N := by omega
      refine wp_ls ?_ (Kn hp2 F K O (fun j hj u hu => by rw [show j = 0 by omega, Nat.sub_zero]; exact hF u (by omega)))
      repeat' (first | exact LE_0 | refine LE_s rfl ?_ | refine LE_s (I_c (by first | omega | (simp only [sm]; omega))) ?_ | refine LE_s (J_c (by first | omega | exact Int.pow_succ _ _ | exact (Int.pow_succ _ _).symm | exact (Int.pow_zero _).symm | (simp only [sm]; omega))) ?_ | refine LE_n ?_)
    ·
      refine wp_aload_n (pc := 76) dX12_streets_76 rfl ?_
      refine wm_get dX12_streets_77 gf_X12_51 K (by rfl) ?_
      refine wp_iload_n (pc := 80) dX12_streets_80 rfl ?_
      refine wp_bipush (pc := 81) (y := 6) dX12_streets_81 (by decide) ?_
      refine wp_ishl (pc := 83) dX12_streets_83 rfl ?_
      refine wp_iload_n (pc := 84) dX12_streets_84 rfl ?_
      refine wp_ior (pc := 85) dX12_streets_85 (I_row (by omega) (by omega)) ?_
      refine wp_iconst (pc := 86) dX12_streets_86 ?_
      refine wm_iast dX12_streets_87 K O (by rfl) (by decide) (by decide) (by decide) (by omega) (by omega) upA_eq rfl (fun hp K O => ?_)
      rw [upA_upA] at K
      refine wp_iinc (pc := 88) dX12_streets_88 rfl (by decide) ?_
      refine wp_goto (pc := 91) 68 dX12_streets_91 (by decide) ?_
      refine wp_ls ?_ (ih (i + 1) (by omega) (by omega) _ _ K O (fun u hu => ?_))
      · repeat' (first | exact LE_0 | refine LE_s rfl ?_ | refine LE_s (I_c (by first | omega | (simp only [sm]; omega))) ?_ | refine LE_s (J_c (by first | omega | exact Int.pow_succ _ _ | exact (Int.pow_succ _ _).symm | exact (Int.pow_zero _).symm | (simp only [sm]; omega))) ?_ | refine LE_n ?_)
      · by_cases z : u = i
        · rw [z]; exact updI_eq
        · rw [updI_ne (by omega)]; exact hF u (by omega)
theorem or_ltM {u i M : Nat} (hu : u < 2 ^ M) (hi : i < M) : u ||| 2 ^ i < 2 ^ M := Nat.or_lt_two_pow hu (Nat.pow_lt_pow_right (by decide) hi)
/-- the best of one set, over those who may bear the name -/
theorem lp_st5 (hI : TI T N) (hv1 : V 1 = (N : Int)) (mA : A 1 = flat T) (h4 : A 4 = D) (h14 : A 14 = F) (K : ModAt hp q V A rd rl) (ha : a < 6) (hs6 : s < 2 ^ N) {X : Nat → Int} (hX : ∀ u, u < 2 ^ N → F (((a + 1) * 64 + u : Nat) : Int) = X u) (hXi : ∀ u, 0 ≤ X u ∧ X u ≤ 7) (hD : 0 ≤ D (a : Int) ∧ D (a : Int) ≤ 9) {Q : Option Value → Hp → Prop} (Kn : wp g MX12_streets (rm 3 0 0) Q 0 0 183 [some (.ref q), some (.int (I (n : Int))), some (.int (I (a : Int))), some (.int (I (s : Int))), some (.int (I (mxv T D (a : Int) X s N))), none] [] hp) : ∀ (m i : Nat), N < i + m → i ≤ N → wp g MX12_streets (rm 3 0 0) Q 0 0 130 [some (.ref q), some (.int (I (n : Int))), some (.int (I (a : Int))), some (.int (I (s : Int))), some (.int (I (mxv T D (a : Int) X s i))), some (.int (I (i : Int)))] [] hp := by
  intro m
  induction m with
  | zero => intro i h1 h2; exact absurd h1 (by omega)
  | succ m ih =>
    intro i h1 h2
    have hN := hI.men.2
    have hp6 := pow64 hN
    have hq : 0 ≤ mxv T D (a : Int) X s i ∧ mxv T D (a : Int) X s i ≤ 8 := by
      clear ih h1 h2
      induction i with
      | zero => have := hXi s; unfold mxv; omega
      | succ k ih =>
        have h2 := hXi (s ||| 2 ^ k)
        unfold mxv
        split
        · unfold mx; split <;> omega
        · exact ih
    refine wp_iload (pc := 130) dX12_streets_130 rfl ?_
    refine wp_aload_n (pc := 132) dX12_streets_132 rfl ?_
    refine wm_gets dX12_streets_133 gf_X12_92 K (by rfl) (by repeat (first | assumption | exact pv10 | exact pv11 | (apply pv_o; decide; decide) | exact upN_eq | (apply upN_ne; decide) | (apply SV_at; assumption; decide) | exact rfl)) ?_
    refine wp_icmp_ge (pc := 136) 183 dX12_streets_136 (by decide) (by first | omega | exact TI.i5 (by assumption) | exact TI.i3 (by assumption) | exact TI.i2 (by assumption) | exact TI.i1 (by assumption) | exact TI.i0 (by assumption) | exact TI.i4 (by assumption) | exact TI.i6 (by assumption) | exact TI.i7 (by assumption)) (by first | omega | exact TI.i5 (by assumption) | exact TI.i3 (by assumption) | exact TI.i2 (by assumption) | exact TI.i1 (by assumption) | exact TI.i0 (by assumption) | exact TI.i4 (by assumption) | exact TI.i6 (by assumption) | exact TI.i7 (by assumption)) (fun c136 => ?_) (fun c136 => ?_)
    ·
      have e : i = N := by omega
      subst e
      refine wp_ls ?_ Kn
      repeat' (first | exact LE_0 | refine LE_s rfl ?_ | refine LE_s (I_c (by first | omega | (simp only [sm]; omega))) ?_ | refine LE_s (J_c (by first | omega | exact Int.pow_succ _ _ | exact (Int.pow_succ _ _).symm | exact (Int.pow_zero _).symm | (simp only [sm]; omega))) ?_ | refine LE_n ?_)
    ·
      have hlt := or_ltM (i := i) hs6 (by omega)
      have hx1 := hXi (s ||| 2 ^ i) -- go
      refine wp_aload_n (pc := 139) dX12_streets_139 rfl ?_
      refine wp_iload_n (pc := 140) dX12_streets_140 rfl ?_
      refine wp_iload (pc := 141) dX12_streets_141 rfl ?_
      refine wp_iload_n (pc := 143) dX12_streets_143 rfl ?_
      refine wp_Vp (pc := 144) dX12_streets_144 cl_X12_315 (sp_Ref_canName (F := D) K hI mA h4 (by omega) (by omega) (by omega) hD) rfl rfl K.1 (by rfl) (by decide) (Nat.le_of_ble_eq_true rfl) ?_
      first | refine wp_ifb_eq (pc := 147) 177 dX12_streets_147 (by decide) (fun c147 => ?_) (fun c147 => ?_) | refine wp_if_eq (pc := 147) 177 dX12_streets_147 (by decide) (by first | omega | exact TI.i5 (by assumption) | exact TI.i3 (by assumption) | exact TI.i2 (by assumption) | exact TI.i1 (by assumption) | exact TI.i0 (by assumption) | exact TI.i4 (by assumption) | exact TI.i6 (by assumption) | exact TI.i7 (by assumption)) (fun c147 => ?_) (fun c147 => ?_)
      ·
        have e1 : mxv T D (a : Int) X s (i + 1) = mxv T D (a : Int) X s i := if_neg c147
        skip -- go
        refine wp_iinc (pc := 177) dX12_streets_177 rfl (by decide) ?_
        refine wp_goto (pc := 180) 130 dX12_streets_180 (by decide) ?_
        refine wp_ls ?_ (ih (i + 1) (by omega) (by omega))
        rw [e1]
        repeat' (first | exact LE_0 | refine LE_s rfl ?_ | refine LE_s (I_c (by first | omega | (simp only [sm]; omega))) ?_ | refine LE_s (J_c (by first | omega | exact Int.pow_succ _ _ | exact (Int.pow_succ _ _).symm | exact (Int.pow_zero _).symm | (simp only [sm]; omega))) ?_ | refine LE_n ?_)
      ·
        have e1 : mxv T D (a : Int) X s (i + 1) = mx (mxv T D (a : Int) X s i) (1 + X (s ||| 2 ^ i)) := if_pos c147
        skip -- go
        refine wp_iload (pc := 150) dX12_streets_150 rfl ?_
        refine wp_iconst (pc := 152) dX12_streets_152 ?_
        refine wp_aload_n (pc := 153) dX12_streets_153 rfl ?_
        refine wm_get dX12_streets_154 gf_X12_51 K (by rfl) ?_
        refine wp_iload_n (pc := 157) dX12_streets_157 rfl ?_
        refine wp_iconst (pc := 158) dX12_streets_158 ?_
        refine wp_iadd (pc := 159) dX12_streets_159 ?_
        refine wp_topE (show (a : Int) + 1 = ((a + 1 : Nat) : Int) by omega) ?_
        refine wp_bipush (pc := 160) (y := 6) dX12_streets_160 (by decide) ?_
        refine wp_ishl (pc := 162) dX12_streets_162 rfl ?_
        refine wp_iload_n (pc := 163) dX12_streets_163 rfl ?_
        refine wp_ior (pc := 164) dX12_streets_164 (I_row (by omega) (by omega)) ?_
        refine wp_iconst (pc := 165) dX12_streets_165 ?_
        refine wp_iload (pc := 166) dX12_streets_166 rfl ?_
        refine wp_ishl (pc := 168) dX12_streets_168 (I_shl (by omega)) ?_
        refine wp_ior (pc := 169) dX12_streets_169 (I_rowb (by omega) (by omega) (by omega)) ?_
        refine wm_iald dX12_streets_170 K (by rfl) (by decide) (by decide) (by decide) (by omega) (by omega) h14 (hX _ hlt) ?_
        refine wp_iadd (pc := 171) dX12_streets_171 ?_
        refine wp_max (pc := 172) dX12_streets_172 ml_X12_199 ma_max_s ma_ini ma_max_c (by decide) (by decide) (by decide) (by decide) (Nat.le_of_ble_eq_true rfl) (by first | omega | exact TI.i5 (by assumption) | exact TI.i3 (by assumption) | exact TI.i2 (by assumption) | exact TI.i1 (by assumption) | exact TI.i0 (by assumption) | exact TI.i4 (by assumption) | exact TI.i6 (by assumption) | exact TI.i7 (by assumption)) (by first | omega | exact TI.i5 (by assumption) | exact TI.i3 (by assumption) | exact TI.i2 (by assumption) | exact TI.i1 (by assumption) | exact TI.i0 (by assumption) | exact TI.i4 (by assumption) | exact TI.i6 (by assumption) | exact TI.i7 (by assumption)) ?_
        refine wp_istore (pc := 175) dX12_streets_175 (by decide) ?_
        refine wp_iinc (pc := 177) dX12_streets_177 rfl (by decide) ?_
        refine wp_goto (pc := 180) 130 dX12_streets_180 (by decide) ?_
        refine wp_ls ?_ (ih (i + 1) (by omega) (by omega))
        rw [e1]
        repeat' (first | exact LE_0 | refine LE_s rfl ?_ | refine LE_s (I_c (by first | omega | (simp only [sm]; omega))) ?_ | refine LE_s (J_c (by first | omega | exact Int.pow_succ _ _ | exact (Int.pow_succ _ _).symm | exact (Int.pow_zero _).symm | (simp only [sm]; omega))) ?_ | refine LE_n ?_)
theorem mxv_at {X : Nat → Int} {a : Int} {u : Nat} : ∀ k, mxv T D a X u k = X u ∨ ∃ i, i < k ∧ (¬ u.testBit i = true ∧ 10 * D a ≤ T 3 (i : Int)) ∧ mxv T D a X u k = 1 + X (u ||| 2 ^ i)
  | 0 => .inl rfl
  | k + 1 => by
    have ih := mxv_at (X := X) (a := a) (u := u) k
    by_cases z : ¬ u.testBit k = true ∧ 10 * D a ≤ T 3 (k : Int)
    · have e : mxv T D a X u (k + 1) = mx (mxv T D a X u k) (1 + X (u ||| 2 ^ k)) := if_pos z
      rw [e]
      unfold mx
      split
      · exact .inr ⟨k, by omega, z, rfl⟩
      · rcases ih with h | ⟨i, h1, h2, h3⟩
        · exact .inl h
        · exact .inr ⟨i, by omega, h2, h3⟩
    · have e : mxv T D a X u (k + 1) = mxv T D a X u k := if_neg z
      rw [e]
      rcases ih with h | ⟨i, h1, h2, h3⟩
      · exact .inl h
      · exact .inr ⟨i, by omega, h2, h3⟩
theorem lp_st4 (hI : TI T N) (hv1 : V 1 = (N : Int)) (mA : A 1 = flat T) (h4 : A 4 = D) (hD : ∀ j : Nat, j < n → 0 ≤ D j ∧ D j ≤ 9) (hn : n ≤ 6) (hm : k < n) {Q : Option Value → Hp → Prop} (Kn : ∀ hp3 F, ModAt hp3 q V (upA A 14 F) rd rl → SO hp hp3 q (q + 25) → TB T D N n (k + 1) F → wp g MX12_streets (rm 3 0 0) Q 0 0 202 [some (.ref q), some (.int (I (n : Int))), some (.int (I ((n - 1 - k : Nat) : Int))), none, none, none] [] hp3) : ∀ (m i : Nat), (2 ^ N) < i + m → i ≤ (2 ^ N) → ∀ (hp2 : Hp) (F : Int → Int) (K : ModAt hp2 q V (upA A 14 F) rd rl) (O : SO hp hp2 q (q + 25)) (hF : TB T D N n k F) (hF2 : ∀ u : Nat, u < i → F (((n - 1 - k) * 64 + u : Nat) : Int) = nvt T D N n (k + 1) u), wp g MX12_streets (rm 3 0 0) Q 0 0 104 [some (.ref q), some (.int (I (n : Int))), some (.int (I ((n - 1 - k : Nat) : Int))), some (.int (I (i : Int))), none, none] [] hp2 := by
  intro m
  induction m with
  | zero => intro i h1 h2; exact absurd h1 (by omega)
  | succ m ih =>
    intro i h1 h2 hp2 F K O hF hF2
    have hN := hI.men.2
    have hp6 := pow64 hN
    have hq := nvt_in T D N n k i
    have hr0 : ∀ u, u < 2 ^ N → F (((n - 1 - k + 1) * 64 + u : Nat) : Int) = nvt T D N n k u := fun u hu => by rw [show n - 1 - k + 1 = n - k by omega]; exact hF k (Nat.le_refl _) u hu
    have ea : ((n - 1 - k : Nat) : Int) = (n : Int) - ((k : Int) + 1) := by omega
    refine wp_iload_n (pc := 104) dX12_streets_104 rfl ?_
    refine wp_aload_n (pc := 105) dX12_streets_105 rfl ?_
    refine wp_Vp (pc := 106) dX12_streets_106 cl_X12_293 (sp_Ref_all (by first | assumption | omega | (repeat (first | assumption | exact pv10 | exact pv11 | (apply pv_o; decide; decide) | exact upN_eq | (apply upN_ne; decide) | (apply SV_at; assumption; decide) | exact upA_eq | (apply upA_ne; first | decide | omega) | (apply SA_at; assumption; first | decide | (simp; omega)) | exact rfl))) (by first | assumption | omega | (repeat (first | assumption | exact pv10 | exact pv11 | (apply pv_o; decide; decide) | exact upN_eq | (apply upN_ne; decide) | (apply SV_at; assumption; decide) | exact upA_eq | (apply upA_ne; first | decide | omega) | (apply SA_at; assumption; first | decide | (simp; omega)) | exact rfl))) (by first | assumption | omega | (repeat (first | assumption | exact pv10 | exact pv11 | (apply pv_o; decide; decide) | exact upN_eq | (apply upN_ne; decide) | (apply SV_at; assumption; decide) | exact upA_eq | (apply upA_ne; first | decide | omega) | (apply SA_at; assumption; first | decide | (simp; omega)) | exact rfl)))) rfl rfl K.1 (by rfl) (by decide) (Nat.le_of_ble_eq_true rfl) ?_
    refine wp_icmp_gt (pc := 109) 202 dX12_streets_109 (by decide) (by first | omega | exact TI.i5 (by assumption) | exact TI.i3 (by assumption) | exact TI.i2 (by assumption) | exact TI.i1 (by assumption) | exact TI.i0 (by assumption) | exact TI.i4 (by assumption) | exact TI.i6 (by assumption) | exact TI.i7 (by assumption)) (by first | omega | exact TI.i5 (by assumption) | exact TI.i3 (by assumption) | exact TI.i2 (by assumption) | exact TI.i1 (by assumption) | exact TI.i0 (by assumption) | exact TI.i4 (by assumption) | exact TI.i6 (by assumption) | exact TI.i7 (by assumption)) (fun c109 => ?_) (fun c109 => ?_)
    ·
      have e : i = 2 ^ N := by omega
      refine wp_ls ?_ (Kn hp2 F K O (fun j hj u hu => ?_))
      · repeat' (first | exact LE_0 | refine LE_s rfl ?_ | refine LE_s (I_c (by first | omega | (simp only [sm]; omega))) ?_ | refine LE_s (J_c (by first | omega | exact Int.pow_succ _ _ | exact (Int.pow_succ _ _).symm | exact (Int.pow_zero _).symm | (simp only [sm]; omega))) ?_ | refine LE_n ?_)
      · by_cases z : j = k + 1
        · rw [z, show n - (k + 1) = n - 1 - k by omega]; exact hF2 u (by omega)
        · exact hF j (by omega) u hu
    ·
      refine wp_aload_n (pc := 112) dX12_streets_112 rfl ?_
      refine wm_get dX12_streets_113 gf_X12_51 K (by rfl) ?_
      refine wp_iload_n (pc := 116) dX12_streets_116 rfl ?_
      refine wp_iconst (pc := 117) dX12_streets_117 ?_
      refine wp_iadd (pc := 118) dX12_streets_118 ?_
      refine wp_topE (show ((n - 1 - k : Nat) : Int) + 1 = ((n - 1 - k + 1 : Nat) : Int) by omega) ?_
      refine wp_bipush (pc := 119) (y := 6) dX12_streets_119 (by decide) ?_
      refine wp_ishl (pc := 121) dX12_streets_121 rfl ?_
      refine wp_iload_n (pc := 122) dX12_streets_122 rfl ?_
      refine wp_ior (pc := 123) dX12_streets_123 (I_row (by omega) (by omega)) ?_
      refine wm_iald dX12_streets_124 K (by rfl) (by decide) (by decide) (by decide) (by omega) (by omega) upA_eq (hr0 i (by omega)) ?_
      refine wp_istore (pc := 125) dX12_streets_125 (by decide) ?_
      refine wp_iconst (pc := 127) dX12_streets_127 ?_
      refine wp_istore (pc := 128) dX12_streets_128 (by decide) ?_
      refine wp_ls ?_ (lp_st5 (n := n) (D := D) (X := nvt T D N n k) (a := n - 1 - k) (s := i) hI hv1 (upA_ne (by decide) mA) (upA_ne (by decide) h4) upA_eq K (by omega) (by omega) hr0 (fun u => by have := nvt_in T D N n k u; omega) (hD _ (by omega)) ?_ (N + 1) 0 (by omega) (by omega))
      · repeat' (first | exact LE_0 | refine LE_s rfl ?_ | refine LE_s (I_c (by first | omega | (simp only [sm]; omega))) ?_ | refine LE_s (J_c (by first | omega | exact Int.pow_succ _ _ | exact (Int.pow_succ _ _).symm | exact (Int.pow_zero _).symm | (simp only [sm]; omega))) ?_ | refine LE_n ?_)
      · have e1 : mxv T D ((n - 1 - k : Nat) : Int) (nvt T D N n k) i N = nvt T D N n (k + 1) i := by rw [ea]; rfl
        rw [e1]
        refine wp_aload_n (pc := 183) dX12_streets_183 rfl ?_
        refine wm_get dX12_streets_184 gf_X12_51 K (by rfl) ?_
        refine wp_iload_n (pc := 187) dX12_streets_187 rfl ?_
        refine wp_bipush (pc := 188) (y := 6) dX12_streets_188 (by decide) ?_
        refine wp_ishl (pc := 190) dX12_streets_190 rfl ?_
        refine wp_iload_n (pc := 191) dX12_streets_191 rfl ?_
        refine wp_ior (pc := 192) dX12_streets_192 (I_row (by omega) (by omega)) ?_
        refine wp_iload (pc := 193) dX12_streets_193 rfl ?_
        refine wm_iast dX12_streets_195 K O (by rfl) (by decide) (by decide) (by decide) (by omega) (by omega) upA_eq rfl (fun hp K O => ?_)
        rw [upA_upA] at K
        refine wp_iinc (pc := 196) dX12_streets_196 rfl (by decide) ?_
        refine wp_goto (pc := 199) 104 dX12_streets_199 (by decide) ?_
        refine wp_ls ?_ (ih (i + 1) (by omega) (by omega) _ _ K O (fun j hj u hu => ?_) (fun u hu => ?_))
        · repeat' (first | exact LE_0 | refine LE_s rfl ?_ | refine LE_s (I_c (by first | omega | (simp only [sm]; omega))) ?_ | refine LE_s (J_c (by first | omega | exact Int.pow_succ _ _ | exact (Int.pow_succ _ _).symm | exact (Int.pow_zero _).symm | (simp only [sm]; omega))) ?_ | refine LE_n ?_)
        · rw [updI_ne (by omega)]; exact hF j hj u hu
        · by_cases z : u = i
          · rw [z, updI_eq]
          · rw [updI_ne (by omega)]; exact hF2 u (by omega)
theorem lp_st3 (hI : TI T N) (hv1 : V 1 = (N : Int)) (mA : A 1 = flat T) (h4 : A 4 = D) (hD : ∀ j : Nat, j < n → 0 ≤ D j ∧ D j ≤ 9) (hn : n ≤ 6) {Q : Option Value → Hp → Prop} (Kn : ∀ hp3 F, ModAt hp3 q V (upA A 14 F) rd rl → SO hp hp3 q (q + 25) → TB T D N n n F → wp g MX12_streets (rm 3 0 0) Q 0 0 208 [some (.ref q), some (.int (I (n : Int))), none, none, none, none] [] hp3) : ∀ (m i : Nat), n < i + m → i ≤ n → ∀ (hp2 : Hp) (F : Int → Int) (K : ModAt hp2 q V (upA A 14 F) rd rl) (O : SO hp hp2 q (q + 25)) (hF : TB T D N n i F), wp g MX12_streets (rm 3 0 0) Q 0 0 98 [some (.ref q), some (.int (I (n : Int))), some (.int (I ((n : Int) - 1 - i))), none, none, none] [] hp2 := by
  intro m
  induction m with
  | zero => intro i h1 h2; exact absurd h1 (by omega)
  | succ m ih =>
    intro i h1 h2 hp2 F K O hF
    have hN := hI.men.2
    have hp6 := pow64 hN
    refine wp_iload_n (pc := 98) dX12_streets_98 rfl ?_
    refine wp_if_lt (pc := 99) 208 dX12_streets_99 (by decide) (by first | omega | exact TI.i5 (by assumption) | exact TI.i3 (by assumption) | exact TI.i2 (by assumption) | exact TI.i1 (by assumption) | exact TI.i0 (by assumption) | exact TI.i4 (by assumption) | exact TI.i6 (by assumption) | exact TI.i7 (by assumption)) (fun c99 => ?_) (fun c99 => ?_)
    ·
      have e : i = n := by omega
      subst e
      refine wp_ls ?_ (Kn hp2 F K O hF)
      repeat' (first | exact LE_0 | refine LE_s rfl ?_ | refine LE_s (I_c (by first | omega | (simp only [sm]; omega))) ?_ | refine LE_s (J_c (by first | omega | exact Int.pow_succ _ _ | exact (Int.pow_succ _ _).symm | exact (Int.pow_zero _).symm | (simp only [sm]; omega))) ?_ | refine LE_n ?_)
    ·
      refine wp_iconst (pc := 102) dX12_streets_102 ?_
      refine wp_istore_n (pc := 103) dX12_streets_103 (by decide) ?_
      refine wp_ls ?_ (lp_st4 (T := T) (D := D) (k := i) (n := n) hI hv1 mA h4 hD hn (by omega) (fun hp3 F3 K3 O3 h3 => ?_) (2 ^ N + 1) 0 (by omega) (by omega) hp2 F K O hF (fun u hu => by omega))
      · repeat' (first | exact LE_0 | refine LE_s rfl ?_ | refine LE_s (I_c (by first | omega | (simp only [sm]; omega))) ?_ | refine LE_s (J_c (by first | omega | exact Int.pow_succ _ _ | exact (Int.pow_succ _ _).symm | exact (Int.pow_zero _).symm | (simp only [sm]; omega))) ?_ | refine LE_n ?_)
      · refine wp_iinc (pc := 202) dX12_streets_202 rfl (by decide) ?_
        refine wp_goto (pc := 205) 98 dX12_streets_205 (by decide) ?_
        refine wp_ls ?_ (ih (i + 1) (by omega) (by omega) hp3 F3 K3 O3 h3)
        repeat' (first | exact LE_0 | refine LE_s rfl ?_ | refine LE_s (I_c (by first | omega | (simp only [sm]; omega))) ?_ | refine LE_s (J_c (by first | omega | exact Int.pow_succ _ _ | exact (Int.pow_succ _ _).symm | exact (Int.pow_zero _).symm | (simp only [sm]; omega))) ?_ | refine LE_n ?_)
theorem lvn_at {X Y : Nat → Int} {a : Int} {u i : Nat} (hXY : ¬ X u = Y u) (hi : i < N) (hno : ∀ j, j < i → lvP T D a X Y u j = false) (h : lvP T D a X Y u i = true) : lvn T D N a X Y u = (i : Int) := by
  unfold lvn
  rw [if_neg hXY, fst_at _ h hno N hi, if_pos hi]
theorem ngs_lt (hN : N ≤ 6) : ∀ a : Nat, (ngs T D N n a).1 < 2 ^ N
  | 0 => Nat.two_pow_pos N
  | a + 1 => by
    have ih := ngs_lt hN a
    have hl := lvn_in T D N a (nvt T D N n (n - (a + 1))) (nvt T D N n (n - a)) (ngs T D N n a).1
    unfold ngs
    dsimp only
    split
    · exact ih
    · exact or_ltM ih (by omega)
/-- who bears the name: the first by whom as many can -/
theorem lp_st7 (hI : TI T N) (K : ModAt hp q V A rd rl) (mA : A 1 = flat T) (h4 : A 4 = D) (h14 : A 14 = F) (ha : a < 6) (hs6 : s < 2 ^ N) {X Y : Nat → Int} (hX : ∀ u, u < 2 ^ N → F (((a + 1) * 64 + u : Nat) : Int) = X u) (hXi : ∀ u, 0 ≤ X u ∧ X u ≤ 7) (hYi : 0 ≤ Y s ∧ Y s ≤ 8) (hY : Y s = mxv T D (a : Int) X s N) (hXY : ¬ X s = Y s) (hD : 0 ≤ D (a : Int) ∧ D (a : Int) ≤ 9) {Q : Option Value → Hp → Prop} (Kn : ∀ i : Nat, i < N → lvn T D N (a : Int) X Y s = (i : Int) → wp g MX12_streets (rm 3 0 0) Q 0 0 301 [some (.ref q), some (.int (I (n : Int))), some (.int (I (s : Int))), some (.int (I (a : Int))), some (.int (I (Y s))), some (.int (I (i : Int)))] [] hp) : ∀ (m i : Nat), N < i + m → i ≤ N → ∀ (hno : ∀ j, j < i → lvP T D (a : Int) X Y s j = false), wp g MX12_streets (rm 3 0 0) Q 0 0 259 [some (.ref q), some (.int (I (n : Int))), some (.int (I (s : Int))), some (.int (I (a : Int))), some (.int (I (Y s))), some (.int (I (i : Int)))] [] hp := by
  intro m
  induction m with
  | zero => intro i h1 h2; exact absurd h1 (by omega)
  | succ m ih =>
    intro i h1 h2 hno
    have hN := hI.men.2
    have hp6 := pow64 hN
    have hlast : i < N := by
      by_cases z : i < N
      · exact z
      · rcases mxv_at (T := T) (D := D) (X := X) (a := (a : Int)) (u := s) N with h | ⟨j, hj1, hj2, hj3⟩
        · exact absurd (by rw [hY, h]) hXY
        · have := hno j (by omega)
          unfold lvP at this
          rw [decide_eq_false_iff_not] at this
          exact absurd ⟨hj2, by rw [hY, hj3]⟩ this
    have hlt := or_ltM (i := i) hs6 hlast
    have hx1 := hXi (s ||| 2 ^ i)
    refine wp_aload_n (pc := 259) dX12_streets_259 rfl ?_
    refine wp_iload_n (pc := 260) dX12_streets_260 rfl ?_
    refine wp_iload (pc := 261) dX12_streets_261 rfl ?_
    refine wp_iload_n (pc := 263) dX12_streets_263 rfl ?_
    refine wp_Vp (pc := 264) dX12_streets_264 cl_X12_315 (sp_Ref_canName (F := D) K hI mA h4 (by omega) (by omega) (by omega) hD) rfl rfl K.1 (by rfl) (by decide) (Nat.le_of_ble_eq_true rfl) ?_
    first | refine wp_ifb_eq (pc := 267) 295 dX12_streets_267 (by decide) (fun c267 => ?_) (fun c267 => ?_) | refine wp_if_eq (pc := 267) 295 dX12_streets_267 (by decide) (by first | omega | exact TI.i5 (by assumption) | exact TI.i3 (by assumption) | exact TI.i2 (by assumption) | exact TI.i1 (by assumption) | exact TI.i0 (by assumption) | exact TI.i4 (by assumption) | exact TI.i6 (by assumption) | exact TI.i7 (by assumption)) (fun c267 => ?_) (fun c267 => ?_)
    ·
      have hf : lvP T D (a : Int) X Y s i = false := by unfold lvP; rw [decide_eq_false_iff_not]; exact fun z => c267 z.1
      skip -- go
      refine wp_iinc (pc := 295) dX12_streets_295 rfl (by decide) ?_
      refine wp_goto (pc := 298) 259 dX12_streets_298 (by decide) ?_
      refine wp_ls ?_ (ih (i + 1) (by omega) (by omega) (fun j hj => if z : j = i then by rw [z]; exact hf else hno j (by omega)))
      repeat' (first | exact LE_0 | refine LE_s rfl ?_ | refine LE_s (I_c (by first | omega | (simp only [sm]; omega))) ?_ | refine LE_s (J_c (by first | omega | exact Int.pow_succ _ _ | exact (Int.pow_succ _ _).symm | exact (Int.pow_zero _).symm | (simp only [sm]; omega))) ?_ | refine LE_n ?_)
    ·
      refine wp_iconst (pc := 270) dX12_streets_270 ?_
      refine wp_aload_n (pc := 271) dX12_streets_271 rfl ?_
      refine wm_get dX12_streets_272 gf_X12_51 K (by rfl) ?_
      refine wp_iload_n (pc := 275) dX12_streets_275 rfl ?_
      refine wp_iconst (pc := 276) dX12_streets_276 ?_
      refine wp_iadd (pc := 277) dX12_streets_277 ?_
      refine wp_topE (show (a : Int) + 1 = ((a + 1 : Nat) : Int) by omega) ?_
      refine wp_bipush (pc := 278) (y := 6) dX12_streets_278 (by decide) ?_
      refine wp_ishl (pc := 280) dX12_streets_280 rfl ?_
      refine wp_iload_n (pc := 281) dX12_streets_281 rfl ?_
      refine wp_ior (pc := 282) dX12_streets_282 (I_row (by omega) (by omega)) ?_
      refine wp_iconst (pc := 283) dX12_streets_283 ?_
      refine wp_iload (pc := 284) dX12_streets_284 rfl ?_
      refine wp_ishl (pc := 286) dX12_streets_286 (I_shl (by omega)) ?_
      refine wp_ior (pc := 287) dX12_streets_287 (I_rowb (by omega) (by omega) (by omega)) ?_
      refine wm_iald dX12_streets_288 K (by rfl) (by decide) (by decide) (by decide) (by omega) (by omega) h14 (hX _ hlt) ?_
      refine wp_iadd (pc := 289) dX12_streets_289 ?_
      refine wp_iload (pc := 290) dX12_streets_290 rfl ?_
      refine wp_icmp_eq (pc := 292) 301 dX12_streets_292 (by decide) (by first | omega | exact TI.i5 (by assumption) | exact TI.i3 (by assumption) | exact TI.i2 (by assumption) | exact TI.i1 (by assumption) | exact TI.i0 (by assumption) | exact TI.i4 (by assumption) | exact TI.i6 (by assumption) | exact TI.i7 (by assumption)) (by first | omega | exact TI.i5 (by assumption) | exact TI.i3 (by assumption) | exact TI.i2 (by assumption) | exact TI.i1 (by assumption) | exact TI.i0 (by assumption) | exact TI.i4 (by assumption) | exact TI.i6 (by assumption) | exact TI.i7 (by assumption)) (fun c292 => ?_) (fun c292 => ?_)
      ·
        have ht : lvP T D (a : Int) X Y s i = true := by unfold lvP; rw [decide_eq_true_iff]; exact ⟨c267, c292⟩
        refine wp_ls ?_ (Kn i hlast (lvn_at hXY hlast hno ht))
        repeat' (first | exact LE_0 | refine LE_s rfl ?_ | refine LE_s (I_c (by first | omega | (simp only [sm]; omega))) ?_ | refine LE_s (J_c (by first | omega | exact Int.pow_succ _ _ | exact (Int.pow_succ _ _).symm | exact (Int.pow_zero _).symm | (simp only [sm]; omega))) ?_ | refine LE_n ?_)
      ·
        have hf : lvP T D (a : Int) X Y s i = false := by unfold lvP; rw [decide_eq_false_iff_not]; exact fun z => c292 z.2
        skip -- go
        refine wp_iinc (pc := 295) dX12_streets_295 rfl (by decide) ?_
        refine wp_goto (pc := 298) 259 dX12_streets_298 (by decide) ?_
        refine wp_ls ?_ (ih (i + 1) (by omega) (by omega) (fun j hj => if z : j = i then by rw [z]; exact hf else hno j (by omega)))
        repeat' (first | exact LE_0 | refine LE_s rfl ?_ | refine LE_s (I_c (by first | omega | (simp only [sm]; omega))) ?_ | refine LE_s (J_c (by first | omega | exact Int.pow_succ _ _ | exact (Int.pow_succ _ _).symm | exact (Int.pow_zero _).symm | (simp only [sm]; omega))) ?_ | refine LE_n ?_)
theorem lp_st6 (hI : TI T N) (M : MX V A N T U tx rw rt hs ss KT) (hD : ∀ j : Nat, j < n → 0 ≤ D j ∧ D j ≤ 9) (hn : n ≤ 6) (hF : TB T D N n n F) : ∀ (m i : Nat), n < i + m → i ≤ n → ∀ (hp2 : Hp) (V2 : Nat → Int) (A2 : Nat → Int → Int) (rd2 : Value) (K : ModAt hp2 q V2 A2 rd2 (.ref (q + 5))) (O : SO hp hp2 q (q + 25)) (h6 : V2 6 = 0) (mA : A2 1 = flat T) (h4 : A2 4 = D) (h14 : A2 14 = F) (hR : Mrw V2 A2 (ngs T D N n i).2) (sV : SV qV V V2) (sA : SA qA A A2), wp g MX12_streets (rm 3 0 0) (Eff (.int (I (nvt T D N n n 0))) (fun hp3 => MAt hp3 q 0 N T U tx (ngs T D N n n).2 rt hs ss KT ∧ SO hp hp3 q (q + 25))) 0 0 217 [some (.ref q), some (.int (I (n : Int))), some (.int (I (((ngs T D N n i).1 : Nat) : Int))), some (.int (I (i : Int))), none, none] [] hp2 := by
  intro m
  induction m with
  | zero => intro i h1 h2; exact absurd h1 (by omega)
  | succ m ih =>
    intro i h1 h2 hp2 V2 A2 rd2 K O h6 mA h4 h14 hR sV sA
    have hN := hI.men.2
    have hp6 := pow64 hN
    have hu := ngs_lt (T := T) (D := D) (n := n) hN i
    have hll := (ngs_in (T := T) (D := D) (N := N) (n := n) hN i).2
    have q1 := nvt_in T D N n (n - i) (ngs T D N n i).1
    have q2 := nvt_in T D N n (n - (i + 1)) (ngs T D N n i).1
    have hl := lvn_in T D N i (nvt T D N n (n - (i + 1))) (nvt T D N n (n - i)) (ngs T D N n i).1
    have hi0 := hF (n - i) (by omega) (ngs T D N n i).1 hu
    rw [show n - (n - i) = i by omega] at hi0
    have hX : i < n → ∀ u, u < 2 ^ N → F (((i + 1) * 64 + u : Nat) : Int) = nvt T D N n (n - (i + 1)) u := fun hi u huu => by have := hF (n - (i + 1)) (by omega) u huu; rwa [show n - (n - (i + 1)) = i + 1 by omega] at this
    refine wp_iload_n (pc := 217) dX12_streets_217 rfl ?_
    refine wp_iload_n (pc := 218) dX12_streets_218 rfl ?_
    refine wp_icmp_ge (pc := 219) 321 dX12_streets_219 (by decide) (by first | omega | exact TI.i5 (by assumption) | exact TI.i3 (by assumption) | exact TI.i2 (by assumption) | exact TI.i1 (by assumption) | exact TI.i0 (by assumption) | exact TI.i4 (by assumption) | exact TI.i6 (by assumption) | exact TI.i7 (by assumption)) (by first | omega | exact TI.i5 (by assumption) | exact TI.i3 (by assumption) | exact TI.i2 (by assumption) | exact TI.i1 (by assumption) | exact TI.i0 (by assumption) | exact TI.i4 (by assumption) | exact TI.i6 (by assumption) | exact TI.i7 (by assumption)) (fun c219 => ?_) (fun c219 => ?_)
    ·
      have e : i = n := by omega
      subst e -- go
      refine wp_aload_n (pc := 321) dX12_streets_321 rfl ?_
      refine wm_get dX12_streets_322 gf_X12_51 K (by rfl) ?_
      refine wp_iconst (pc := 325) dX12_streets_325 ?_
      refine wm_iald (i := 0) dX12_streets_326 K (by rfl) (by decide) (by decide) (by decide) (by omega) (by omega) h14 (show F 0 = nvt T D N i i 0 by have := hF i (Nat.le_refl _) 0 (by omega); rw [Nat.sub_self] at this; exact this) ?_
      exact wp_ir (pc := 327) dX12_streets_327 rfl (by decide) (by decide) (by first | rfl | omega) ⟨⟨_, _, _, K, (by repeat (first | assumption | exact pv10 | exact pv11 | (apply pv_o; decide; decide) | exact upN_eq | (apply upN_ne; decide) | (apply SV_at; assumption; decide) | exact rfl)), M.qu (by repeat (first | exact SV.rf | assumption | (apply SV.up1; decide) | (apply SV.tr2; assumption; decide))) (by repeat (first | exact SA.rf | assumption | (apply SA.up1; decide) | (apply SA.tr2; assumption; decide))) (by first | assumption | exact Mrw.z (by repeat (first | assumption | exact pv10 | exact pv11 | (apply pv_o; decide; decide) | exact upN_eq | (apply upN_ne; decide) | (apply SV_at; assumption; decide) | exact rfl)) | exact Mrw.tr (by assumption) (by repeat (first | assumption | exact pv10 | exact pv11 | (apply pv_o; decide; decide) | exact upN_eq | (apply upN_ne; decide) | (apply SV_at; assumption; decide) | exact rfl)) (by repeat (first | assumption | exact upA_eq | (apply upA_ne; first | decide | omega) | (apply SA_at; assumption; first | decide | (simp; omega)) | exact rfl)))⟩, O⟩
    ·
      have hX' := hX (by omega) -- go
      refine wp_aload_n (pc := 222) dX12_streets_222 rfl ?_
      refine wm_get dX12_streets_223 gf_X12_51 K (by rfl) ?_
      refine wp_iload_n (pc := 226) dX12_streets_226 rfl ?_
      refine wp_bipush (pc := 227) (y := 6) dX12_streets_227 (by decide) ?_
      refine wp_ishl (pc := 229) dX12_streets_229 rfl ?_
      refine wp_iload_n (pc := 230) dX12_streets_230 rfl ?_
      refine wp_ior (pc := 231) dX12_streets_231 (I_row (by omega) (by omega)) ?_
      refine wm_iald dX12_streets_232 K (by rfl) (by decide) (by decide) (by decide) (by omega) (by omega) h14 hi0 ?_
      refine wp_istore (pc := 233) dX12_streets_233 (by decide) ?_
      refine wp_iconst (pc := 235) dX12_streets_235 ?_
      refine wp_istore (pc := 236) dX12_streets_236 (by decide) ?_
      refine wp_aload_n (pc := 238) dX12_streets_238 rfl ?_
      refine wm_get dX12_streets_239 gf_X12_51 K (by rfl) ?_
      refine wp_iload_n (pc := 242) dX12_streets_242 rfl ?_
      refine wp_iconst (pc := 243) dX12_streets_243 ?_
      refine wp_iadd (pc := 244) dX12_streets_244 ?_
      refine wp_topE (show (i : Int) + 1 = ((i + 1 : Nat) : Int) by omega) ?_
      refine wp_bipush (pc := 245) (y := 6) dX12_streets_245 (by decide) ?_
      refine wp_ishl (pc := 247) dX12_streets_247 rfl ?_
      refine wp_iload_n (pc := 248) dX12_streets_248 rfl ?_
      refine wp_ior (pc := 249) dX12_streets_249 (I_row (by omega) (by omega)) ?_
      refine wm_iald dX12_streets_250 K (by rfl) (by decide) (by decide) (by decide) (by omega) (by omega) h14 (hX' _ hu) ?_
      refine wp_iload (pc := 251) dX12_streets_251 rfl ?_
      refine wp_icmp_eq (pc := 253) 308 dX12_streets_253 (by decide) (by first | omega | exact TI.i5 (by assumption) | exact TI.i3 (by assumption) | exact TI.i2 (by assumption) | exact TI.i1 (by assumption) | exact TI.i0 (by assumption) | exact TI.i4 (by assumption) | exact TI.i6 (by assumption) | exact TI.i7 (by assumption)) (by first | omega | exact TI.i5 (by assumption) | exact TI.i3 (by assumption) | exact TI.i2 (by assumption) | exact TI.i1 (by assumption) | exact TI.i0 (by assumption) | exact TI.i4 (by assumption) | exact TI.i6 (by assumption) | exact TI.i7 (by assumption)) (fun c253 => ?_) (fun c253 => ?_)
      ·
        have e1 : lvn T D N i (nvt T D N n (n - (i + 1))) (nvt T D N n (n - i)) (ngs T D N n i).1 = -1 := if_pos c253
        have e2 : ngs T D N n (i + 1) = ((ngs T D N n i).1, (ngs T D N n i).2 ++ [-1]) := by
          show (if _ then _ else _, _) = _
          rw [if_pos e1, e1]
        skip -- go
        refine wp_aload_n (pc := 308) dX12_streets_308 rfl ?_
        refine wp_iload (pc := 309) dX12_streets_309 rfl ?_
        refine wp_i2l (pc := 311) dX12_streets_311 (by first | omega | exact TI.i5 (by assumption) | exact TI.i3 (by assumption) | exact TI.i2 (by assumption) | exact TI.i1 (by assumption) | exact TI.i0 (by assumption) | exact TI.i4 (by assumption) | exact TI.i6 (by assumption) | exact TI.i7 (by assumption)) ?_
        refine wp_Vn (pc := 312) dX12_streets_312 cl_X12_253 (sp_Ref_tellR K hR (by omega)) rfl rfl K.1 (by rfl) (by decide) (Nat.le_of_ble_eq_true rfl) (fun hp312 e312 => ?_)
        obtain ⟨⟨V312, A312, K, sV312, sA312, hR312⟩, O1⟩ := e312; replace O := SO.tr O O1
        refine wp_iinc (pc := 315) dX12_streets_315 rfl (by decide) ?_
        refine wp_goto (pc := 318) 217 dX12_streets_318 (by decide) ?_
        refine wp_ls ?_ (ih (i + 1) (by omega) (by omega) _ _ _ _ K O (by repeat (first | assumption | exact pv10 | exact pv11 | (apply pv_o; decide; decide) | exact upN_eq | (apply upN_ne; decide) | (apply SV_at; assumption; decide) | exact rfl)) (by repeat (first | assumption | exact upA_eq | (apply upA_ne; first | decide | omega) | (apply SA_at; assumption; first | decide | (simp; omega)) | exact rfl)) (by repeat (first | assumption | exact upA_eq | (apply upA_ne; first | decide | omega) | (apply SA_at; assumption; first | decide | (simp; omega)) | exact rfl)) (by repeat (first | assumption | exact upA_eq | (apply upA_ne; first | decide | omega) | (apply SA_at; assumption; first | decide | (simp; omega)) | exact rfl)) (by rw [e2]; exact hR312) (by repeat (first | exact SV.rf | assumption | (apply SV.up1; decide) | (apply SV.tr2; assumption; decide))) (by repeat (first | exact SA.rf | assumption | (apply SA.up1; decide) | (apply SA.tr2; assumption; decide))))
        rw [e2]
        repeat' (first | exact LE_0 | refine LE_s rfl ?_ | refine LE_s (I_c (by first | omega | (simp only [sm]; omega))) ?_ | refine LE_s (J_c (by first | omega | exact Int.pow_succ _ _ | exact (Int.pow_succ _ _).symm | exact (Int.pow_zero _).symm | (simp only [sm]; omega))) ?_ | refine LE_n ?_)
      ·
        refine wp_iconst (pc := 256) dX12_streets_256 ?_
        refine wp_istore (pc := 257) dX12_streets_257 (by decide) ?_
        refine wp_ls ?_ (lp_st7 (n := n) (D := D) (a := i) (s := (ngs T D N n i).1) (X := nvt T D N n (n - (i + 1))) (Y := nvt T D N n (n - i)) hI K mA h4 h14 (by omega) hu hX' (fun u => by have := nvt_in T D N n (n - (i + 1)) u; omega) (by omega) (by rw [show n - i = (n - (i + 1)) + 1 by omega]; show mxv T D ((n : Int) - (((n - (i + 1) : Nat) : Int) + 1)) _ _ N = _; rw [show (n : Int) - (((n - (i + 1) : Nat) : Int) + 1) = (i : Int) by omega]) c253 (hD i (by omega)) (fun z hz he => ?_) (N + 1) 0 (by omega) (by omega) (fun j hj => by omega))
        · repeat' (first | exact LE_0 | refine LE_s rfl ?_ | refine LE_s (I_c (by first | omega | (simp only [sm]; omega))) ?_ | refine LE_s (J_c (by first | omega | exact Int.pow_succ _ _ | exact (Int.pow_succ _ _).symm | exact (Int.pow_zero _).symm | (simp only [sm]; omega))) ?_ | refine LE_n ?_)
        · have e2 : ngs T D N n (i + 1) = ((ngs T D N n i).1 ||| 2 ^ z, (ngs T D N n i).2 ++ [(z : Int)]) := by
            show (if _ then _ else _, _) = _
            rw [if_neg (by rw [he]; omega), he, Int.toNat_natCast]
          refine wp_iload_n (pc := 301) dX12_streets_301 rfl ?_
          refine wp_iconst (pc := 302) dX12_streets_302 ?_
          refine wp_iload (pc := 303) dX12_streets_303 rfl ?_
          refine wp_ishl (pc := 305) dX12_streets_305 (I_shl (by omega)) ?_
          refine wp_ior (pc := 306) dX12_streets_306 I_or ?_
          refine wp_istore_n (pc := 307) dX12_streets_307 (by decide) ?_
          refine wp_aload_n (pc := 308) dX12_streets_308 rfl ?_
          refine wp_iload (pc := 309) dX12_streets_309 rfl ?_
          refine wp_i2l (pc := 311) dX12_streets_311 (by first | omega | exact TI.i5 (by assumption) | exact TI.i3 (by assumption) | exact TI.i2 (by assumption) | exact TI.i1 (by assumption) | exact TI.i0 (by assumption) | exact TI.i4 (by assumption) | exact TI.i6 (by assumption) | exact TI.i7 (by assumption)) ?_
          refine wp_Vn (pc := 312) dX12_streets_312 cl_X12_253 (sp_Ref_tellR K hR (by omega)) rfl rfl K.1 (by rfl) (by decide) (Nat.le_of_ble_eq_true rfl) (fun hp312 e312 => ?_)
          obtain ⟨⟨V312, A312, K, sV312, sA312, hR312⟩, O1⟩ := e312; replace O := SO.tr O O1
          refine wp_iinc (pc := 315) dX12_streets_315 rfl (by decide) ?_
          refine wp_goto (pc := 318) 217 dX12_streets_318 (by decide) ?_
          refine wp_ls ?_ (ih (i + 1) (by omega) (by omega) _ _ _ _ K O (by repeat (first | assumption | exact pv10 | exact pv11 | (apply pv_o; decide; decide) | exact upN_eq | (apply upN_ne; decide) | (apply SV_at; assumption; decide) | exact rfl)) (by repeat (first | assumption | exact upA_eq | (apply upA_ne; first | decide | omega) | (apply SA_at; assumption; first | decide | (simp; omega)) | exact rfl)) (by repeat (first | assumption | exact upA_eq | (apply upA_ne; first | decide | omega) | (apply SA_at; assumption; first | decide | (simp; omega)) | exact rfl)) (by repeat (first | assumption | exact upA_eq | (apply upA_ne; first | decide | omega) | (apply SA_at; assumption; first | decide | (simp; omega)) | exact rfl)) (by rw [e2]; exact hR312) (by repeat (first | exact SV.rf | assumption | (apply SV.up1; decide) | (apply SV.tr2; assumption; decide))) (by repeat (first | exact SA.rf | assumption | (apply SA.up1; decide) | (apply SA.tr2; assumption; decide))))
          rw [e2]
          repeat' (first | exact LE_0 | refine LE_s rfl ?_ | refine LE_s (I_c (by first | omega | (simp only [sm]; omega))) ?_ | refine LE_s (J_c (by first | omega | exact Int.pow_succ _ _ | exact (Int.pow_succ _ _).symm | exact (Int.pow_zero _).symm | (simp only [sm]; omega))) ?_ | refine LE_n ?_)
theorem mxv_cg {D' : Int → Int} {a : Int} (h : D a = D' a) {X : Nat → Int} {u : Nat} : ∀ k, mxv T D a X u k = mxv T D' a X u k
  | 0 => rfl
  | k + 1 => by
    have ih := mxv_cg h (X := X) (u := u) k
    unfold mxv
    rw [h, ih]
theorem nvt_cg {D' : Int → Int} (h : ∀ j : Nat, j < n → D j = D' j) : ∀ m, m ≤ n → nvt T D N n m = nvt T D' N n m
  | 0, _ => rfl
  | m + 1, hm => by
    have ih := nvt_cg h m (by omega)
    funext u
    show mxv T D ((n : Int) - ((m : Int) + 1)) (nvt T D N n m) u N = mxv T D' ((n : Int) - ((m : Int) + 1)) (nvt T D' N n m) u N
    rw [ih]
    exact mxv_cg (by have := h (n - (m + 1)) (by omega); rwa [show ((n - (m + 1) : Nat) : Int) = (n : Int) - ((m : Int) + 1) by omega] at this) N
theorem lvn_cg {D' : Int → Int} {a : Int} (h : D a = D' a) {X Y : Nat → Int} {u : Nat} : lvn T D N a X Y u = lvn T D' N a X Y u := by
  have e : lvP T D a X Y u = lvP T D' a X Y u := by
    funext i
    unfold lvP
    rw [h]
  unfold lvn
  rw [e]
theorem ngs_cg {D' : Int → Int} (h : ∀ j : Nat, j < n → D j = D' j) : ∀ a, a ≤ n → ngs T D N n a = ngs T D' N n a
  | 0, _ => rfl
  | a + 1, ha => by
    have ih := ngs_cg h a (by omega)
    unfold ngs
    rw [ih, nvt_cg h (n - (a + 1)) (by omega), nvt_cg h (n - a) (by omega), lvn_cg (D' := D') (h a (by omega))]
theorem least_t {P : Nat → Bool} {j : Nat} (h : P j = true) : ∃ k, k ≤ j ∧ P k = true ∧ ∀ i, i < k → P i = false := by
  induction j using Nat.strongRecOn with
  | ind j ih =>
    by_cases z : ∃ i, i < j ∧ P i = true
    · obtain ⟨i, hi, hp⟩ := z
      obtain ⟨k, a, b, c⟩ := ih i hi hp
      exact ⟨k, by omega, b, c⟩
    · refine ⟨j, Nat.le_refl _, h, fun i hi => ?_⟩
      cases hz : P i with
      | false => rfl
      | true => exact absurd ⟨i, hi, hz⟩ z
theorem rs_dg (h : rsA l = -1) {j : Nat} (hj : j < l.length) : 48 ≤ l.getD j 0 ∧ l.getD j 0 ≤ 57 := by
  unfold rsA at h
  have hle := fst_le (ndg l) (min l.length 6)
  by_cases z : fst (ndg l) (min l.length 6) < min l.length 6
  · rw [if_pos z] at h; omega
  · rw [if_neg z] at h
    have hl : l.length ≤ 6 := by
      by_cases y : l.length = 0 ∨ 6 < l.length
      · rw [if_pos y] at h; omega
      · omega
    apply Classical.byContradiction
    intro w
    have hn : ndg l j = true := by unfold ndg; rw [decide_eq_false w]; rfl
    have hlt : fst (ndg l) (min l.length 6) ≤ j := by
      obtain ⟨k, hk1, hk2, hk3⟩ := least_t (P := ndg l) hn
      rw [fst_at (ndg l) hk2 hk3 (min l.length 6) (by omega)]
      exact hk1
    omega
/-- the digits of a text -/
def Dg (l : List Int) (j : Int) : Int := l.getD j.toNat 0 - 48
theorem SV.pp {L : List Nat} {p p' : Nat} {x x' : Int} (h10 : 10 ∈ L) (h11 : 11 ∈ L) : SV L (pv V p x) (pv V p' x') := fun k hk => by
  have n1 : k ≠ 10 := fun z => hk (by rw [z]; exact h10)
  have n2 : k ≠ 11 := fun z => hk (by rw [z]; exact h11)
  unfold pv upN
  rw [if_neg n2, if_neg n1, if_neg n2, if_neg n1]
theorem MX.tx0 (h : MX V A N T U tx rw rt hs ss KT) {L : List Nat} (sV : SV L V V2) (hL : ∀ k ∈ [1, 5, 15, 19, 28, 32, 36], k ∉ L) (h3 : V2 3 = 0) : MX V2 A N T U [] rw rt hs ss KT := by
  obtain ⟨m1, mA, mt, mr, mu, mU, mh, ms, mk⟩ := h
  have v : ∀ k, k ∈ [1, 5, 15, 19, 28, 32, 36] → V2 k = V k := fun k hk => sV k (hL k hk)
  exact ⟨(v 1 (by decide)).trans m1, mA, ⟨h3, by decide, fun _ h => (by cases h), fun _ h => (by cases h)⟩, mr.tr (v 5 (by decide)) rfl, mu.tr (v 15 (by decide)) rfl, mU.tr (v 19 (by decide)) rfl, mh.tr (v 28 (by decide)) rfl rfl, ms.tr (v 32 (by decide)) rfl rfl rfl, mk.tr (v 36 (by decide)) rfl rfl rfl⟩
theorem sp_Ref_streets (hM : MAt hp q th N T U tx rw rt hs ss KT) (hI : TI T N) : Sp g MX12_streets (rm 3 0 0) [.ref q] hp (Eff (.int (I (if rsA tx = -1 then nvt T (Dg tx) N tx.length tx.length 0 else -1 - rsA tx))) (fun hp2 => MAt hp2 q 0 N T U [] (if rsA tx = -1 then (ngs T (Dg tx) N tx.length tx.length).2 else rw) rt hs ss KT ∧ SO hp hp2 q (q + 25))) := by
  have hN := hI.men.2
  have hp6 := pow64 hN
  refine Sp_mk rfl (Nat.le_of_ble_eq_true rfl) ?_
  show wp g _ _ _ 0 0 0 [some (.ref q), none, none, none, none, none] [] hp
  have O := SO.rf (hp := hp) (lo := q) (hi := q + 25)
  obtain ⟨V, A, rd, K, hth, M⟩ := hM
  have hu := M.ru (q := q)
  have M2 := M
  obtain ⟨m1, mA, mt, mr, mu, mU, mh, ms, mk⟩ := M2
  have hl := mt.2.1
  have hb := mt.2.2.1
  refine wp_aload_n (pc := 0) dX12_streets_0 rfl ?_
  refine wp_iconst (pc := 1) dX12_streets_1 ?_
  refine wm_put dX12_streets_2 pf_X12_85 K O (by decide) mset_6 rfl rfl (fun hp K O => ?_)
  refine wp_aload_n (pc := 5) dX12_streets_5 rfl ?_
  refine wp_bipush (pc := 6) (y := 6) dX12_streets_6 (by decide) ?_
  refine wp_Vn (pc := 8) dX12_streets_8 cl_X12_145 (sp_Ref_beginText (x := (tx.length : Int)) K (upN_ne (by decide) mt.1)) rfl rfl K.1 (by rfl) (by decide) (Nat.le_of_ble_eq_true rfl) (fun hp8 e8 => ?_)
  obtain ⟨K, O1⟩ := e8
  replace O := SO.tr O O1
  refine wp_iconst (pc := 11) dX12_streets_11 ?_
  refine wp_istore_n (pc := 12) dX12_streets_12 (by decide) ?_
  have M1 : MX (pv (upN (upN (upN (upN V 6 0) 8 tx.length) 9 6) 3 0) 0 (-1)) A N T U [] rw rt hs ss KT := M.tx0 (L := [6, 8, 9, 3, 10, 11]) ((((((SV.rf.up (by decide)).up (by decide)).up (by decide)).up (by decide)).up (by decide)).up (by decide)) (by decide) rfl
  have hL : RdL A (upN (upN (upN (upN V 6 0) 8 tx.length) 9 6) 3 0) q (.ref (q + 2)) tx 6 := ⟨2, .inl rfl, rfl, rfl, rfl, hl, fun z => absurd rfl z, by decide, hb, mt.2.2.2⟩
  refine wp_ls ?_ (lp_st1 (V := upN (upN (upN (upN V 6 0) 8 tx.length) 9 6) 3 0) (A := A) (rd := .ref (q + 2)) hb (fun hp3 F n p x K O hp6' hx hok hiff her => ?_) 7 0 (by omega) (by omega) _ (A 4) (by rw [upA_id rfl]; exact K) O (by rw [upA_id rfl]; exact hL) (by omega) (fun j hj => by omega) (fun j hj => by omega))
  · repeat' (first | exact LE_0 | refine LE_s rfl ?_ | refine LE_s (I_c (by first | omega | (simp only [sm]; omega))) ?_ | refine LE_s (J_c (by first | omega | exact Int.pow_succ _ _ | exact (Int.pow_succ _ _).symm | exact (Int.pow_zero _).symm | (simp only [sm]; omega))) ?_ | refine LE_n ?_)
  · have rx : InR x := by omega
    refine wp_aload_n (pc := 52) dX12_streets_52 rfl ?_
    refine wp_Vs (pc := 53) dX12_streets_53 cl_X12_148 (sp_Ref_wasRight K (n := tx.length) rfl rx (by omega) (by omega)) rfl rfl K.1 (by rfl) (by decide) (Nat.le_of_ble_eq_true rfl) (fun hp53 e53 => ?_)
    obtain ⟨K, O1⟩ := e53
    replace O := SO.tr O O1
    rw [her] at K
    first | refine wp_ifb_ne (pc := 56) 66 dX12_streets_56 (by decide) (fun c56 => ?_) (fun c56 => ?_) | refine wp_if_ne (pc := 56) 66 dX12_streets_56 (by decide) (by first | omega | exact TI.i5 (by assumption) | exact TI.i3 (by assumption) | exact TI.i2 (by assumption) | exact TI.i1 (by assumption) | exact TI.i0 (by assumption) | exact TI.i4 (by assumption) | exact TI.i6 (by assumption) | exact TI.i7 (by assumption)) (fun c56 => ?_) (fun c56 => ?_)
    ·
      have he := hiff.mp c56
      obtain ⟨en, ep, ex, hS⟩ := hok he
      rw [he, ep] at K
      rw [ep] at hp6'
      rw [en] at hS
      rw [en]
      have hv1 : pv (upN (upN (upN (upN V 6 0) 8 tx.length) 9 6) 3 0) tx.length (-1) 1 = (N : Int) := m1
      have hDj : ∀ j : Nat, j < tx.length → F j = Dg tx j := fun j hj => by rw [hS j hj]; unfold Dg; rw [Int.toNat_natCast]
      have hD : ∀ j : Nat, j < tx.length → 0 ≤ F j ∧ F j ≤ 9 := fun j hj => by have := rs_dg he hj; rw [hS j hj]; omega
      rw [if_pos he, if_pos he, ← nvt_cg hDj _ (Nat.le_refl _), ← ngs_cg hDj _ (Nat.le_refl _)] -- go
      refine wp_iconst (pc := 66) dX12_streets_66 ?_
      refine wp_istore_n (pc := 67) dX12_streets_67 (by decide) ?_
      refine wp_ls ?_ (lp_st2 (T := T) (D := F) (n := tx.length) (A := upA A 4 F) hN hv1 hp6' (fun hp3 F3 K3 O3 h3 => ?_) (2 ^ N + 1) 0 (by omega) (by omega) _ (A 14) (by rw [upA_id (A := upA A 4 F) (upA_ne (by decide) rfl)]; exact K) O (fun u hu => by omega))
      · repeat' (first | exact LE_0 | refine LE_s rfl ?_ | refine LE_s (I_c (by first | omega | (simp only [sm]; omega))) ?_ | refine LE_s (J_c (by first | omega | exact Int.pow_succ _ _ | exact (Int.pow_succ _ _).symm | exact (Int.pow_zero _).symm | (simp only [sm]; omega))) ?_ | refine LE_n ?_)
      · have O := O3
        refine wp_iload_n (pc := 94) dX12_streets_94 rfl ?_
        refine wp_iconst (pc := 95) dX12_streets_95 ?_
        refine wp_isub (pc := 96) dX12_streets_96 ?_
        refine wp_istore_n (pc := 97) dX12_streets_97 (by decide) ?_
        refine wp_ls ?_ (lp_st3 (T := T) (D := F) (n := tx.length) (A := upA A 4 F) hI hv1 (upA_ne (by decide) mA) upA_eq hD hp6' (fun hp4 F4 K4 O4 h4 => ?_) (tx.length + 1) 0 (by omega) (by omega) _ F3 K3 O3 h3)
        · repeat' (first | exact LE_0 | refine LE_s rfl ?_ | refine LE_s (I_c (by first | omega | (simp only [sm]; omega))) ?_ | refine LE_s (J_c (by first | omega | exact Int.pow_succ _ _ | exact (Int.pow_succ _ _).symm | exact (Int.pow_zero _).symm | (simp only [sm]; omega))) ?_ | refine LE_n ?_)
        · have K := K4
          have O := O4
          refine wp_aload_n (pc := 208) dX12_streets_208 rfl ?_
          refine wp_iconst (pc := 209) dX12_streets_209 ?_
          refine wm_put dX12_streets_210 pf_X12_89 K O (by decide) mset_5 rfl rfl (fun hp K O => ?_)
          refine wp_iconst (pc := 213) dX12_streets_213 ?_
          refine wp_istore_n (pc := 214) dX12_streets_214 (by decide) ?_
          refine wp_iconst (pc := 215) dX12_streets_215 ?_
          refine wp_istore_n (pc := 216) dX12_streets_216 (by decide) ?_
          refine wp_ls ?_ (lp_st6 (D := F) (F := F4) (n := tx.length) hI M1 hD hp6' h4 (tx.length + 1) 0 (by omega) (by omega) _ _ _ _ K O (by repeat (first | assumption | exact pv10 | exact pv11 | (apply pv_o; decide; decide) | exact upN_eq | (apply upN_ne; decide) | (apply SV_at; assumption; decide) | exact rfl)) (by repeat (first | assumption | exact upA_eq | (apply upA_ne; first | decide | omega) | (apply SA_at; assumption; first | decide | (simp; omega)) | exact rfl)) (by repeat (first | assumption | exact upA_eq | (apply upA_ne; first | decide | omega) | (apply SA_at; assumption; first | decide | (simp; omega)) | exact rfl)) (by repeat (first | assumption | exact upA_eq | (apply upA_ne; first | decide | omega) | (apply SA_at; assumption; first | decide | (simp; omega)) | exact rfl)) (Mrw.z (by repeat (first | assumption | exact pv10 | exact pv11 | (apply pv_o; decide; decide) | exact upN_eq | (apply upN_ne; decide) | (apply SV_at; assumption; decide) | exact rfl))) (SV.up1 (by decide) (SV.pp (by decide) (by decide))) (by repeat (first | exact SA.rf | assumption | (apply SA.up1; decide) | (apply SA.tr2; assumption; decide))))
          repeat' (first | exact LE_0 | refine LE_s rfl ?_ | refine LE_s (I_c (by first | omega | (simp only [sm]; omega))) ?_ | refine LE_s (J_c (by first | omega | exact Int.pow_succ _ _ | exact (Int.pow_succ _ _).symm | exact (Int.pow_zero _).symm | (simp only [sm]; omega))) ?_ | refine LE_n ?_)
    ·
      have hne : ¬ rsA tx = -1 := fun z => c56 (hiff.mpr z)
      rw [if_neg hne, if_neg hne] -- go
      refine wp_iconst (pc := 59) dX12_streets_59 ?_
      refine wp_aload_n (pc := 60) dX12_streets_60 rfl ?_
      refine wm_gets dX12_streets_61 gf_X12_118 K (by rfl) (by repeat (first | assumption | exact pv10 | exact pv11 | (apply pv_o; decide; decide) | exact upN_eq | (apply upN_ne; decide) | (apply SV_at; assumption; decide) | exact rfl)) ?_
      refine wp_isub (pc := 64) dX12_streets_64 ?_
      exact wp_ir (pc := 65) dX12_streets_65 rfl (by decide) (by decide) (by first | rfl | omega) ⟨⟨_, _, _, K, rfl, M1.qu (SV.pp (by decide) (by decide)) (by repeat (first | exact SA.rf | assumption | (apply SA.up1; decide) | (apply SA.tr2; assumption; decide))) (Mrw.tr mr rfl rfl)⟩, O⟩
end MQ_

