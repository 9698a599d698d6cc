/-! the reference: flattery, wakes, echo, sheets -/
section MN_
variable {g : GT} {hp hp0 : Hp} {q N n a b s k p D : Nat} {V V2 V3 : Nat → Int} {A A2 A3 : Nat → Int → Int} {rd rl : Value} {i j x v c y z w th : Int} {T T2 : Nat → Int → Int} {l t cs tx rw rw2 rt : List Int} {W G f : Int → Int} {U U2 : List (Nat → Int → Int)} {hs : List (Int × Int)} {ss : List (Int × Int × Int)} {KT : Nat → Option (Nat → Int → Int)} {L L2 : List Nat}
def ab (x : Int) : Int := if x < 0 then -x else x
def flv (cs : List Int) (T : Nat → Int → Int) (i j : Nat) : Int := ab (T 0 ((i : Int) * 6 + j) - wv cs T i j)
theorem flv_in {cs : List Int} (hI : TI T N) (i j : Nat) : 0 ≤ flv cs T i j ∧ flv cs T i j ≤ 9 := by
  have h1 := hI.r0 ((i : Int) * 6 + j)
  have h2 := wv_in cs T (i : Int) (j : Int)
  unfold flv ab
  split <;> omega
/-- the first pair that differs most: how much, who, of whom -/
def flj (v : Nat → Nat → Int) (i : Nat) (s : Int × Int × Int) : Nat → Int × Int × Int
  | 0 => s
  | j + 1 => if i ≠ j ∧ (flj v i s j).1 < v i j then (v i j, (i : Int), (j : Int)) else flj v i s j
def fli (v : Nat → Nat → Int) (N : Nat) : Nat → Int × Int × Int
  | 0 => (-1, -1, -1)
  | i + 1 => flj v i (fli v N i) N
abbrev flR (N : Nat) (s : Int × Int × Int) : Prop := (s = (-1, -1, -1)) ∨ (0 ≤ s.1 ∧ s.1 ≤ 9 ∧ 0 ≤ s.2.1 ∧ s.2.1 < N ∧ 0 ≤ s.2.2 ∧ s.2.2 < N)
theorem flj_in {v : Nat → Nat → Int} {r : Int × Int × Int} {i : Nat} (hv : ∀ i j, 0 ≤ v i j ∧ v i j ≤ 9) (hi : i < N) (hr : flR N r) : ∀ j : Nat, j ≤ N → flR N (flj v i r j)
  | 0, _ => hr
  | j + 1, hj => by
    have := flj_in hv hi hr j (by omega)
    have h2 := hv i j
    unfold flj
    split
    · exact .inr ⟨h2.1, h2.2, by show 0 ≤ (i : Int); omega, by show (i : Int) < N; omega, by show 0 ≤ (j : Int); omega, by show (j : Int) < N; omega⟩
    · exact this
theorem fli_in {v : Nat → Nat → Int} (hv : ∀ i j, 0 ≤ v i j ∧ v i j ≤ 9) : ∀ i : Nat, i ≤ N → flR N (fli v N i)
  | 0, _ => .inl rfl
  | i + 1, hi => flj_in hv (by omega) (fli_in hv i (by omega)) N (Nat.le_refl _)
theorem flR_in {s : Int × Int × Int} (h : flR N s) (hN : N ≤ 6) : InR s.1 ∧ InR s.2.1 ∧ InR s.2.2 ∧ (s.1 ≠ -1 → 0 ≤ s.2.1 ∧ s.2.1 < N ∧ 0 ≤ s.2.2 ∧ s.2.2 < N) ∧ -1 ≤ s.1 := by
  rcases h with h | h
  · rw [h]; exact ⟨by decide, by decide, by decide, fun z => absurd rfl z, by decide⟩
  · exact ⟨by omega, by omega, by omega, fun _ => h.2.2, by omega⟩
theorem lp_fl2 (hI : TI T N) (M : MX V A N T U tx rw rt hs ss KT) (hn : n < N) {r : Int × Int × Int} (hr : flR N r) {Q : Option Value → Hp → Prop} (Kn : ∀ hp3 V3 A3 rd3, ModAt hp3 q V3 A3 rd3 (.ref (q + 5)) → SO hp hp3 q (q + 25) → V3 6 = 0 → SV qV V V3 → SA qA A A3 → Mrw V3 A3 rw → wp g MX12_flattery (rm 230 0 0) Q 0 0 99 [some (.ref q), some (.int (I (flj (flv (stl rt) T) n r N).1)), some (.int (I (flj (flv (stl rt) T) n r N).2.1)), some (.int (I (flj (flv (stl rt) T) n r N).2.2)), some (.int (I (n : Int))), none, none] [] hp3) : ∀ (m i : Nat), N < i + m → i ≤ N → ∀ (hp2 : Hp) (V2 : Nat → Int) (A2 : Nat → Int → Int) (rd2 : Value) (K : ModAt hp2 q V2 A2 rd2 (.ref (q + 5))) (O : SO hp hp2 q (q + 25)) (h6 : V2 6 = 0) (sV : SV qV V V2) (sA : SA qA A A2) (hR : Mrw V2 A2 rw), wp g MX12_flattery (rm 230 0 0) Q 0 0 26 [some (.ref q), some (.int (I (flj (flv (stl rt) T) n r i).1)), some (.int (I (flj (flv (stl rt) T) n r i).2.1)), some (.int (I (flj (flv (stl rt) T) n r i).2.2)), some (.int (I (n : Int))), some (.int (I (i : Int))), none] [] hp2 := by
  intro m
  induction m with
  | zero => intro i h1 h2; exact absurd h1 (by omega)
  | succ m ih =>
    intro i h1 h2 hp2 V2 A2 rd2 K O h6 sV sA hR
    have hN := hI.men.2
    have m1 := M.1
    have mA := M.2.1
    have hu := M.ru (q := q)
    have q1 := flR_in (flj_in (flv_in (cs := stl rt) hI) hn hr i (by omega)) hN
    have q2 := flv_in (cs := stl rt) hI n i
    have b0 := hI.r0 ((n : Int) * 6 + i)
    have b1 := wv_in (stl rt) T (n : Int) (i : Int)
    refine wp_iload (pc := 26) dX12_flattery_26 rfl ?_
    refine wp_aload_n (pc := 28) dX12_flattery_28 rfl ?_
    refine wm_gets dX12_flattery_29 gf_X12_92 K (by rfl) (by repeat (first | assumption | exact pv10 | exact pv11 | (apply pv_o; decide; decide) | exact upN_eq | (apply upN_ne; decide) | (apply SV_at; assumption; decide) | exact rfl)) ?_
    refine wp_icmp_ge (pc := 32) 99 dX12_flattery_32 (by decide) (by first | omega | exact TI.i5 (by assumption) | exact TI.i3 (by assumption) | exact TI.i2 (by assumption) | exact TI.i1 (by assumption) | exact TI.i0 (by assumption) | exact TI.i4 (by assumption) | exact TI.i6 (by assumption) | exact TI.i7 (by assumption)) (by first | omega | exact TI.i5 (by assumption) | exact TI.i3 (by assumption) | exact TI.i2 (by assumption) | exact TI.i1 (by assumption) | exact TI.i0 (by assumption) | exact TI.i4 (by assumption) | exact TI.i6 (by assumption) | exact TI.i7 (by assumption)) (fun c32 => ?_) (fun c32 => ?_)
    ·
      have e : i = N := by omega
      subst e
      refine wp_ls ?_ (Kn hp2 V2 A2 rd2 K O h6 sV sA hR)
      repeat' (first | exact LE_0 | refine LE_s rfl ?_ | refine LE_s (I_c (by first | omega | (simp only [sm]; omega))) ?_ | refine LE_s (J_c (by first | omega | exact Int.pow_succ _ _ | exact (Int.pow_succ _ _).symm | exact (Int.pow_zero _).symm | (simp only [sm]; omega))) ?_ | refine LE_n ?_)
    ·
      refine wp_iload (pc := 35) dX12_flattery_35 rfl ?_
      refine wp_iload (pc := 37) dX12_flattery_37 rfl ?_
      refine wp_icmp_ne (pc := 39) 45 dX12_flattery_39 (by decide) (by first | omega | exact TI.i5 (by assumption) | exact TI.i3 (by assumption) | exact TI.i2 (by assumption) | exact TI.i1 (by assumption) | exact TI.i0 (by assumption) | exact TI.i4 (by assumption) | exact TI.i6 (by assumption) | exact TI.i7 (by assumption)) (by first | omega | exact TI.i5 (by assumption) | exact TI.i3 (by assumption) | exact TI.i2 (by assumption) | exact TI.i1 (by assumption) | exact TI.i0 (by assumption) | exact TI.i4 (by assumption) | exact TI.i6 (by assumption) | exact TI.i7 (by assumption)) (fun c39 => ?_) (fun c39 => ?_)
      ·
        refine wp_aload_n (pc := 45) dX12_flattery_45 rfl ?_
        refine wm_get dX12_flattery_46 gf_X12_9 K (by rfl) ?_
        refine wp_iload (pc := 49) dX12_flattery_49 rfl ?_
        refine wp_iload (pc := 51) dX12_flattery_51 rfl ?_
        refine wp_Sp (pc := 53) dX12_flattery_53 cl_X12_151 sp_Ref_pair rfl rfl (by decide) (Nat.le_of_ble_eq_true rfl) ?_
        refine wm_iald dX12_flattery_56 K (by first | rfl | assumption) (by first | decide | omega) (by first | decide | omega) (by decide) (by omega) (by omega) (by repeat (first | assumption | exact upA_eq | (apply upA_ne; first | decide | omega) | (apply SA_at; assumption; first | decide | (simp; omega)) | exact rfl)) (by first | exact flat5 (by omega) (by omega) | exact flat3 (by omega) (by omega) | exact flat2 (by omega) (by omega) | exact flat6 (by omega) (by omega) | exact flat4 (by omega) (by omega) | exact flat1 (by omega) (by omega) | exact flat0 (by omega) (by omega) | exact flat7 | exact rfl) ?_
        refine wp_aload_n (pc := 57) dX12_flattery_57 rfl ?_
        refine wp_aload_n (pc := 58) dX12_flattery_58 rfl ?_
        refine wm_get dX12_flattery_59 gf_X12_9 K (by rfl) ?_
        refine wp_iload (pc := 62) dX12_flattery_62 rfl ?_
        refine wp_iload (pc := 64) dX12_flattery_64 rfl ?_
        refine wp_Vs (pc := 66) dX12_flattery_66 cl_X12_216 (sp_Ref_wordsOf K hI (.inl rfl) (by repeat (first | assumption | exact upA_eq | (apply upA_ne; first | decide | omega) | (apply SA_at; assumption; first | decide | (simp; omega)) | exact rfl)) (RuA.cc hu (by repeat (first | assumption | exact pv10 | exact pv11 | (apply pv_o; decide; decide) | exact upN_eq | (apply upN_ne; decide) | (apply SV_at; assumption; decide) | exact rfl)) (by repeat (first | assumption | exact upA_eq | (apply upA_ne; first | decide | omega) | (apply SA_at; assumption; first | decide | (simp; omega)) | exact rfl)) (by repeat (first | assumption | exact upA_eq | (apply upA_ne; first | decide | omega) | (apply SA_at; assumption; first | decide | (simp; omega)) | exact rfl))) (by omega) (by omega)) rfl rfl K.1 (by rfl) (by decide) (Nat.le_of_ble_eq_true rfl) (fun hp66 e66 => ?_)
        obtain ⟨⟨V66, A66, rd66, K, sV66, sA66⟩, O1⟩ := e66; replace O := SO.tr O O1
        refine wp_isub (pc := 69) dX12_flattery_69 ?_
        refine wp_abs (pc := 70) dX12_flattery_70 ml_X12_303 ma_abs_s ma_ini ma_abs_c (by decide) (by decide) (by decide) (by decide) (Nat.le_of_ble_eq_true rfl) (by first | omega | exact TI.i5 (by assumption) | exact TI.i3 (by assumption) | exact TI.i2 (by assumption) | exact TI.i1 (by assumption) | exact TI.i0 (by assumption) | exact TI.i4 (by assumption) | exact TI.i6 (by assumption) | exact TI.i7 (by assumption)) ?_
        refine wp_topE (show (if T 0 ((n : Int) * 6 + i) - wv (stl rt) T (n : Int) (i : Int) < 0 then -(T 0 ((n : Int) * 6 + i) - wv (stl rt) T (n : Int) (i : Int)) else T 0 ((n : Int) * 6 + i) - wv (stl rt) T (n : Int) (i : Int)) = flv (stl rt) T n i from rfl) ?_
        refine wp_istore (pc := 73) dX12_flattery_73 (by decide) ?_
        refine wp_iload (pc := 75) dX12_flattery_75 rfl ?_
        refine wp_iload_n (pc := 77) dX12_flattery_77 rfl ?_
        refine wp_icmp_gt (pc := 78) 84 dX12_flattery_78 (by decide) (by first | omega | exact TI.i5 (by assumption) | exact TI.i3 (by assumption) | exact TI.i2 (by assumption) | exact TI.i1 (by assumption) | exact TI.i0 (by assumption) | exact TI.i4 (by assumption) | exact TI.i6 (by assumption) | exact TI.i7 (by assumption)) (by first | omega | exact TI.i5 (by assumption) | exact TI.i3 (by assumption) | exact TI.i2 (by assumption) | exact TI.i1 (by assumption) | exact TI.i0 (by assumption) | exact TI.i4 (by assumption) | exact TI.i6 (by assumption) | exact TI.i7 (by assumption)) (fun c78 => ?_) (fun c78 => ?_)
        ·
          have e1 : flj (flv (stl rt) T) n r (i + 1) = (flv (stl rt) T n i, (n : Int), (i : Int)) := if_pos (by omega)
          skip -- go
          refine wp_iload (pc := 84) dX12_flattery_84 rfl ?_
          refine wp_istore_n (pc := 86) dX12_flattery_86 (by decide) ?_
          refine wp_iload (pc := 87) dX12_flattery_87 rfl ?_
          refine wp_istore_n (pc := 89) dX12_flattery_89 (by decide) ?_
          refine wp_iload (pc := 90) dX12_flattery_90 rfl ?_
          refine wp_istore_n (pc := 92) dX12_flattery_92 (by decide) ?_
          refine wp_iinc (pc := 93) dX12_flattery_93 rfl (by decide) ?_
          refine wp_goto (pc := 96) 26 dX12_flattery_96 (by decide) ?_
          refine wp_ls ?_ (ih (i + 1) (by omega) (by omega) _ _ _ _ K O (by repeat (first | assumption | exact pv10 | exact pv11 | (apply pv_o; decide; decide) | exact upN_eq | (apply upN_ne; decide) | (apply SV_at; assumption; decide) | exact rfl)) (by repeat (first | exact SV.rf | assumption | (apply SV.up1; decide) | (apply SV.tr2; assumption; decide))) (by repeat (first | exact SA.rf | assumption | (apply SA.up1; decide) | (apply SA.tr2; assumption; decide))) (by first | assumption | exact Mrw.z (by repeat (first | assumption | exact pv10 | exact pv11 | (apply pv_o; decide; decide) | exact upN_eq | (apply upN_ne; decide) | (apply SV_at; assumption; decide) | exact rfl)) | exact Mrw.tr (by assumption) (by repeat (first | assumption | exact pv10 | exact pv11 | (apply pv_o; decide; decide) | exact upN_eq | (apply upN_ne; decide) | (apply SV_at; assumption; decide) | exact rfl)) (by repeat (first | assumption | exact upA_eq | (apply upA_ne; first | decide | omega) | (apply SA_at; assumption; first | decide | (simp; omega)) | exact rfl))))
          rw [e1]
          repeat' (first | exact LE_0 | refine LE_s rfl ?_ | refine LE_s (I_c (by first | omega | (simp only [sm]; omega))) ?_ | refine LE_s (J_c (by first | omega | exact Int.pow_succ _ _ | exact (Int.pow_succ _ _).symm | exact (Int.pow_zero _).symm | (simp only [sm]; omega))) ?_ | refine LE_n ?_)
        ·
          have e1 : flj (flv (stl rt) T) n r (i + 1) = flj (flv (stl rt) T) n r i := if_neg (by omega)
          skip -- go
          refine wp_goto (pc := 81) 93 dX12_flattery_81 (by decide) ?_
          refine wp_iinc (pc := 93) dX12_flattery_93 rfl (by decide) ?_
          refine wp_goto (pc := 96) 26 dX12_flattery_96 (by decide) ?_
          refine wp_ls ?_ (ih (i + 1) (by omega) (by omega) _ _ _ _ K O (by repeat (first | assumption | exact pv10 | exact pv11 | (apply pv_o; decide; decide) | exact upN_eq | (apply upN_ne; decide) | (apply SV_at; assumption; decide) | exact rfl)) (by repeat (first | exact SV.rf | assumption | (apply SV.up1; decide) | (apply SV.tr2; assumption; decide))) (by repeat (first | exact SA.rf | assumption | (apply SA.up1; decide) | (apply SA.tr2; assumption; decide))) (by first | assumption | exact Mrw.z (by repeat (first | assumption | exact pv10 | exact pv11 | (apply pv_o; decide; decide) | exact upN_eq | (apply upN_ne; decide) | (apply SV_at; assumption; decide) | exact rfl)) | exact Mrw.tr (by assumption) (by repeat (first | assumption | exact pv10 | exact pv11 | (apply pv_o; decide; decide) | exact upN_eq | (apply upN_ne; decide) | (apply SV_at; assumption; decide) | exact rfl)) (by repeat (first | assumption | exact upA_eq | (apply upA_ne; first | decide | omega) | (apply SA_at; assumption; first | decide | (simp; omega)) | exact rfl))))
          rw [e1]
          repeat' (first | exact LE_0 | refine LE_s rfl ?_ | refine LE_s (I_c (by first | omega | (simp only [sm]; omega))) ?_ | refine LE_s (J_c (by first | omega | exact Int.pow_succ _ _ | exact (Int.pow_succ _ _).symm | exact (Int.pow_zero _).symm | (simp only [sm]; omega))) ?_ | refine LE_n ?_)
      ·
        have e1 : flj (flv (stl rt) T) n r (i + 1) = flj (flv (stl rt) T) n r i := if_neg (by omega)
        skip -- go
        refine wp_goto (pc := 42) 93 dX12_flattery_42 (by decide) ?_
        refine wp_iinc (pc := 93) dX12_flattery_93 rfl (by decide) ?_
        refine wp_goto (pc := 96) 26 dX12_flattery_96 (by decide) ?_
        refine wp_ls ?_ (ih (i + 1) (by omega) (by omega) _ _ _ _ K O (by repeat (first | assumption | exact pv10 | exact pv11 | (apply pv_o; decide; decide) | exact upN_eq | (apply upN_ne; decide) | (apply SV_at; assumption; decide) | exact rfl)) (by repeat (first | exact SV.rf | assumption | (apply SV.up1; decide) | (apply SV.tr2; assumption; decide))) (by repeat (first | exact SA.rf | assumption | (apply SA.up1; decide) | (apply SA.tr2; assumption; decide))) (by first | assumption | exact Mrw.z (by repeat (first | assumption | exact pv10 | exact pv11 | (apply pv_o; decide; decide) | exact upN_eq | (apply upN_ne; decide) | (apply SV_at; assumption; decide) | exact rfl)) | exact Mrw.tr (by assumption) (by repeat (first | assumption | exact pv10 | exact pv11 | (apply pv_o; decide; decide) | exact upN_eq | (apply upN_ne; decide) | (apply SV_at; assumption; decide) | exact rfl)) (by repeat (first | assumption | exact upA_eq | (apply upA_ne; first | decide | omega) | (apply SA_at; assumption; first | decide | (simp; omega)) | exact rfl))))
        rw [e1]
        repeat' (first | exact LE_0 | refine LE_s rfl ?_ | refine LE_s (I_c (by first | omega | (simp only [sm]; omega))) ?_ | refine LE_s (J_c (by first | omega | exact Int.pow_succ _ _ | exact (Int.pow_succ _ _).symm | exact (Int.pow_zero _).symm | (simp only [sm]; omega))) ?_ | refine LE_n ?_)
theorem lp_fl1 (hI : TI T N) (M : MX V A N T U tx rw rt hs ss KT) : ∀ (m i : Nat), N < i + m → i ≤ N → ∀ (hp2 : Hp) (V2 : Nat → Int) (A2 : Nat → Int → Int) (rd2 : Value) (K : ModAt hp2 q V2 A2 rd2 (.ref (q + 5))) (O : SO hp hp2 q (q + 25)) (h6 : V2 6 = 0) (sV : SV qV V V2) (sA : SA qA A A2) (hR : Mrw V2 A2 rw), wp g MX12_flattery (rm 230 0 0) (Eff (.int (I (if (fli (flv (stl rt) T) N N).1 = -1 then -2 else (fli (flv (stl rt) T) N N).1))) (fun hp3 => MAt hp3 q 0 N T U tx (if (fli (flv (stl rt) T) N N).1 = -1 then rw else [(fli (flv (stl rt) T) N N).2.1, (fli (flv (stl rt) T) N N).2.2, if T 0 ((fli (flv (stl rt) T) N N).2.1 * 6 + (fli (flv (stl rt) T) N N).2.2) < wv (stl rt) T (fli (flv (stl rt) T) N N).2.1 (fli (flv (stl rt) T) N N).2.2 then 1 else 0]) rt hs ss KT ∧ SO hp hp3 q (q + 25))) 0 0 14 [some (.ref q), some (.int (I (fli (flv (stl rt) T) N i).1)), some (.int (I (fli (flv (stl rt) T) N i).2.1)), some (.int (I (fli (flv (stl rt) T) N i).2.2)), some (.int (I (i : Int))), none, none] [] hp2 := by
  intro m
  induction m with
  | zero => intro i h1 h2; exact absurd h1 (by omega)
  | succ m ih =>
    intro i h1 h2 hp2 V2 A2 rd2 K O h6 sV sA hR
    have hN := hI.men.2
    have m1 := M.1
    have mA := M.2.1
    have hu := M.ru (q := q)
    have hfr := fli_in (flv_in (cs := stl rt) hI) i (by omega)
    have q1 := flR_in hfr hN
    have b0 := hI.r0 ((fli (flv (stl rt) T) N i).2.1 * 6 + (fli (flv (stl rt) T) N i).2.2)
    have b1 := wv_in (stl rt) T (fli (flv (stl rt) T) N i).2.1 (fli (flv (stl rt) T) N i).2.2
    refine wp_iload (pc := 14) dX12_flattery_14 rfl ?_
    refine wp_aload_n (pc := 16) dX12_flattery_16 rfl ?_
    refine wm_gets dX12_flattery_17 gf_X12_92 K (by rfl) (by repeat (first | assumption | exact pv10 | exact pv11 | (apply pv_o; decide; decide) | exact upN_eq | (apply upN_ne; decide) | (apply SV_at; assumption; decide) | exact rfl)) ?_
    refine wp_icmp_ge (pc := 20) 105 dX12_flattery_20 (by decide) (by first | omega | exact TI.i5 (by assumption) | exact TI.i3 (by assumption) | exact TI.i2 (by assumption) | exact TI.i1 (by assumption) | exact TI.i0 (by assumption) | exact TI.i4 (by assumption) | exact TI.i6 (by assumption) | exact TI.i7 (by assumption)) (by first | omega | exact TI.i5 (by assumption) | exact TI.i3 (by assumption) | exact TI.i2 (by assumption) | exact TI.i1 (by assumption) | exact TI.i0 (by assumption) | exact TI.i4 (by assumption) | exact TI.i6 (by assumption) | exact TI.i7 (by assumption)) (fun c20 => ?_) (fun c20 => ?_)
    ·
      have e : i = N := by omega
      subst e -- go
      refine wp_iload_n (pc := 105) dX12_flattery_105 rfl ?_
      refine wp_iconst (pc := 106) dX12_flattery_106 ?_
      refine wp_icmp_ne (pc := 107) 113 dX12_flattery_107 (by decide) (by first | omega | exact TI.i5 (by assumption) | exact TI.i3 (by assumption) | exact TI.i2 (by assumption) | exact TI.i1 (by assumption) | exact TI.i0 (by assumption) | exact TI.i4 (by assumption) | exact TI.i6 (by assumption) | exact TI.i7 (by assumption)) (by first | omega | exact TI.i5 (by assumption) | exact TI.i3 (by assumption) | exact TI.i2 (by assumption) | exact TI.i1 (by assumption) | exact TI.i0 (by assumption) | exact TI.i4 (by assumption) | exact TI.i6 (by assumption) | exact TI.i7 (by assumption)) (fun c107 => ?_) (fun c107 => ?_)
      ·
        rw [if_neg c107, if_neg c107]
        have q3 := q1.2.2.2.1 c107 -- go
        refine wp_aload_n (pc := 113) dX12_flattery_113 rfl ?_
        refine wp_iconst (pc := 114) dX12_flattery_114 ?_
        refine wm_put dX12_flattery_115 pf_X12_89 K O (by decide) mset_5 rfl rfl (fun hp K O => ?_)
        refine wp_aload_n (pc := 118) dX12_flattery_118 rfl ?_
        refine wp_iload_n (pc := 119) dX12_flattery_119 rfl ?_
        refine wp_i2l (pc := 120) dX12_flattery_120 (by first | omega | exact TI.i5 (by assumption) | exact TI.i3 (by assumption) | exact TI.i2 (by assumption) | exact TI.i1 (by assumption) | exact TI.i0 (by assumption) | exact TI.i4 (by assumption) | exact TI.i6 (by assumption) | exact TI.i7 (by assumption)) ?_
        refine wp_Vn (pc := 121) dX12_flattery_121 cl_X12_253 (sp_Ref_tellR K (by first | assumption | exact Mrw.z (by repeat (first | assumption | exact pv10 | exact pv11 | (apply pv_o; decide; decide) | exact upN_eq | (apply upN_ne; decide) | (apply SV_at; assumption; decide) | exact rfl))) (by first | decide | (simp; omega) | simp | omega)) rfl rfl K.1 (by rfl) (by decide) (Nat.le_of_ble_eq_true rfl) (fun hp121 e121 => ?_)
        obtain ⟨⟨V121, A121, K, sV121, sA121, hR121⟩, O1⟩ := e121; replace O := SO.tr O O1
        refine wp_aload_n (pc := 124) dX12_flattery_124 rfl ?_
        refine wp_iload_n (pc := 125) dX12_flattery_125 rfl ?_
        refine wp_i2l (pc := 126) dX12_flattery_126 (by first | omega | exact TI.i5 (by assumption) | exact TI.i3 (by assumption) | exact TI.i2 (by assumption) | exact TI.i1 (by assumption) | exact TI.i0 (by assumption) | exact TI.i4 (by assumption) | exact TI.i6 (by assumption) | exact TI.i7 (by assumption)) ?_
        refine wp_Vn (pc := 127) dX12_flattery_127 cl_X12_253 (sp_Ref_tellR K (by first | assumption | exact Mrw.z (by repeat (first | assumption | exact pv10 | exact pv11 | (apply pv_o; decide; decide) | exact upN_eq | (apply upN_ne; decide) | (apply SV_at; assumption; decide) | exact rfl))) (by first | decide | (simp; omega) | simp | omega)) rfl rfl K.1 (by rfl) (by decide) (Nat.le_of_ble_eq_true rfl) (fun hp127 e127 => ?_)
        obtain ⟨⟨V127, A127, K, sV127, sA127, hR127⟩, O1⟩ := e127; replace O := SO.tr O O1
        refine wp_aload_n (pc := 130) dX12_flattery_130 rfl ?_
        refine wp_aload_n (pc := 131) dX12_flattery_131 rfl ?_
        refine wp_aload_n (pc := 132) dX12_flattery_132 rfl ?_
        refine wm_get dX12_flattery_133 gf_X12_9 K (by rfl) ?_
        refine wp_iload_n (pc := 136) dX12_flattery_136 rfl ?_
        refine wp_iload_n (pc := 137) dX12_flattery_137 rfl ?_
        refine wp_Vs (pc := 138) dX12_flattery_138 cl_X12_216 (sp_Ref_wordsOf K hI (.inl rfl) (by repeat (first | assumption | exact upA_eq | (apply upA_ne; first | decide | omega) | (apply SA_at; assumption; first | decide | (simp; omega)) | exact rfl)) (RuA.cc hu (by repeat (first | assumption | exact pv10 | exact pv11 | (apply pv_o; decide; decide) | exact upN_eq | (apply upN_ne; decide) | (apply SV_at; assumption; decide) | exact rfl)) (by repeat (first | assumption | exact upA_eq | (apply upA_ne; first | decide | omega) | (apply SA_at; assumption; first | decide | (simp; omega)) | exact rfl)) (by repeat (first | assumption | exact upA_eq | (apply upA_ne; first | decide | omega) | (apply SA_at; assumption; first | decide | (simp; omega)) | exact rfl))) (by omega) (by omega)) rfl rfl K.1 (by rfl) (by decide) (Nat.le_of_ble_eq_true rfl) (fun hp138 e138 => ?_)
        obtain ⟨⟨V138, A138, rd138, K, sV138, sA138⟩, O1⟩ := e138; replace O := SO.tr O O1
        refine wp_aload_n (pc := 141) dX12_flattery_141 rfl ?_
        refine wm_get dX12_flattery_142 gf_X12_9 K (by rfl) ?_
        refine wp_iload_n (pc := 145) dX12_flattery_145 rfl ?_
        refine wp_iload_n (pc := 146) dX12_flattery_146 rfl ?_
        refine wp_Sp (pc := 147) dX12_flattery_147 cl_X12_151 sp_Ref_pair rfl rfl (by decide) (Nat.le_of_ble_eq_true rfl) ?_
        refine wm_iald dX12_flattery_150 K (by first | rfl | assumption) (by first | decide | omega) (by first | decide | omega) (by decide) (by omega) (by omega) (by repeat (first | assumption | exact upA_eq | (apply upA_ne; first | decide | omega) | (apply SA_at; assumption; first | decide | (simp; omega)) | exact rfl)) (by first | exact flat5 (by omega) (by omega) | exact flat3 (by omega) (by omega) | exact flat2 (by omega) (by omega) | exact flat6 (by omega) (by omega) | exact flat4 (by omega) (by omega) | exact flat1 (by omega) (by omega) | exact flat0 (by omega) (by omega) | exact flat7 | exact rfl) ?_
        refine wp_icmp_le (pc := 151) 158 dX12_flattery_151 (by decide) (by first | omega | exact TI.i5 (by assumption) | exact TI.i3 (by assumption) | exact TI.i2 (by assumption) | exact TI.i1 (by assumption) | exact TI.i0 (by assumption) | exact TI.i4 (by assumption) | exact TI.i6 (by assumption) | exact TI.i7 (by assumption)) (by first | omega | exact TI.i5 (by assumption) | exact TI.i3 (by assumption) | exact TI.i2 (by assumption) | exact TI.i1 (by assumption) | exact TI.i0 (by assumption) | exact TI.i4 (by assumption) | exact TI.i6 (by assumption) | exact TI.i7 (by assumption)) (fun c151 => ?_) (fun c151 => ?_)
        ·
          rw [if_neg (show ¬ T 0 ((fli (flv (stl rt) T) i i).2.1 * 6 + (fli (flv (stl rt) T) i i).2.2) < wv (stl rt) T (fli (flv (stl rt) T) i i).2.1 (fli (flv (stl rt) T) i i).2.2 by omega)] -- go
          refine wp_lcst (pc := 158) (y := 0) dX12_flattery_158 rfl ?_
          refine wp_Vn (pc := 159) dX12_flattery_159 cl_X12_253 (sp_Ref_tellR K (Mrw.tr hR127 (by repeat (first | assumption | exact pv10 | exact pv11 | (apply pv_o; decide; decide) | exact upN_eq | (apply upN_ne; decide) | (apply SV_at; assumption; decide) | exact rfl)) (by repeat (first | assumption | exact upA_eq | (apply upA_ne; first | decide | omega) | (apply SA_at; assumption; first | decide | (simp; omega)) | exact rfl))) (by simp)) rfl rfl K.1 (by rfl) (by decide) (Nat.le_of_ble_eq_true rfl) (fun hp159 e159 => ?_)
          obtain ⟨⟨V159, A159, K, sV159, sA159, hR159⟩, O1⟩ := e159; replace O := SO.tr O O1
          refine wp_iload_n (pc := 162) dX12_flattery_162 rfl ?_
          exact wp_ir (pc := 163) dX12_flattery_163 rfl (by decide) (by decide) (by first | rfl | omega) ⟨⟨_, _, _, K, (by repeat (first | assumption | exact pv10 | exact pv11 | (apply pv_o; decide; decide) | exact upN_eq | (apply upN_ne; decide) | (apply SV_at; assumption; decide) | exact rfl)), M.qu (by repeat (first | exact SV.rf | assumption | (apply SV.up1; decide) | (apply SV.tr2; assumption; decide))) (by repeat (first | exact SA.rf | assumption | (apply SA.up1; decide) | (apply SA.tr2; assumption; decide))) (by first | assumption | exact Mrw.z (by repeat (first | assumption | exact pv10 | exact pv11 | (apply pv_o; decide; decide) | exact upN_eq | (apply upN_ne; decide) | (apply SV_at; assumption; decide) | exact rfl)) | exact Mrw.tr (by assumption) (by repeat (first | assumption | exact pv10 | exact pv11 | (apply pv_o; decide; decide) | exact upN_eq | (apply upN_ne; decide) | (apply SV_at; assumption; decide) | exact rfl)) (by repeat (first | assumption | exact upA_eq | (apply upA_ne; first | decide | omega) | (apply SA_at; assumption; first | decide | (simp; omega)) | exact rfl)))⟩, O⟩
        ·
          rw [if_pos (show T 0 ((fli (flv (stl rt) T) i i).2.1 * 6 + (fli (flv (stl rt) T) i i).2.2) < wv (stl rt) T (fli (flv (stl rt) T) i i).2.1 (fli (flv (stl rt) T) i i).2.2 by omega)] -- go
          refine wp_lcst (pc := 154) (y := 1) dX12_flattery_154 rfl ?_
          refine wp_goto (pc := 155) 159 dX12_flattery_155 (by decide) ?_
          refine wp_Vn (pc := 159) dX12_flattery_159 cl_X12_253 (sp_Ref_tellR K (Mrw.tr hR127 (by repeat (first | assumption | exact pv10 | exact pv11 | (apply pv_o; decide; decide) | exact upN_eq | (apply upN_ne; decide) | (apply SV_at; assumption; decide) | exact rfl)) (by repeat (first | assumption | exact upA_eq | (apply upA_ne; first | decide | omega) | (apply SA_at; assumption; first | decide | (simp; omega)) | exact rfl))) (by simp)) rfl rfl K.1 (by rfl) (by decide) (Nat.le_of_ble_eq_true rfl) (fun hp159 e159 => ?_)
          obtain ⟨⟨V159, A159, K, sV159, sA159, hR159⟩, O1⟩ := e159; replace O := SO.tr O O1
          refine wp_iload_n (pc := 162) dX12_flattery_162 rfl ?_
          exact wp_ir (pc := 163) dX12_flattery_163 rfl (by decide) (by decide) (by first | rfl | omega) ⟨⟨_, _, _, K, (by repeat (first | assumption | exact pv10 | exact pv11 | (apply pv_o; decide; decide) | exact upN_eq | (apply upN_ne; decide) | (apply SV_at; assumption; decide) | exact rfl)), M.qu (by repeat (first | exact SV.rf | assumption | (apply SV.up1; decide) | (apply SV.tr2; assumption; decide))) (by repeat (first | exact SA.rf | assumption | (apply SA.up1; decide) | (apply SA.tr2; assumption; decide))) (by first | assumption | exact Mrw.z (by repeat (first | assumption | exact pv10 | exact pv11 | (apply pv_o; decide; decide) | exact upN_eq | (apply upN_ne; decide) | (apply SV_at; assumption; decide) | exact rfl)) | exact Mrw.tr (by assumption) (by repeat (first | assumption | exact pv10 | exact pv11 | (apply pv_o; decide; decide) | exact upN_eq | (apply upN_ne; decide) | (apply SV_at; assumption; decide) | exact rfl)) (by repeat (first | assumption | exact upA_eq | (apply upA_ne; first | decide | omega) | (apply SA_at; assumption; first | decide | (simp; omega)) | exact rfl)))⟩, O⟩
      ·
        rw [if_pos c107, if_pos c107] -- go
        refine wp_bipush (pc := 110) (y := (-2)) dX12_flattery_110 (by decide) ?_
        exact wp_ir (pc := 112) dX12_flattery_112 rfl (by decide) (by decide) (by first | rfl | omega) ⟨⟨_, _, _, K, (by repeat (first | assumption | exact pv10 | exact pv11 | (apply pv_o; decide; decide) | exact upN_eq | (apply upN_ne; decide) | (apply SV_at; assumption; decide) | exact rfl)), M.qu (by repeat (first | exact SV.rf | assumption | (apply SV.up1; decide) | (apply SV.tr2; assumption; decide))) (by repeat (first | exact SA.rf | assumption | (apply SA.up1; decide) | (apply SA.tr2; assumption; decide))) (by first | assumption | exact Mrw.z (by repeat (first | assumption | exact pv10 | exact pv11 | (apply pv_o; decide; decide) | exact upN_eq | (apply upN_ne; decide) | (apply SV_at; assumption; decide) | exact rfl)) | exact Mrw.tr (by assumption) (by repeat (first | assumption | exact pv10 | exact pv11 | (apply pv_o; decide; decide) | exact upN_eq | (apply upN_ne; decide) | (apply SV_at; assumption; decide) | exact rfl)) (by repeat (first | assumption | exact upA_eq | (apply upA_ne; first | decide | omega) | (apply SA_at; assumption; first | decide | (simp; omega)) | exact rfl)))⟩, O⟩
    ·
      refine wp_iconst (pc := 23) dX12_flattery_23 ?_
      refine wp_istore (pc := 24) dX12_flattery_24 (by decide) ?_
      refine wp_ls ?_ (lp_fl2 (n := i) (r := fli (flv (stl rt) T) N i) hI M (by omega) hfr (fun hp3 V3 A3 rd3 K3 O3 h63 sV3 sA3 hR3 => ?_) (N + 1) 0 (by omega) (by omega) _ _ _ _ K O h6 sV sA hR)
      · repeat' (first | exact LE_0 | refine LE_s rfl ?_ | refine LE_s (I_c (by first | omega | (simp only [sm]; omega))) ?_ | refine LE_s (J_c (by first | omega | exact Int.pow_succ _ _ | exact (Int.pow_succ _ _).symm | exact (Int.pow_zero _).symm | (simp only [sm]; omega))) ?_ | refine LE_n ?_)
      · refine wp_iinc (pc := 99) dX12_flattery_99 rfl (by decide) ?_
        refine wp_goto (pc := 102) 14 dX12_flattery_102 (by decide) ?_
        refine wp_ls ?_ (ih (i + 1) (by omega) (by omega) _ _ _ _ K3 O3 h63 sV3 sA3 hR3)
        repeat' (first | exact LE_0 | refine LE_s rfl ?_ | refine LE_s (I_c (by first | omega | (simp only [sm]; omega))) ?_ | refine LE_s (J_c (by first | omega | exact Int.pow_succ _ _ | exact (Int.pow_succ _ _).symm | exact (Int.pow_zero _).symm | (simp only [sm]; omega))) ?_ | refine LE_n ?_)
theorem sp_Ref_flattery (hM : MAt hp q th N T U tx rw rt hs ss KT) (hI : TI T N) : Sp g MX12_flattery (rm 230 0 0) [.ref q] hp (Eff (.int (I (if (fli (flv (stl rt) T) N N).1 = -1 then -2 else (fli (flv (stl rt) T) N N).1))) (fun hp2 => MAt hp2 q 0 N T U tx (if (fli (flv (stl rt) T) N N).1 = -1 then rw else [(fli (flv (stl rt) T) N N).2.1, (fli (flv (stl rt) T) N N).2.2, if T 0 ((fli (flv (stl rt) T) N N).2.1 * 6 + (fli (flv (stl rt) T) N N).2.2) < wv (stl rt) T (fli (flv (stl rt) T) N N).2.1 (fli (flv (stl rt) T) N N).2.2 then 1 else 0]) rt hs ss KT ∧ SO hp hp2 q (q + 25))) := by
  refine Sp_mk rfl (Nat.le_of_ble_eq_true rfl) ?_
  show wp g _ _ _ 0 0 0 [some (.ref q), none, none, none, none, none, none] [] hp
  have O := SO.rf (hp := hp) (lo := q) (hi := q + 25)
  obtain ⟨V, A, rd, K, hth, M⟩ := hM
  have hu := M.ru (q := q)
  have M2 := M
  obtain ⟨m1, mA, mt, mr, mu, mU, mh, ms, mk⟩ := M2
  refine wp_aload_n (pc := 0) dX12_flattery_0 rfl ?_
  refine wp_iconst (pc := 1) dX12_flattery_1 ?_
  refine wm_put dX12_flattery_2 pf_X12_85 K O (by decide) mset_6 rfl rfl (fun hp K O => ?_)
  refine wp_iconst (pc := 5) dX12_flattery_5 ?_
  refine wp_istore_n (pc := 6) dX12_flattery_6 (by decide) ?_
  refine wp_iconst (pc := 7) dX12_flattery_7 ?_
  refine wp_istore_n (pc := 8) dX12_flattery_8 (by decide) ?_
  refine wp_iconst (pc := 9) dX12_flattery_9 ?_
  refine wp_istore_n (pc := 10) dX12_flattery_10 (by decide) ?_
  refine wp_iconst (pc := 11) dX12_flattery_11 ?_
  refine wp_istore (pc := 12) dX12_flattery_12 (by decide) ?_
  refine wp_ls ?_ (lp_fl1 hI M (N + 1) 0 (by omega) (by omega) _ _ _ _ K O (by repeat (first | assumption | exact pv10 | exact pv11 | (apply pv_o; decide; decide) | exact upN_eq | (apply upN_ne; decide) | (apply SV_at; assumption; decide) | exact rfl)) (by repeat (first | exact SV.rf | assumption | (apply SV.up1; decide) | (apply SV.tr2; assumption; decide))) (by repeat (first | exact SA.rf | assumption | (apply SA.up1; decide) | (apply SA.tr2; assumption; decide))) (by first | assumption | exact Mrw.z (by repeat (first | assumption | exact pv10 | exact pv11 | (apply pv_o; decide; decide) | exact upN_eq | (apply upN_ne; decide) | (apply SV_at; assumption; decide) | exact rfl)) | exact Mrw.tr (by assumption) (by repeat (first | assumption | exact pv10 | exact pv11 | (apply pv_o; decide; decide) | exact upN_eq | (apply upN_ne; decide) | (apply SV_at; assumption; decide) | exact rfl)) (by repeat (first | assumption | exact upA_eq | (apply upA_ne; first | decide | omega) | (apply SA_at; assumption; first | decide | (simp; omega)) | exact rfl))))
  repeat' (first | exact LE_0 | refine LE_s rfl ?_ | refine LE_s (I_c (by first | omega | (simp only [sm]; omega))) ?_ | refine LE_s (J_c (by first | omega | exact Int.pow_succ _ _ | exact (Int.pow_succ _ _).symm | exact (Int.pow_zero _).symm | (simp only [sm]; omega))) ?_ | refine LE_n ?_)
/-! who wakes first -/
def wkb (f : Int → Int) : Nat → Int
  | 0 => -2
  | n + 1 => if 0 < f n ∧ (wkb f n = -2 ∨ f n < f (wkb f n)) then (n : Int) else wkb f n
theorem wkb_in (f : Int → Int) : ∀ n : Nat, wkb f n = -2 ∨ (0 ≤ wkb f n ∧ wkb f n < n)
  | 0 => .inl rfl
  | n + 1 => by have := wkb_in f n; unfold wkb; split <;> omega
theorem lp_Ref_wakes (hI : TI T N) (hH : HS T) (hb : T 7 0 < 1900000000) (M : MX V A N T U tx rw rt hs ss KT) (K : ModAt hp q V2 A2 rd (.ref (q + 5))) (O : SO hp0 hp q (q + 25)) (h6 : V2 6 = 0) (sV : SV qV V V2) (sA : SA qA A A2) (hR : Mrw V2 A2 rw) : ∀ (m i : Nat), N < i + m → i ≤ N → wp g MX12_wakes (rm 232 0 0) (Eff (.int (I (wkb (T 5) N))) (fun hp3 => MAt hp3 q 0 N T U tx (if wkb (T 5) N = -2 then rw else [T 5 (wkb (T 5) N), runT (stl rt) T N (T 5 (wkb (T 5) N)).toNat 3 (wkb (T 5) N)]) rt hs ss KT ∧ SO hp0 hp3 q (q + 25))) 0 0 10 [some (.ref q), some (.int (I (wkb (T 5) i))), some (.int (I (i : Int)))] [] hp := by
  intro m
  induction m with
  | zero => intro i h1 h2; exact absurd h1 (by omega)
  | succ m ih =>
    intro i h1 h2
    have hN := hI.men.2
    have m1 := M.1
    have mA := M.2.1
    have hu := M.ru (q := q)
    have q1 := wkb_in (T 5) i
    have h5 := hI.r5 (i : Int)
    have h5b := hI.r5 (wkb (T 5) i)
    refine wp_iload_n (pc := 10) dX12_wakes_10 rfl ?_
    refine wp_aload_n (pc := 11) dX12_wakes_11 rfl ?_
    refine wm_gets dX12_wakes_12 gf_X12_92 K (by rfl) (by repeat (first | assumption | exact pv10 | exact pv11 | (apply pv_o; decide; decide) | exact upN_eq | (apply upN_ne; decide) | (apply SV_at; assumption; decide) | exact rfl)) ?_
    refine wp_icmp_ge (pc := 15) 65 dX12_wakes_15 (by decide) (by first | omega | exact TI.i5 (by assumption) | exact TI.i3 (by assumption) | exact TI.i2 (by assumption) | exact TI.i1 (by assumption) | exact TI.i0 (by assumption) | exact TI.i4 (by assumption) | exact TI.i6 (by assumption) | exact TI.i7 (by assumption)) (by first | omega | exact TI.i5 (by assumption) | exact TI.i3 (by assumption) | exact TI.i2 (by assumption) | exact TI.i1 (by assumption) | exact TI.i0 (by assumption) | exact TI.i4 (by assumption) | exact TI.i6 (by assumption) | exact TI.i7 (by assumption)) (fun c15 => ?_) (fun c15 => ?_)
    ·
      have e : i = N := by omega
      subst e -- go
      refine wp_iload_n (pc := 65) dX12_wakes_65 rfl ?_
      refine wp_bipush (pc := 66) (y := (-2)) dX12_wakes_66 (by decide) ?_
      refine wp_icmp_ne (pc := 68) 74 dX12_wakes_68 (by decide) (by first | omega | exact TI.i5 (by assumption) | exact TI.i3 (by assumption) | exact TI.i2 (by assumption) | exact TI.i1 (by assumption) | exact TI.i0 (by assumption) | exact TI.i4 (by assumption) | exact TI.i6 (by assumption) | exact TI.i7 (by assumption)) (by first | omega | exact TI.i5 (by assumption) | exact TI.i3 (by assumption) | exact TI.i2 (by assumption) | exact TI.i1 (by assumption) | exact TI.i0 (by assumption) | exact TI.i4 (by assumption) | exact TI.i6 (by assumption) | exact TI.i7 (by assumption)) (fun c68 => ?_) (fun c68 => ?_)
      ·
        rw [if_neg c68]
        obtain ⟨n, hn⟩ := Int.eq_ofNat_of_zero_le h5b.1
        have ey : (T 5 (wkb (T 5) i)).toNat = n := by omega
        have hI3 := runT_I (cs := stl rt) hI n (by omega)
        rw [ey] -- go
        refine wp_aload_n (pc := 74) dX12_wakes_74 rfl ?_
        refine wm_get dX12_wakes_75 gf_X12_9 K (by rfl) ?_
        refine wp_aload_n (pc := 78) dX12_wakes_78 rfl ?_
        refine wm_get dX12_wakes_79 gf_X12_39 K (by rfl) ?_
        refine wp_iconst (pc := 82) dX12_wakes_82 ?_
        refine wp_Sn (pc := 83) dX12_wakes_83 cl_X12_223 (sp_Ref_lay K rfl (by decide) rfl (by decide) (by decide) (by repeat (first | assumption | exact upA_eq | (apply upA_ne; first | decide | omega) | (apply SA_at; assumption; first | decide | (simp; omega)) | exact rfl))) rfl rfl (by decide) (Nat.le_of_ble_eq_true rfl) (fun hp83 e83 => ?_)
        obtain ⟨K, O1⟩ := e83
        replace O := SO.tr O O1
        refine wp_aload_n (pc := 86) dX12_wakes_86 rfl ?_
        refine wp_aload_n (pc := 87) dX12_wakes_87 rfl ?_
        refine wm_get dX12_wakes_88 gf_X12_39 K (by rfl) ?_
        refine wp_aload_n (pc := 91) dX12_wakes_91 rfl ?_
        refine wm_get dX12_wakes_92 gf_X12_9 K (by rfl) ?_
        refine wp_bipush (pc := 95) (y := 54) dX12_wakes_95 (by decide) ?_
        refine wp_iload_n (pc := 97) dX12_wakes_97 rfl ?_
        refine wp_iadd (pc := 98) dX12_wakes_98 ?_
        refine wm_iald dX12_wakes_99 K (by first | rfl | assumption) (by first | decide | omega) (by first | decide | omega) (by decide) (by omega) (by omega) (by repeat (first | assumption | exact upA_eq | (apply upA_ne; first | decide | omega) | (apply SA_at; assumption; first | decide | (simp; omega)) | exact rfl)) (by first | exact flat5 (by omega) (by omega) | exact flat3 (by omega) (by omega) | exact flat2 (by omega) (by omega) | exact flat6 (by omega) (by omega) | exact flat4 (by omega) (by omega) | exact flat1 (by omega) (by omega) | exact flat0 (by omega) (by omega) | exact flat7 | exact rfl) ?_
        refine wp_topE hn ?_
        refine wp_Vs (pc := 100) dX12_wakes_100 cl_X12_250 (sp_Ref_goHours (n := n) K (by repeat (first | assumption | exact pv10 | exact pv11 | (apply pv_o; decide; decide) | exact upN_eq | (apply upN_ne; decide) | (apply SV_at; assumption; decide) | exact rfl)) hI hH (.inr rfl) (by repeat (first | assumption | exact upA_eq | (apply upA_ne; first | decide | omega) | (apply SA_at; assumption; first | decide | (simp; omega)) | exact rfl)) (RuA.cc hu (by repeat (first | assumption | exact pv10 | exact pv11 | (apply pv_o; decide; decide) | exact upN_eq | (apply upN_ne; decide) | (apply SV_at; assumption; decide) | exact rfl)) (by repeat (first | assumption | exact upA_eq | (apply upA_ne; first | decide | omega) | (apply SA_at; assumption; first | decide | (simp; omega)) | exact rfl)) (by repeat (first | assumption | exact upA_eq | (apply upA_ne; first | decide | omega) | (apply SA_at; assumption; first | decide | (simp; omega)) | exact rfl))) (by omega) (by omega)) rfl rfl K.1 (by rfl) (by decide) (Nat.le_of_ble_eq_true rfl) (fun hp100 e100 => ?_)
        obtain ⟨⟨V100, A100, rd100, K, sV100, sA100, hA100⟩, O1⟩ := e100; replace O := SO.tr O O1
        refine wp_pop (pc := 103) dX12_wakes_103 rfl ?_
        refine wp_aload_n (pc := 104) dX12_wakes_104 rfl ?_
        refine wp_iconst (pc := 105) dX12_wakes_105 ?_
        refine wm_put dX12_wakes_106 pf_X12_89 K O (by decide) mset_5 rfl rfl (fun hp K O => ?_)
        refine wp_aload_n (pc := 109) dX12_wakes_109 rfl ?_
        refine wp_aload_n (pc := 110) dX12_wakes_110 rfl ?_
        refine wm_get dX12_wakes_111 gf_X12_9 K (by rfl) ?_
        refine wp_bipush (pc := 114) (y := 54) dX12_wakes_114 (by decide) ?_
        refine wp_iload_n (pc := 116) dX12_wakes_116 rfl ?_
        refine wp_iadd (pc := 117) dX12_wakes_117 ?_
        refine wm_iald dX12_wakes_118 K (by first | rfl | assumption) (by first | decide | omega) (by first | decide | omega) (by decide) (by omega) (by omega) (by repeat (first | assumption | exact upA_eq | (apply upA_ne; first | decide | omega) | (apply SA_at; assumption; first | decide | (simp; omega)) | exact rfl)) (by first | exact flat5 (by omega) (by omega) | exact flat3 (by omega) (by omega) | exact flat2 (by omega) (by omega) | exact flat6 (by omega) (by omega) | exact flat4 (by omega) (by omega) | exact flat1 (by omega) (by omega) | exact flat0 (by omega) (by omega) | exact flat7 | exact rfl) ?_
        refine wp_i2l (pc := 119) dX12_wakes_119 (by first | omega | exact TI.i5 (by assumption) | exact TI.i3 (by assumption) | exact TI.i2 (by assumption) | exact TI.i1 (by assumption) | exact TI.i0 (by assumption) | exact TI.i4 (by assumption) | exact TI.i6 (by assumption) | exact TI.i7 (by assumption)) ?_
        refine wp_Vn (pc := 120) dX12_wakes_120 cl_X12_253 (sp_Ref_tellR K (by first | assumption | exact Mrw.z (by repeat (first | assumption | exact pv10 | exact pv11 | (apply pv_o; decide; decide) | exact upN_eq | (apply upN_ne; decide) | (apply SV_at; assumption; decide) | exact rfl))) (by first | decide | (simp; omega) | simp | omega)) rfl rfl K.1 (by rfl) (by decide) (Nat.le_of_ble_eq_true rfl) (fun hp120 e120 => ?_)
        obtain ⟨⟨V120, A120, K, sV120, sA120, hR120⟩, O1⟩ := e120; replace O := SO.tr O O1
        refine wp_aload_n (pc := 123) dX12_wakes_123 rfl ?_
        refine wp_aload_n (pc := 124) dX12_wakes_124 rfl ?_
        refine wm_get dX12_wakes_125 gf_X12_39 K (by rfl) ?_
        refine wp_bipush (pc := 128) (y := 42) dX12_wakes_128 (by decide) ?_
        refine wp_iload_n (pc := 130) dX12_wakes_130 rfl ?_
        refine wp_iadd (pc := 131) dX12_wakes_131 ?_
        refine wm_iald dX12_wakes_132 K (by first | rfl | assumption) (by first | decide | omega) (by first | decide | omega) (by decide) (by omega) (by omega) (by repeat (first | assumption | exact upA_eq | (apply upA_ne; first | decide | omega) | (apply SA_at; assumption; first | decide | (simp; omega)) | exact rfl)) (by first | exact flat5 (by omega) (by omega) | exact flat3 (by omega) (by omega) | exact flat2 (by omega) (by omega) | exact flat6 (by omega) (by omega) | exact flat4 (by omega) (by omega) | exact flat1 (by omega) (by omega) | exact flat0 (by omega) (by omega) | exact flat7 | exact rfl) ?_
        refine wp_i2l (pc := 133) dX12_wakes_133 (by first | omega | exact TI.i5 (by assumption) | exact TI.i3 (by assumption) | exact TI.i2 (by assumption) | exact TI.i1 (by assumption) | exact TI.i0 (by assumption) | exact TI.i4 (by assumption) | exact TI.i6 (by assumption) | exact TI.i7 (by assumption)) ?_
        refine wp_Vn (pc := 134) dX12_wakes_134 cl_X12_253 (sp_Ref_tellR K (by first | assumption | exact Mrw.z (by repeat (first | assumption | exact pv10 | exact pv11 | (apply pv_o; decide; decide) | exact upN_eq | (apply upN_ne; decide) | (apply SV_at; assumption; decide) | exact rfl))) (by first | decide | (simp; omega) | simp | omega)) rfl rfl K.1 (by rfl) (by decide) (Nat.le_of_ble_eq_true rfl) (fun hp134 e134 => ?_)
        obtain ⟨⟨V134, A134, K, sV134, sA134, hR134⟩, O1⟩ := e134; replace O := SO.tr O O1
        refine wp_iload_n (pc := 137) dX12_wakes_137 rfl ?_
        exact wp_ir (pc := 138) dX12_wakes_138 rfl (by decide) (by decide) (by first | rfl | omega) ⟨⟨_, _, _, K, (by repeat (first | assumption | exact pv10 | exact pv11 | (apply pv_o; decide; decide) | exact upN_eq | (apply upN_ne; decide) | (apply SV_at; assumption; decide) | exact rfl)), M.qu (by repeat (first | exact SV.rf | assumption | (apply SV.up1; decide) | (apply SV.tr2; assumption; decide))) (by repeat (first | exact SA.rf | assumption | (apply SA.up1; decide) | (apply SA.tr2; assumption; decide))) (by first | assumption | exact Mrw.z (by repeat (first | assumption | exact pv10 | exact pv11 | (apply pv_o; decide; decide) | exact upN_eq | (apply upN_ne; decide) | (apply SV_at; assumption; decide) | exact rfl)) | exact Mrw.tr (by assumption) (by repeat (first | assumption | exact pv10 | exact pv11 | (apply pv_o; decide; decide) | exact upN_eq | (apply upN_ne; decide) | (apply SV_at; assumption; decide) | exact rfl)) (by repeat (first | assumption | exact upA_eq | (apply upA_ne; first | decide | omega) | (apply SA_at; assumption; first | decide | (simp; omega)) | exact rfl)))⟩, O⟩
      ·
        rw [if_pos c68] -- go
        refine wp_bipush (pc := 71) (y := (-2)) dX12_wakes_71 (by decide) ?_
        exact wp_ir (pc := 73) dX12_wakes_73 rfl (by decide) (by decide) c68.symm ⟨⟨_, _, _, K, (by repeat (first | assumption | exact pv10 | exact pv11 | (apply pv_o; decide; decide) | exact upN_eq | (apply upN_ne; decide) | (apply SV_at; assumption; decide) | exact rfl)), M.qu (by repeat (first | exact SV.rf | assumption | (apply SV.up1; decide) | (apply SV.tr2; assumption; decide))) (by repeat (first | exact SA.rf | assumption | (apply SA.up1; decide) | (apply SA.tr2; assumption; decide))) (by first | assumption | exact Mrw.z (by repeat (first | assumption | exact pv10 | exact pv11 | (apply pv_o; decide; decide) | exact upN_eq | (apply upN_ne; decide) | (apply SV_at; assumption; decide) | exact rfl)) | exact Mrw.tr (by assumption) (by repeat (first | assumption | exact pv10 | exact pv11 | (apply pv_o; decide; decide) | exact upN_eq | (apply upN_ne; decide) | (apply SV_at; assumption; decide) | exact rfl)) (by repeat (first | assumption | exact upA_eq | (apply upA_ne; first | decide | omega) | (apply SA_at; assumption; first | decide | (simp; omega)) | exact rfl)))⟩, O⟩
    ·
      refine wp_aload_n (pc := 18) dX12_wakes_18 rfl ?_
      refine wm_get dX12_wakes_19 gf_X12_9 K (by rfl) ?_
      refine wp_bipush (pc := 22) (y := 54) dX12_wakes_22 (by decide) ?_
      refine wp_iload_n (pc := 24) dX12_wakes_24 rfl ?_
      refine wp_iadd (pc := 25) dX12_wakes_25 ?_
      refine wm_iald dX12_wakes_26 K (by first | rfl | assumption) (by first | decide | omega) (by first | decide | omega) (by decide) (by omega) (by omega) (by repeat (first | assumption | exact upA_eq | (apply upA_ne; first | decide | omega) | (apply SA_at; assumption; first | decide | (simp; omega)) | exact rfl)) (by first | exact flat5 (by omega) (by omega) | exact flat3 (by omega) (by omega) | exact flat2 (by omega) (by omega) | exact flat6 (by omega) (by omega) | exact flat4 (by omega) (by omega) | exact flat1 (by omega) (by omega) | exact flat0 (by omega) (by omega) | exact flat7 | exact rfl) ?_
      refine wp_if_le (pc := 27) 59 dX12_wakes_27 (by decide) (by first | omega | exact TI.i5 (by assumption) | exact TI.i3 (by assumption) | exact TI.i2 (by assumption) | exact TI.i1 (by assumption) | exact TI.i0 (by assumption) | exact TI.i4 (by assumption) | exact TI.i6 (by assumption) | exact TI.i7 (by assumption)) (fun c27 => ?_) (fun c27 => ?_)
      ·
        have e1 : wkb (T 5) (i + 1) = wkb (T 5) i := if_neg (by omega)
        skip -- go
        refine wp_iinc (pc := 59) dX12_wakes_59 rfl (by decide) ?_
        refine wp_goto (pc := 62) 10 dX12_wakes_62 (by decide) ?_
        refine wp_ls ?_ (ih (i + 1) (by omega) (by omega))
        rw [e1]
        repeat' (first | exact LE_0 | refine LE_s rfl ?_ | refine LE_s (I_c (by first | omega | (simp only [sm]; omega))) ?_ | refine LE_s (J_c (by first | omega | exact Int.pow_succ _ _ | exact (Int.pow_succ _ _).symm | exact (Int.pow_zero _).symm | (simp only [sm]; omega))) ?_ | refine LE_n ?_)
      ·
        refine wp_iload_n (pc := 30) dX12_wakes_30 rfl ?_
        refine wp_bipush (pc := 31) (y := (-2)) dX12_wakes_31 (by decide) ?_
        refine wp_icmp_eq (pc := 33) 57 dX12_wakes_33 (by decide) (by first | omega | exact TI.i5 (by assumption) | exact TI.i3 (by assumption) | exact TI.i2 (by assumption) | exact TI.i1 (by assumption) | exact TI.i0 (by assumption) | exact TI.i4 (by assumption) | exact TI.i6 (by assumption) | exact TI.i7 (by assumption)) (by first | omega | exact TI.i5 (by assumption) | exact TI.i3 (by assumption) | exact TI.i2 (by assumption) | exact TI.i1 (by assumption) | exact TI.i0 (by assumption) | exact TI.i4 (by assumption) | exact TI.i6 (by assumption) | exact TI.i7 (by assumption)) (fun c33 => ?_) (fun c33 => ?_)
        ·
          have e1 : wkb (T 5) (i + 1) = (i : Int) := if_pos (by omega)
          skip -- go
          refine wp_iload_n (pc := 57) dX12_wakes_57 rfl ?_
          refine wp_istore_n (pc := 58) dX12_wakes_58 (by decide) ?_
          refine wp_iinc (pc := 59) dX12_wakes_59 rfl (by decide) ?_
          refine wp_goto (pc := 62) 10 dX12_wakes_62 (by decide) ?_
          refine wp_ls ?_ (ih (i + 1) (by omega) (by omega))
          rw [e1]
          repeat' (first | exact LE_0 | refine LE_s rfl ?_ | refine LE_s (I_c (by first | omega | (simp only [sm]; omega))) ?_ | refine LE_s (J_c (by first | omega | exact Int.pow_succ _ _ | exact (Int.pow_succ _ _).symm | exact (Int.pow_zero _).symm | (simp only [sm]; omega))) ?_ | refine LE_n ?_)
        ·
          refine wp_aload_n (pc := 36) dX12_wakes_36 rfl ?_
          refine wm_get dX12_wakes_37 gf_X12_9 K (by rfl) ?_
          refine wp_bipush (pc := 40) (y := 54) dX12_wakes_40 (by decide) ?_
          refine wp_iload_n (pc := 42) dX12_wakes_42 rfl ?_
          refine wp_iadd (pc := 43) dX12_wakes_43 ?_
          refine wm_iald dX12_wakes_44 K (by first | rfl | assumption) (by first | decide | omega) (by first | decide | omega) (by decide) (by omega) (by omega) (by repeat (first | assumption | exact upA_eq | (apply upA_ne; first | decide | omega) | (apply SA_at; assumption; first | decide | (simp; omega)) | exact rfl)) (by first | exact flat5 (by omega) (by omega) | exact flat3 (by omega) (by omega) | exact flat2 (by omega) (by omega) | exact flat6 (by omega) (by omega) | exact flat4 (by omega) (by omega) | exact flat1 (by omega) (by omega) | exact flat0 (by omega) (by omega) | exact flat7 | exact rfl) ?_
          refine wp_aload_n (pc := 45) dX12_wakes_45 rfl ?_
          refine wm_get dX12_wakes_46 gf_X12_9 K (by rfl) ?_
          refine wp_bipush (pc := 49) (y := 54) dX12_wakes_49 (by decide) ?_
          refine wp_iload_n (pc := 51) dX12_wakes_51 rfl ?_
          refine wp_iadd (pc := 52) dX12_wakes_52 ?_
          refine wm_iald dX12_wakes_53 K (by first | rfl | assumption) (by first | decide | omega) (by first | decide | omega) (by decide) (by omega) (by omega) (by repeat (first | assumption | exact upA_eq | (apply upA_ne; first | decide | omega) | (apply SA_at; assumption; first | decide | (simp; omega)) | exact rfl)) (by first | exact flat5 (by omega) (by omega) | exact flat3 (by omega) (by omega) | exact flat2 (by omega) (by omega) | exact flat6 (by omega) (by omega) | exact flat4 (by omega) (by omega) | exact flat1 (by omega) (by omega) | exact flat0 (by omega) (by omega) | exact flat7 | exact rfl) ?_
          refine wp_icmp_ge (pc := 54) 59 dX12_wakes_54 (by decide) (by first | omega | exact TI.i5 (by assumption) | exact TI.i3 (by assumption) | exact TI.i2 (by assumption) | exact TI.i1 (by assumption) | exact TI.i0 (by assumption) | exact TI.i4 (by assumption) | exact TI.i6 (by assumption) | exact TI.i7 (by assumption)) (by first | omega | exact TI.i5 (by assumption) | exact TI.i3 (by assumption) | exact TI.i2 (by assumption) | exact TI.i1 (by assumption) | exact TI.i0 (by assumption) | exact TI.i4 (by assumption) | exact TI.i6 (by assumption) | exact TI.i7 (by assumption)) (fun c54 => ?_) (fun c54 => ?_)
          ·
            have e1 : wkb (T 5) (i + 1) = wkb (T 5) i := if_neg (by omega)
            skip -- go
            refine wp_iinc (pc := 59) dX12_wakes_59 rfl (by decide) ?_
            refine wp_goto (pc := 62) 10 dX12_wakes_62 (by decide) ?_
            refine wp_ls ?_ (ih (i + 1) (by omega) (by omega))
            rw [e1]
            repeat' (first | exact LE_0 | refine LE_s rfl ?_ | refine LE_s (I_c (by first | omega | (simp only [sm]; omega))) ?_ | refine LE_s (J_c (by first | omega | exact Int.pow_succ _ _ | exact (Int.pow_succ _ _).symm | exact (Int.pow_zero _).symm | (simp only [sm]; omega))) ?_ | refine LE_n ?_)
          ·
            have e1 : wkb (T 5) (i + 1) = (i : Int) := if_pos (by omega)
            skip -- go
            refine wp_iload_n (pc := 57) dX12_wakes_57 rfl ?_
            refine wp_istore_n (pc := 58) dX12_wakes_58 (by decide) ?_
            refine wp_iinc (pc := 59) dX12_wakes_59 rfl (by decide) ?_
            refine wp_goto (pc := 62) 10 dX12_wakes_62 (by decide) ?_
            refine wp_ls ?_ (ih (i + 1) (by omega) (by omega))
            rw [e1]
            repeat' (first | exact LE_0 | refine LE_s rfl ?_ | refine LE_s (I_c (by first | omega | (simp only [sm]; omega))) ?_ | refine LE_s (J_c (by first | omega | exact Int.pow_succ _ _ | exact (Int.pow_succ _ _).symm | exact (Int.pow_zero _).symm | (simp only [sm]; omega))) ?_ | refine LE_n ?_)
theorem sp_Ref_wakes (hM : MAt hp q th N T U tx rw rt hs ss KT) (hI : TI T N) (hH : HS T) (hb : T 7 0 < 1900000000) : Sp g MX12_wakes (rm 232 0 0) [.ref q] hp (Eff (.int (I (wkb (T 5) N))) (fun hp2 => MAt hp2 q 0 N T U tx (if wkb (T 5) N = -2 then rw else [T 5 (wkb (T 5) N), runT (stl rt) T N (T 5 (wkb (T 5) N)).toNat 3 (wkb (T 5) N)]) rt hs ss KT ∧ SO hp hp2 q (q + 25))) := by
  refine Sp_mk rfl (Nat.le_of_ble_eq_true rfl) ?_
  show wp g _ _ _ 0 0 0 [some (.ref q), none, none] [] hp
  have O := SO.rf (hp := hp) (lo := q) (hi := q + 25)
  obtain ⟨V, A, rd, K, hth, M⟩ := hM
  have hu := M.ru (q := q)
  have M2 := M
  obtain ⟨m1, mA, mt, mr, mu, mU, mh, ms, mk⟩ := M2
  refine wp_aload_n (pc := 0) dX12_wakes_0 rfl ?_
  refine wp_iconst (pc := 1) dX12_wakes_1 ?_
  refine wm_put dX12_wakes_2 pf_X12_85 K O (by decide) mset_6 rfl rfl (fun hp K O => ?_)
  refine wp_bipush (pc := 5) (y := (-2)) dX12_wakes_5 (by decide) ?_
  refine wp_istore_n (pc := 7) dX12_wakes_7 (by decide) ?_
  refine wp_iconst (pc := 8) dX12_wakes_8 ?_
  refine wp_istore_n (pc := 9) dX12_wakes_9 (by decide) ?_
  refine wp_ls ?_ (lp_Ref_wakes (V := V) (A := A) hI hH hb M K O (by repeat (first | assumption | exact pv10 | exact pv11 | (apply pv_o; decide; decide) | exact upN_eq | (apply upN_ne; decide) | (apply SV_at; assumption; decide) | exact rfl)) (by repeat (first | exact SV.rf | assumption | (apply SV.up1; decide) | (apply SV.tr2; assumption; decide))) (by repeat (first | exact SA.rf | assumption | (apply SA.up1; decide) | (apply SA.tr2; assumption; decide))) (by first | assumption | exact Mrw.z (by repeat (first | assumption | exact pv10 | exact pv11 | (apply pv_o; decide; decide) | exact upN_eq | (apply upN_ne; decide) | (apply SV_at; assumption; decide) | exact rfl)) | exact Mrw.tr (by assumption) (by repeat (first | assumption | exact pv10 | exact pv11 | (apply pv_o; decide; decide) | exact upN_eq | (apply upN_ne; decide) | (apply SV_at; assumption; decide) | exact rfl)) (by repeat (first | assumption | exact upA_eq | (apply upA_ne; first | decide | omega) | (apply SA_at; assumption; first | decide | (simp; omega)) | exact rfl))) (N + 1) 0 (by omega) (by omega))
  repeat' (first | exact LE_0 | refine LE_s rfl ?_ | refine LE_s (I_c (by first | omega | (simp only [sm]; omega))) ?_ | refine LE_s (J_c (by first | omega | exact Int.pow_succ _ _ | exact (Int.pow_succ _ _).symm | exact (Int.pow_zero _).symm | (simp only [sm]; omega))) ?_ | refine LE_n ?_)
/-! echo -/
def ecb (T : Nat → Int → Int) (k : Nat) : Nat → Bool := fun i => (T 6 (i : Int)).toNat.testBit k
theorem lp_Ref_echo (hI : TI T N) (M : MX V A N T U tx rw rt hs ss KT) (hk : k < N) (K : ModAt hp q V2 A2 rd (.ref (q + 5))) (O : SO hp0 hp q (q + 25)) (h6 : V2 6 = 0) (sV : SV qV V V2) (sA : SA qA A A2) : ∀ (m i : Nat), N < i + m → i ≤ N → wp g MX12_echo (rm 2 0 0) (Eff (.int (I ((bits (ecb T k) N : Nat) : Int))) (fun hp3 => MAt hp3 q 0 N T U tx [((popc (bits (ecb T k) N) : Nat) : Int), ((bits (ecb T k) N &&& (T 6 (k : Int)).toNat : Nat) : Int)] rt hs ss KT ∧ SO hp0 hp3 q (q + 25))) 0 0 19 [some (.ref q), some (.int (I (k : Int))), some (.int (I ((bits (ecb T k) i : Nat) : Int))), some (.int (I (i : Int)))] [] hp := by
  intro m
  induction m with
  | zero => intro i h1 h2; exact absurd h1 (by omega)
  | succ m ih =>
    intro i h1 h2
    have hN := hI.men.2
    have m1 := M.1
    have mA := M.2.1
    have h6' := hI.r6 (i : Int)
    have h6k := hI.r6 (k : Int)
    have e6 : T 6 (i : Int) = ((T 6 (i : Int)).toNat : Int) := by omega
    have e6k : T 6 (k : Int) = ((T 6 (k : Int)).toNat : Int) := by omega
    refine wp_iload_n (pc := 19) dX12_echo_19 rfl ?_
    refine wp_aload_n (pc := 20) dX12_echo_20 rfl ?_
    refine wm_gets dX12_echo_21 gf_X12_92 K (by rfl) (by repeat (first | assumption | exact pv10 | exact pv11 | (apply pv_o; decide; decide) | exact upN_eq | (apply upN_ne; decide) | (apply SV_at; assumption; decide) | exact rfl)) ?_
    refine wp_icmp_ge (pc := 24) 59 dX12_echo_24 (by decide) (by first | omega | exact TI.i5 (by assumption) | exact TI.i3 (by assumption) | exact TI.i2 (by assumption) | exact TI.i1 (by assumption) | exact TI.i0 (by assumption) | exact TI.i4 (by assumption) | exact TI.i6 (by assumption) | exact TI.i7 (by assumption)) (by first | omega | exact TI.i5 (by assumption) | exact TI.i3 (by assumption) | exact TI.i2 (by assumption) | exact TI.i1 (by assumption) | exact TI.i0 (by assumption) | exact TI.i4 (by assumption) | exact TI.i6 (by assumption) | exact TI.i7 (by assumption)) (fun c24 => ?_) (fun c24 => ?_)
    ·
      have e : i = N := by omega
      subst e
      have hb6 := bits64 (P := ecb T k) hN
      have hpc : popc (bits (ecb T k) i) ≤ i := by rw [popc_bits _ (by omega)]; exact cnt_le _ _
      have han := Nat.and_le_left (n := bits (ecb T k) i) (m := (T 6 (k : Int)).toNat) -- go
      refine wp_aload_n (pc := 59) dX12_echo_59 rfl ?_
      refine wp_iconst (pc := 60) dX12_echo_60 ?_
      refine wm_put dX12_echo_61 pf_X12_89 K O (by decide) mset_5 rfl rfl (fun hp K O => ?_)
      refine wp_aload_n (pc := 64) dX12_echo_64 rfl ?_
      refine wp_iload_n (pc := 65) dX12_echo_65 rfl ?_
      refine wp_Sp (pc := 66) dX12_echo_66 cl_X12_257 (sp_Integer_bitCount hb6) rfl rfl (by decide) (Nat.le_of_ble_eq_true rfl) ?_
      refine wp_i2l (pc := 69) dX12_echo_69 (by first | omega | exact TI.i5 (by assumption) | exact TI.i3 (by assumption) | exact TI.i2 (by assumption) | exact TI.i1 (by assumption) | exact TI.i0 (by assumption) | exact TI.i4 (by assumption) | exact TI.i6 (by assumption) | exact TI.i7 (by assumption)) ?_
      refine wp_Vn (pc := 70) dX12_echo_70 cl_X12_253 (sp_Ref_tellR K (by first | assumption | exact Mrw.z (by repeat (first | assumption | exact pv10 | exact pv11 | (apply pv_o; decide; decide) | exact upN_eq | (apply upN_ne; decide) | (apply SV_at; assumption; decide) | exact rfl))) (by first | decide | (simp; omega) | simp | omega)) rfl rfl K.1 (by rfl) (by decide) (Nat.le_of_ble_eq_true rfl) (fun hp70 e70 => ?_)
      obtain ⟨⟨V70, A70, K, sV70, sA70, hR70⟩, O1⟩ := e70; replace O := SO.tr O O1
      refine wp_aload_n (pc := 73) dX12_echo_73 rfl ?_
      refine wp_iload_n (pc := 74) dX12_echo_74 rfl ?_
      refine wp_aload_n (pc := 75) dX12_echo_75 rfl ?_
      refine wm_get dX12_echo_76 gf_X12_9 K (by rfl) ?_
      refine wp_bipush (pc := 79) (y := 60) dX12_echo_79 (by decide) ?_
      refine wp_iload_n (pc := 81) dX12_echo_81 rfl ?_
      refine wp_iadd (pc := 82) dX12_echo_82 ?_
      refine wm_iald dX12_echo_83 K (by first | rfl | assumption) (by first | decide | omega) (by first | decide | omega) (by decide) (by omega) (by omega) (by repeat (first | assumption | exact upA_eq | (apply upA_ne; first | decide | omega) | (apply SA_at; assumption; first | decide | (simp; omega)) | exact rfl)) (by first | exact flat5 (by omega) (by omega) | exact flat3 (by omega) (by omega) | exact flat2 (by omega) (by omega) | exact flat6 (by omega) (by omega) | exact flat4 (by omega) (by omega) | exact flat1 (by omega) (by omega) | exact flat0 (by omega) (by omega) | exact flat7 | exact rfl) ?_
      refine wp_topE e6k ?_
      refine wp_iand (pc := 84) dX12_echo_84 I_and ?_
      refine wp_i2l (pc := 85) dX12_echo_85 (by first | omega | exact TI.i5 (by assumption) | exact TI.i3 (by assumption) | exact TI.i2 (by assumption) | exact TI.i1 (by assumption) | exact TI.i0 (by assumption) | exact TI.i4 (by assumption) | exact TI.i6 (by assumption) | exact TI.i7 (by assumption)) ?_
      refine wp_Vn (pc := 86) dX12_echo_86 cl_X12_253 (sp_Ref_tellR K (by first | assumption | exact Mrw.z (by repeat (first | assumption | exact pv10 | exact pv11 | (apply pv_o; decide; decide) | exact upN_eq | (apply upN_ne; decide) | (apply SV_at; assumption; decide) | exact rfl))) (by first | decide | (simp; omega) | simp | omega)) rfl rfl K.1 (by rfl) (by decide) (Nat.le_of_ble_eq_true rfl) (fun hp86 e86 => ?_)
      obtain ⟨⟨V86, A86, K, sV86, sA86, hR86⟩, O1⟩ := e86; replace O := SO.tr O O1
      refine wp_iload_n (pc := 89) dX12_echo_89 rfl ?_
      exact wp_ir (pc := 90) dX12_echo_90 rfl (by decide) (by decide) (by first | rfl | omega) ⟨⟨_, _, _, K, (by repeat (first | assumption | exact pv10 | exact pv11 | (apply pv_o; decide; decide) | exact upN_eq | (apply upN_ne; decide) | (apply SV_at; assumption; decide) | exact rfl)), M.qu (by repeat (first | exact SV.rf | assumption | (apply SV.up1; decide) | (apply SV.tr2; assumption; decide))) (by repeat (first | exact SA.rf | assumption | (apply SA.up1; decide) | (apply SA.tr2; assumption; decide))) (by first | assumption | exact Mrw.z (by repeat (first | assumption | exact pv10 | exact pv11 | (apply pv_o; decide; decide) | exact upN_eq | (apply upN_ne; decide) | (apply SV_at; assumption; decide) | exact rfl)) | exact Mrw.tr (by assumption) (by repeat (first | assumption | exact pv10 | exact pv11 | (apply pv_o; decide; decide) | exact upN_eq | (apply upN_ne; decide) | (apply SV_at; assumption; decide) | exact rfl)) (by repeat (first | assumption | exact upA_eq | (apply upA_ne; first | decide | omega) | (apply SA_at; assumption; first | decide | (simp; omega)) | exact rfl)))⟩, O⟩
    ·
      refine wp_iload_n (pc := 27) dX12_echo_27 rfl ?_
      refine wp_aload_n (pc := 28) dX12_echo_28 rfl ?_
      refine wm_get dX12_echo_29 gf_X12_9 K (by rfl) ?_
      refine wp_bipush (pc := 32) (y := 60) dX12_echo_32 (by decide) ?_
      refine wp_iload_n (pc := 34) dX12_echo_34 rfl ?_
      refine wp_iadd (pc := 35) dX12_echo_35 ?_
      refine wm_iald dX12_echo_36 K (by first | rfl | assumption) (by first | decide | omega) (by first | decide | omega) (by decide) (by omega) (by omega) (by repeat (first | assumption | exact upA_eq | (apply upA_ne; first | decide | omega) | (apply SA_at; assumption; first | decide | (simp; omega)) | exact rfl)) (by first | exact flat5 (by omega) (by omega) | exact flat3 (by omega) (by omega) | exact flat2 (by omega) (by omega) | exact flat6 (by omega) (by omega) | exact flat4 (by omega) (by omega) | exact flat1 (by omega) (by omega) | exact flat0 (by omega) (by omega) | exact flat7 | exact rfl) ?_
      refine wp_topE e6 ?_
      refine wp_iload_n (pc := 37) dX12_echo_37 rfl ?_
      refine wp_Sp (pc := 38) dX12_echo_38 cl_X12_227 (sp_Ref_has (s := (T 6 (i : Int)).toNat) (k := k) (by omega) (by omega)) rfl rfl (by decide) (Nat.le_of_ble_eq_true rfl) ?_
      first | refine wp_ifb_eq (pc := 41) 50 dX12_echo_41 (by decide) (fun c41 => ?_) (fun c41 => ?_) | refine wp_if_eq (pc := 41) 50 dX12_echo_41 (by decide) (by first | omega | exact TI.i5 (by assumption) | exact TI.i3 (by assumption) | exact TI.i2 (by assumption) | exact TI.i1 (by assumption) | exact TI.i0 (by assumption) | exact TI.i4 (by assumption) | exact TI.i6 (by assumption) | exact TI.i7 (by assumption)) (fun c41 => ?_) (fun c41 => ?_)
      ·
        have e : bits (ecb T k) (i + 1) = bits (ecb T k) i := by show _ ||| _ = _; rw [if_neg (by simp [ecb, c41]), Nat.or_zero]
        skip -- go
        refine wp_iconst (pc := 50) dX12_echo_50 ?_
        first | refine wp_ior (pc := 51) dX12_echo_51 I_or0 ?_ | refine wp_ior (pc := 51) dX12_echo_51 I_or ?_
        rw [← e]
        refine wp_istore_n (pc := 52) dX12_echo_52 (by decide) ?_
        refine wp_iinc (pc := 53) dX12_echo_53 rfl (by decide) ?_
        refine wp_goto (pc := 56) 19 dX12_echo_56 (by decide) ?_
        refine wp_ls ?_ (ih (i + 1) (by omega) (by omega))
        · repeat' (first | exact LE_0 | refine LE_s rfl ?_ | refine LE_s (I_c (by first | omega | (simp only [sm]; omega))) ?_ | refine LE_s (J_c (by first | omega | exact Int.pow_succ _ _ | exact (Int.pow_succ _ _).symm | exact (Int.pow_zero _).symm | (simp only [sm]; omega))) ?_ | refine LE_n ?_)
      ·
        have e : bits (ecb T k) (i + 1) = bits (ecb T k) i ||| 2 ^ i := by show _ ||| _ = _; rw [if_pos (by simp [ecb, c41])]
        skip -- go
        refine wp_iconst (pc := 44) dX12_echo_44 ?_
        refine wp_iload_n (pc := 45) dX12_echo_45 rfl ?_
        refine wp_ishl (pc := 46) dX12_echo_46 (I_shl (by omega)) ?_
        refine wp_goto (pc := 47) 51 dX12_echo_47 (by decide) ?_
        first | refine wp_ior (pc := 51) dX12_echo_51 I_or0 ?_ | refine wp_ior (pc := 51) dX12_echo_51 I_or ?_
        rw [← e]
        refine wp_istore_n (pc := 52) dX12_echo_52 (by decide) ?_
        refine wp_iinc (pc := 53) dX12_echo_53 rfl (by decide) ?_
        refine wp_goto (pc := 56) 19 dX12_echo_56 (by decide) ?_
        refine wp_ls ?_ (ih (i + 1) (by omega) (by omega))
        · repeat' (first | exact LE_0 | refine LE_s rfl ?_ | refine LE_s (I_c (by first | omega | (simp only [sm]; omega))) ?_ | refine LE_s (J_c (by first | omega | exact Int.pow_succ _ _ | exact (Int.pow_succ _ _).symm | exact (Int.pow_zero _).symm | (simp only [sm]; omega))) ?_ | refine LE_n ?_)
theorem sp_Ref_echo (hM : MAt hp q th N T U tx rw rt hs ss KT) (hI : TI T N) (rx : InR x) : Sp g MX12_echo (rm 2 0 0) [.ref q, .int (I x)] hp (Eff (.int (I (if 0 ≤ x ∧ x < N then ((bits (ecb T x.toNat) N : Nat) : Int) else -1))) (fun hp2 => MAt hp2 q 0 N T U tx (if 0 ≤ x ∧ x < N then [((popc (bits (ecb T x.toNat) N) : Nat) : Int), ((bits (ecb T x.toNat) N &&& (T 6 x).toNat : Nat) : Int)] else rw) rt hs ss KT ∧ SO hp hp2 q (q + 25))) := by
  have hN := hI.men.2
  refine Sp_mk rfl (Nat.le_of_ble_eq_true rfl) ?_
  show wp g _ _ _ 0 0 0 [some (.ref q), some (.int (I x)), none, none] [] hp
  have O := SO.rf (hp := hp) (lo := q) (hi := q + 25)
  obtain ⟨V, A, rd, K, hth, M⟩ := hM
  have hu := M.ru (q := q)
  have M2 := M
  obtain ⟨m1, mA, mt, mr, mu, mU, mh, ms, mk⟩ := M2
  refine wp_aload_n (pc := 0) dX12_echo_0 rfl ?_
  refine wp_iconst (pc := 1) dX12_echo_1 ?_
  refine wm_put dX12_echo_2 pf_X12_85 K O (by decide) mset_6 rfl rfl (fun hp K O => ?_)
  refine wp_aload_n (pc := 5) dX12_echo_5 rfl ?_
  refine wp_iload_n (pc := 6) dX12_echo_6 rfl ?_
  refine wp_Vp (pc := 7) dX12_echo_7 cl_X12_99 (sp_Ref_isMan (by first | assumption | omega | (repeat (first | assumption | exact pv10 | exact pv11 | (apply pv_o; decide; decide) | exact upN_eq | (apply upN_ne; decide) | (apply SV_at; assumption; decide) | exact upA_eq | (apply upA_ne; first | decide | omega) | (apply SA_at; assumption; first | decide | (simp; omega)) | exact rfl))) (by first | assumption | omega | (repeat (first | assumption | exact pv10 | exact pv11 | (apply pv_o; decide; decide) | exact upN_eq | (apply upN_ne; decide) | (apply SV_at; assumption; decide) | exact upA_eq | (apply upA_ne; first | decide | omega) | (apply SA_at; assumption; first | decide | (simp; omega)) | exact rfl))) (by first | assumption | omega | (repeat (first | assumption | exact pv10 | exact pv11 | (apply pv_o; decide; decide) | exact upN_eq | (apply upN_ne; decide) | (apply SV_at; assumption; decide) | exact upA_eq | (apply upA_ne; first | decide | omega) | (apply SA_at; assumption; first | decide | (simp; omega)) | exact rfl))) (by first | assumption | omega | (repeat (first | assumption | exact pv10 | exact pv11 | (apply pv_o; decide; decide) | exact upN_eq | (apply upN_ne; decide) | (apply SV_at; assumption; decide) | exact upA_eq | (apply upA_ne; first | decide | omega) | (apply SA_at; assumption; first | decide | (simp; omega)) | exact rfl)))) rfl rfl K.1 (by rfl) (by decide) (Nat.le_of_ble_eq_true rfl) ?_
  first | refine wp_ifb_ne (pc := 10) 15 dX12_echo_10 (by decide) (fun c10 => ?_) (fun c10 => ?_) | refine wp_if_ne (pc := 10) 15 dX12_echo_10 (by decide) (by first | omega | exact TI.i5 (by assumption) | exact TI.i3 (by assumption) | exact TI.i2 (by assumption) | exact TI.i1 (by assumption) | exact TI.i0 (by assumption) | exact TI.i4 (by assumption) | exact TI.i6 (by assumption) | exact TI.i7 (by assumption)) (fun c10 => ?_) (fun c10 => ?_)
  ·
    rw [if_pos c10, if_pos c10]
    obtain ⟨k, rfl⟩ := Int.eq_ofNat_of_zero_le c10.1
    rw [Int.toNat_natCast] -- go
    refine wp_iconst (pc := 15) dX12_echo_15 ?_
    refine wp_istore_n (pc := 16) dX12_echo_16 (by decide) ?_
    refine wp_iconst (pc := 17) dX12_echo_17 ?_
    refine wp_istore_n (pc := 18) dX12_echo_18 (by decide) ?_
    refine wp_ls ?_ (lp_Ref_echo (V := V) (A := A) hI M (by omega) K O (by repeat (first | assumption | exact pv10 | exact pv11 | (apply pv_o; decide; decide) | exact upN_eq | (apply upN_ne; decide) | (apply SV_at; assumption; decide) | exact rfl)) (by repeat (first | exact SV.rf | assumption | (apply SV.up1; decide) | (apply SV.tr2; assumption; decide))) (by repeat (first | exact SA.rf | assumption | (apply SA.up1; decide) | (apply SA.tr2; assumption; decide))) (N + 1) 0 (by omega) (by omega))
    repeat' (first | exact LE_0 | refine LE_s rfl ?_ | refine LE_s (I_c (by first | omega | (simp only [sm]; omega))) ?_ | refine LE_s (J_c (by first | omega | exact Int.pow_succ _ _ | exact (Int.pow_succ _ _).symm | exact (Int.pow_zero _).symm | (simp only [sm]; omega))) ?_ | refine LE_n ?_)
  ·
    rw [if_neg c10, if_neg c10] -- go
    refine wp_iconst (pc := 13) dX12_echo_13 ?_
    exact wp_ir (pc := 14) dX12_echo_14 rfl (by decide) (by decide) (by first | rfl | omega) ⟨⟨_, _, _, K, (by repeat (first | assumption | exact pv10 | exact pv11 | (apply pv_o; decide; decide) | exact upN_eq | (apply upN_ne; decide) | (apply SV_at; assumption; decide) | exact rfl)), M.qu (by repeat (first | exact SV.rf | assumption | (apply SV.up1; decide) | (apply SV.tr2; assumption; decide))) (by repeat (first | exact SA.rf | assumption | (apply SA.up1; decide) | (apply SA.tr2; assumption; decide))) (by first | assumption | exact Mrw.z (by repeat (first | assumption | exact pv10 | exact pv11 | (apply pv_o; decide; decide) | exact upN_eq | (apply upN_ne; decide) | (apply SV_at; assumption; decide) | exact rfl)) | exact Mrw.tr (by assumption) (by repeat (first | assumption | exact pv10 | exact pv11 | (apply pv_o; decide; decide) | exact upN_eq | (apply upN_ne; decide) | (apply SV_at; assumption; decide) | exact rfl)) (by repeat (first | assumption | exact upA_eq | (apply upA_ne; first | decide | omega) | (apply SA_at; assumption; first | decide | (simp; omega)) | exact rfl)))⟩, O⟩
end MN_

