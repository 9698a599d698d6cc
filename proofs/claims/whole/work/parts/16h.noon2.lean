/-! the reference: an afternoon, done -/
section MQe
variable {g : GT} {hp hp0 : Hp} {q N N2 n a s k p F m r p1 : Nat} {V V2 V3 : Nat → Int} {A A2 A3 : Nat → Int → Int} {rd rl : Value} {i j x v b c y z w th o d u w1 y' z' : Int} {T T2 X : Nat → Int → Int} {l t cs tx rw rw2 rt : List Int} {G f D Y C C1 : Int → Int}
theorem lenT_o (h2 : k ≠ 2) (h1 : k ≠ 1) : lenT T N x y z k = T k := by
  unfold lenT monT
  split
  · rw [up_ne h1, up_ne h2, up_ne h2]
  · rfl
theorem payT_o (h2 : k ≠ 2) (h1 : k ≠ 1) : payT T N x y z k = T k := by
  unfold payT monT
  split
  · rw [up_ne h1, up_ne h2, up_ne h2]
  · rfl
theorem HS.of (h : HS T) (e : T2 6 = T 6) : HS T2 := fun i hi => by rw [e]; exact h i hi
theorem acT_I (hI : TI T N) (hH : HS T) (hb : T 7 0 + 10 < 2000000000) (rx : 0 ≤ x ∧ x ≤ 9) : TI (acT cs T N c x y z) N ∧ HS (acT cs T N c x y z) ∧ acT cs T N c x y z 7 0 ≤ T 7 0 + 9 := by
  unfold acT
  by_cases h1 : c = 104
  · rw [if_pos h1]
    refine ⟨runT_I hI _ (by omega), runT_HS hI hH _ (by omega), ?_⟩
    rw [runT_7]; omega
  rw [if_neg h1]
  by_cases h2 : c = 100
  · rw [if_pos h2]
    refine ⟨dieT_I hI, dieT_HS hH, ?_⟩
    rw [dieT_7]; omega
  rw [if_neg h2]
  by_cases h3 : c = 99
  · rw [if_pos h3]
    refine ⟨couT_I hI, couT_HS hH, ?_⟩
    rw [couT_7]; omega
  rw [if_neg h3]
  by_cases h4 : c = 108
  · rw [if_pos h4]
    refine ⟨lenT_I hI, hH.of (lenT_o (by decide) (by decide)), ?_⟩
    rw [lenT_o (by decide) (by decide)]; omega
  rw [if_neg h4]
  refine ⟨payT_I hI, hH.of (payT_o (by decide) (by decide)), ?_⟩
  rw [payT_o (by decide) (by decide)]; omega
theorem acT_no (hI : TI T N) (h : ¬ 0 ≤ acA T N c x y z) : acT cs T N c x y z = T := by
  unfold acA at h
  unfold acT
  by_cases h1 : c = 104
  · rw [if_pos h1] at h; omega
  rw [if_neg h1] at h ⊢
  by_cases h2 : c = 100
  · rw [if_pos h2] at h ⊢
    have hdd := dct_in (dieT T N x y) N
    exact if_neg (fun z => by revert h; unfold dieA; rw [if_neg (by omega), if_neg (by omega)]; omega)
  rw [if_neg h2] at h ⊢
  by_cases h3 : c = 99
  · rw [if_pos h3] at h ⊢
    have h3 := hI.r3 x
    exact if_neg (fun z => by revert h; unfold couA; rw [if_neg (by omega), if_neg (by omega)]; omega)
  rw [if_neg h3] at h ⊢
  by_cases h4 : c = 108
  · rw [if_pos h4] at h ⊢
    have hr1 := hI.r1 (y * 6 + x)
    exact if_neg (fun z => by revert h; unfold lenA; rw [if_neg (by omega), if_neg (by omega), if_neg (by omega), if_neg (by omega)]; omega)
  rw [if_neg h4] at h ⊢
  exact if_neg (fun z => by revert h; unfold payA; rw [if_neg (by omega), if_neg (by omega), if_neg (by omega), if_neg (by omega)]; omega)
theorem ac_cg (h2 : 2 ≤ nd c → y = y') (h3 : 3 ≤ nd c → z = z') (hc : 1 ≤ nd c) : acT cs T N c x y z = acT cs T N c x y' z' ∧ acA T N c x y z = acA T N c x y' z' := by
  unfold acT acA
  by_cases e1 : c = 104
  · simp only [if_pos e1]; exact ⟨trivial, trivial⟩
  simp only [if_neg e1]
  by_cases e2 : c = 100
  · rw [h2 (by unfold nd; rw [if_neg (by omega), if_pos e2]; omega)]
    simp only [if_pos e2]; exact ⟨trivial, trivial⟩
  simp only [if_neg e2]
  by_cases e3 : c = 99
  · simp only [if_pos e3]; exact ⟨trivial, trivial⟩
  simp only [if_neg e3]
  have e : nd c = 3 := by
    revert hc
    unfold nd
    rw [if_neg (by omega), if_neg e2]
    split <;> omega
  rw [h2 (by omega), h3 (by omega)]
  exact ⟨rfl, rfl⟩
/-- the town after so many acts; whether one can be done -/
def afT (cs l : List Int) (T : Nat → Int → Int) (N : Nat) : Nat → Nat → Int → Int
  | 0 => T
  | i + 1 => acT cs (afT cs l T N i) N (hr l 60 (ap l i)) (hr l 60 (ap l i + 1) - 48) (hr l 60 (ap l i + 1 + 1) - 48) (hr l 60 (ap l i + 1 + 1 + 1) - 48)
def afA (cs l : List Int) (T : Nat → Int → Int) (N i : Nat) : Int := acA (afT cs l T N i) N (hr l 60 (ap l i)) (hr l 60 (ap l i + 1) - 48) (hr l 60 (ap l i + 1 + 1) - 48) (hr l 60 (ap l i + 1 + 1 + 1) - 48)
theorem abd_x (h : abd l p = -1) : 0 ≤ hr l 60 (p + 1) - 48 ∧ hr l 60 (p + 1) - 48 ≤ 9 := by
  have h1 := abd_in h
  unfold abd at h
  rw [if_neg (by omega)] at h
  by_cases d1 : 48 ≤ hr l 60 (p + 1) ∧ hr l 60 (p + 1) < 48 + 10
  · omega
  · rw [if_pos d1] at h; omega
theorem nd_c (h : 1 ≤ nd c) : c = 104 ∨ c = 100 ∨ c = 99 ∨ c = 108 ∨ c = 112 := by
  revert h
  unfold nd
  (repeat' split) <;> omega
theorem nd_23 (c : Int) : (c = 100 ∨ c = 108 ∨ c = 112 → 2 ≤ nd c) ∧ (c = 108 ∨ c = 112 → 3 ≤ nd c) := by
  unfold nd
  (repeat' split) <;> omega
theorem afT_I {cs : List Int} (hI : TI T N) (hH : HS T) (hb : T 7 0 < 1900000000) (hR : AR l n) : ∀ i : Nat, i ≤ n → i ≤ 61 → TI (afT cs l T N i) N ∧ HS (afT cs l T N i) ∧ afT cs l T N i 7 0 ≤ T 7 0 + 9 * i
  | 0, _, _ => ⟨hI, hH, by show T 7 0 ≤ _; omega⟩
  | i + 1, hi, h6 => by
    have ih := afT_I (cs := cs) hI hH hb hR i (by omega) (by omega)
    have hx := abd_x (hR i (by omega)).1
    have := acT_I (cs := cs) (c := hr l 60 (ap l i)) (x := hr l 60 (ap l i + 1) - 48) (y := hr l 60 (ap l i + 1 + 1) - 48) (z := hr l 60 (ap l i + 1 + 1 + 1) - 48) ih.1 ih.2.1 (by omega) hx
    refine ⟨this.1, this.2.1, ?_⟩
    have h3 := this.2.2
    show acT _ _ _ _ _ _ _ 7 0 ≤ _
    omega
theorem lp_Ref_an2 (hI : TI T N) (hH : HS T) (hb : T 7 0 < 1900000000) (hR : AR l n) (hn : n ≤ 61) (hl : byl l) (e1 : V 1 = (N : Int)) (hC : ACt l (A 12) n) (hu : RuA A V q rl t) {Q : Option Value → Hp → Prop} (Kn : ∀ (hp3 : Hp) (V3 : Nat → Int) (A3 : Nat → Int → Int) (rd3 : Value) (i : Nat), ModAt hp3 q V3 A3 rd3 rl → SO hp hp3 q (q + 25) → SV [8, 9, 10, 11, 16] V V3 → SA [1, 7, 11] A A3 → A3 1 = flat (afT (stl t) l T N i) → i ≤ n → (∀ r : Nat, r < i → 0 ≤ afA (stl t) l T N r) → (i < n → ¬ 0 ≤ afA (stl t) l T N i) → wp g MX12_afternoon (rm 233 0 0) Q 0 0 93 [some (.ref q), some (.int (I (n : Int))), some (.int (I (i : Int)))] [] hp3) : ∀ (m i : Nat), n < i + m → i ≤ n → ∀ (hp2 : Hp) (V2 : Nat → Int) (A2 : Nat → Int → Int) (rd2 : Value) (K : ModAt hp2 q V2 A2 rd2 rl) (O : SO hp hp2 q (q + 25)) (sV : SV [8, 9, 10, 11, 16] V V2) (sA : SA [1, 7, 11] A A2) (hA : A2 1 = flat (afT (stl t) l T N i)) (hD : ∀ r : Nat, r < i → 0 ≤ afA (stl t) l T N r), wp g MX12_afternoon (rm 233 0 0) Q 0 0 72 [some (.ref q), some (.int (I (n : Int))), some (.int (I (i : Int)))] [] hp2 := by
  intro m
  induction m with
  | zero => intro i h1 h2; exact absurd h1 (by omega)
  | succ m ih =>
    intro i h1 h2 hp2 V2 A2 rd2 K O sV sA hA hD
    refine wp_iload_n (pc := 72) dX12_afternoon_72 rfl ?_
    refine wp_iload_n (pc := 73) dX12_afternoon_73 rfl ?_
    refine wp_icmp_ge (pc := 74) 93 dX12_afternoon_74 (by decide) (by first | omega | exact TI.i5 (by assumption) | exact TI.i3 (by assumption) | exact TI.i2 (by assumption) | exact TI.i1 (by assumption) | exact TI.i0 (by assumption) | exact TI.i4 (by assumption) | exact TI.i6 (by assumption) | exact TI.i7 (by assumption)) (by first | omega | exact TI.i5 (by assumption) | exact TI.i3 (by assumption) | exact TI.i2 (by assumption) | exact TI.i1 (by assumption) | exact TI.i0 (by assumption) | exact TI.i4 (by assumption) | exact TI.i6 (by assumption) | exact TI.i7 (by assumption)) (fun c74 => ?_) (fun c74 => ?_)
    ·
      have e : i = n := by omega
      refine wp_ls ?_ (Kn hp2 V2 A2 rd2 i K O sV sA hA (by omega) hD (fun z => by omega))
      repeat' (first | exact LE_0 | refine LE_s rfl ?_ | refine LE_s (I_c (by first | omega | (simp only [sm]; omega))) ?_ | refine LE_s (J_c (by first | omega | exact Int.pow_succ _ _ | exact (Int.pow_succ _ _).symm | exact (Int.pow_zero _).symm | (simp only [sm]; omega))) ?_ | refine LE_n ?_)
    ·
      have hT := afT_I (cs := stl t) hI hH hb hR i (by omega) (by omega)
      have hab := (hR i (by omega)).1
      have hx := abd_x hab
      have hn1 := (abd_in hab).1
      have hCi := hC i (by omega)
      have h12 : A2 12 = A 12 := sA 12 (by decide)
      have h23 := nd_23 (hr l 60 (ap l i))
      have hhy := hr_in (tp := 60) (p := ap l i + 1 + 1) hl
      have hhz := hr_in (tp := 60) (p := ap l i + 1 + 1 + 1) hl
      have hcg := ac_cg (cs := stl t) (T := afT (stl t) l T N i) (N := N) (c := hr l 60 (ap l i)) (x := hr l 60 (ap l i + 1) - 48) hCi.2.2.1 hCi.2.2.2 hn1 -- go
      refine wp_aload_n (pc := 77) dX12_afternoon_77 rfl ?_
      refine wp_iconst (pc := 78) dX12_afternoon_78 ?_
      refine wp_iload_n (pc := 79) dX12_afternoon_79 rfl ?_
      refine wp_imul (pc := 80) dX12_afternoon_80 ?_
      refine wp_Vs (pc := 81) dX12_afternoon_81 cl_X12_290 (sp_Ref_act (k := i) (c := hr l 60 (ap l i)) (x := hr l 60 (ap l i + 1) - 48) (y := A 12 (4 * (i : Int) + 2)) (z := A 12 (4 * (i : Int) + 3)) K ((sV 1 (by decide)).trans e1) hT.1 hT.2.1 hA (RuA.cc hu (sV 15 (by decide)) (sA 5 (by decide)) (sA 6 (by decide))) (by omega) (by omega) (by rw [h12]; exact hCi.1) (by rw [h12]; exact hCi.2.1) (by rw [h12]) (by rw [h12]) hx (fun z => by rw [hCi.2.2.1 (h23.1 z)]; omega) (fun z => by rw [hCi.2.2.2 (h23.2 z)]; omega) (nd_c hn1)) rfl rfl K.1 (by rfl) (by decide) (Nat.le_of_ble_eq_true rfl) (fun hp81 e81 => ?_)
      obtain ⟨⟨V81, A81, rd81, K, sV81, sA81, hA81⟩, O1⟩ := e81; replace O := SO.tr O O1
      first | refine wp_ifb_eq (pc := 84) 93 dX12_afternoon_84 (by decide) (fun c84 => ?_) (fun c84 => ?_) | refine wp_if_eq (pc := 84) 93 dX12_afternoon_84 (by decide) (by first | omega | exact TI.i5 (by assumption) | exact TI.i3 (by assumption) | exact TI.i2 (by assumption) | exact TI.i1 (by assumption) | exact TI.i0 (by assumption) | exact TI.i4 (by assumption) | exact TI.i6 (by assumption) | exact TI.i7 (by assumption)) (fun c84 => ?_) (fun c84 => ?_)
      ·
        rw [hcg.2] at c84
        have hno := acT_no (cs := stl t) hT.1 c84
        refine wp_ls ?_ (Kn _ V81 A81 rd81 i K O (sV.tr sV81 (by decide) (by decide)) (sA.tr sA81 (by decide) (by decide)) (by rw [hA81, hcg.1, hno]) (by omega) hD (fun _ => c84))
        repeat' (first | exact LE_0 | refine LE_s rfl ?_ | refine LE_s (I_c (by first | omega | (simp only [sm]; omega))) ?_ | refine LE_s (J_c (by first | omega | exact Int.pow_succ _ _ | exact (Int.pow_succ _ _).symm | exact (Int.pow_zero _).symm | (simp only [sm]; omega))) ?_ | refine LE_n ?_)
      ·
        rw [hcg.2] at c84 -- go
        refine wp_iinc (pc := 87) dX12_afternoon_87 rfl (by decide) ?_
        refine wp_goto (pc := 90) 72 dX12_afternoon_90 (by decide) ?_
        refine wp_ls ?_ (ih (i + 1) (by omega) (by omega) _ V81 A81 rd81 K O (sV.tr sV81 (by decide) (by decide)) (sA.tr sA81 (by decide) (by decide)) (by rw [hA81, hcg.1]; rfl) (fun r hr => ?_))
        · repeat' (first | exact LE_0 | refine LE_s rfl ?_ | refine LE_s (I_c (by first | omega | (simp only [sm]; omega))) ?_ | refine LE_s (J_c (by first | omega | exact Int.pow_succ _ _ | exact (Int.pow_succ _ _).symm | exact (Int.pow_zero _).symm | (simp only [sm]; omega))) ?_ | refine LE_n ?_)
        · by_cases y : r = i
          · rw [y]; exact c84
          · exact hD r (by omega)
end MQe

