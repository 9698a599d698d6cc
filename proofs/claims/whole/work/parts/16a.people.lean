/-! the reference: people come -/
section MPa
variable {g : GT} {hp hp0 : Hp} {q N n a b s k p F m : Nat} {V V2 V3 : Nat → Int} {A A2 A3 : Nat → Int → Int} {rd rl : Value} {i j x v c y z w th o d u : Int} {T T2 : Nat → Int → Int} {l t cs tx rw rw2 rt : List Int} {G f D Y C : Int → Int} {U U2 : List (Nat → Int → Int)} {hs : List (Int × Int)} {ss : List (Int × Int × Int)} {KT : Nat → Option (Nat → Int → Int)}
/-- the sign at p is as lines ask -/
abbrev okp (l : List Int) (N p : Nat) : Prop := (p % 8 = 0 → p / 8 + N < 6) ∧ (p % 8 = 7 → hr l 47 p = 59) ∧ (p % 8 ≠ 7 → 48 ≤ hr l 47 p ∧ hr l 47 p ≤ 57)
abbrev FB (l : List Int) (N F : Nat) : Prop := ¬ okp l N F ∧ ∀ p, p < F → okp l N p
def fb (l : List Int) (N : Nat) : Nat → Nat → Nat
  | 0, p => p
  | k + 1, p => if okp l N p then fb l N k (p + 1) else p
theorem ok47 : ¬ okp l N 47 := fun h => by
  have := h.2.1 (by decide)
  unfold hr at this
  rw [if_neg (by omega)] at this
  omega
theorem fb_ok : ∀ k p : Nat, p + k = 48 → (∀ p', p' < p → okp l N p') → FB l N (fb l N k p)
  | 0, p, e, h => absurd (h 47 (by omega)) ok47
  | k + 1, p, e, h => by
    unfold fb
    by_cases z : okp l N p
    · rw [if_pos z]
      refine fb_ok k (p + 1) (by omega) (fun p' hp' => ?_)
      by_cases y : p' = p
      · rw [y]; exact z
      · exact h p' (by omega)
    · rw [if_neg z]; exact ⟨z, h⟩
def fbp (l : List Int) (N : Nat) : Nat := fb l N 48 0
theorem fbp_ok : FB l N (fbp l N) := fb_ok 48 0 rfl (fun p h => by omega)
theorem FB.eq (h : FB l N F) : F = fbp l N := by
  have h2 := fbp_ok (l := l) (N := N)
  by_cases z : F < fbp l N
  · exact absurd (h2.2 F z) h.1
  · by_cases y : fbp l N < F
    · exact absurd (h.2 _ y) h2.1
    · omega
theorem FB.le (h : FB l N F) : F ≤ 47 ∧ F ≤ l.length := by
  constructor
  · exact Nat.le_of_not_lt fun z => ok47 (h.2 47 z)
  · refine Nat.le_of_not_lt fun z => ?_
    have h2 := h.2 l.length z
    have h3 : hr l 47 l.length = -1 := if_neg (by omega)
    by_cases y : l.length % 8 = 7
    · have := h2.2.1 y; omega
    · have := h2.2.2 y; omega
/-- how far the lines are read -/
def PS (l : List Int) (N n i : Nat) (C : Int → Int) (p : Nat) (w : Int) : Prop := (w = -1 ∧ p = 8 * n + i ∧ (∀ p', p' < 8 * n + i → okp l N p') ∧ (∀ m j : Nat, j ≤ 6 → (m < n ∨ (m = n ∧ j < i)) → C (7 * (m : Int) + (j : Int)) = l.getD (8 * m + j) 0 - 48)) ∨ (w = (p : Int) ∧ FB l N p ∧ p % 8 ≠ 7)
theorem PS.le (h : PS l N n s C p w) (h1 : n ≤ 6) (h2 : s ≤ 7) : p ≤ 80 ∧ InR w := by
  rcases h with h | h
  · omega
  · have := h.2.1.le; omega
theorem PS.st (h : PS l N n s C p w) (hs : s < 7) (hn : n + N < 6) (hb : byl l) (hu : u = if w = -1 ∧ 48 ≤ hr l 47 p ∧ hr l 47 p < 48 + 10 then hr l 47 p - 48 else 0) : PS l N n (s + 1) (updI C (7 * (n : Int) + (s : Int)) u) (if w = -1 ∧ 48 ≤ hr l 47 p ∧ hr l 47 p < 48 + 10 then p + 1 else p) (if w = -1 ∧ ¬ (48 ≤ hr l 47 p ∧ hr l 47 p < 48 + 10) then (p : Int) else w) := by
  rcases h with ⟨h1, h2, h3, h4⟩ | ⟨h1, h2⟩
  · by_cases z : 48 ≤ hr l 47 p ∧ hr l 47 p < 48 + 10
    · rw [if_pos ⟨h1, z⟩] at hu
      rw [if_pos ⟨h1, z⟩, if_neg (by omega)]
      refine .inl ⟨h1, by omega, fun p' hp' => ?_, fun m j hj hm => ?_⟩
      · by_cases y : p' = p
        · subst y
          exact ⟨fun _ => by omega, fun _ => by omega, fun _ => by omega⟩
        · exact h3 p' (by omega)
      · by_cases y : m = n ∧ j = s
        · obtain ⟨rfl, rfl⟩ := y
          rw [updI_eq, hu, ← h2, hr_eq (hr_lt (by omega))]
        · rw [updI_ne (by omega)]
          exact h4 m j hj (by omega)
    · rw [if_neg (by omega), if_pos ⟨h1, z⟩]
      refine .inr ⟨rfl, ⟨fun y => z ?_, fun p' hp' => h3 p' (by omega)⟩, by omega⟩
      have := y.2.2 (by omega)
      omega
  · rw [if_neg (by omega), if_neg (by omega)]
    exact .inr ⟨h1, h2⟩
theorem lp_Ref_pp1 (L : RdL A V q rd l 47) (hn : n + N < 6) (hb : byl l) {Q : Option Value → Hp → Prop} (Kn : ∀ hp3 C p w, ModAt hp3 q (pv V p w) (upA A 4 C) rd rl → SO hp hp3 q (q + 25) → PS l N n 7 C p w → wp g MX12_people (rm 3 0 0) Q 0 0 90 [some (.ref q), some (.int (I (n : Int))), none, none, none] [] hp3) : ∀ (m i : Nat), 7 < i + m → i ≤ 7 → ∀ (hp2 : Hp) (C : Int → Int) (p : Nat) (w : Int) (K : ModAt hp2 q (pv V p w) (upA A 4 C) rd rl) (O : SO hp hp2 q (q + 25)) (hP : PS l N n i C p w), wp g MX12_people (rm 3 0 0) Q 0 0 59 [some (.ref q), some (.int (I (n : Int))), none, some (.int (I (i : Int))), none] [] hp2 := by
  intro m
  induction m with
  | zero => intro i h1 h2; exact absurd h1 (by omega)
  | succ m ih =>
    intro i h1 h2 hp2 C p w K O hP
    have hle := hP.le (by omega) h2
    refine wp_iload_n (pc := 59) dX12_people_59 rfl ?_
    refine wp_bipush (pc := 60) (y := 6) dX12_people_60 (by decide) ?_
    refine wp_icmp_gt (pc := 62) 90 dX12_people_62 (by decide) (by first | omega | exact TI.i5 (by assumption) | exact TI.i3 (by assumption) | exact TI.i2 (by assumption) | exact TI.i1 (by assumption) | exact TI.i0 (by assumption) | exact TI.i4 (by assumption) | exact TI.i6 (by assumption) | exact TI.i7 (by assumption)) (by first | omega | exact TI.i5 (by assumption) | exact TI.i3 (by assumption) | exact TI.i2 (by assumption) | exact TI.i1 (by assumption) | exact TI.i0 (by assumption) | exact TI.i4 (by assumption) | exact TI.i6 (by assumption) | exact TI.i7 (by assumption)) (fun c62 => ?_) (fun c62 => ?_)
    ·
      have e : i = 7 := by omega
      subst e
      refine wp_ls ?_ (Kn hp2 C p w K O hP)
      repeat' (first | exact LE_0 | refine LE_s rfl ?_ | refine LE_s (I_c (by first | omega | (simp only [sm]; omega))) ?_ | refine LE_s (J_c (by first | omega | exact Int.pow_succ _ _ | exact (Int.pow_succ _ _).symm | exact (Int.pow_zero _).symm | (simp only [sm]; omega))) ?_ | refine LE_n ?_)
    ·
      refine wp_aload_n (pc := 65) dX12_people_65 rfl ?_
      refine wm_get dX12_people_66 gf_X12_21 K (by rfl) ?_
      refine wp_bipush (pc := 69) (y := 7) dX12_people_69 (by decide) ?_
      refine wp_iload_n (pc := 71) dX12_people_71 rfl ?_
      refine wp_imul (pc := 72) dX12_people_72 ?_
      refine wp_iload_n (pc := 73) dX12_people_73 rfl ?_
      refine wp_iadd (pc := 74) dX12_people_74 ?_
      refine wp_aload_n (pc := 75) dX12_people_75 rfl ?_
      refine wp_bipush (pc := 76) (y := 48) dX12_people_76 (by decide) ?_
      refine wp_bipush (pc := 78) (y := 10) dX12_people_78 (by decide) ?_
      refine wp_Vs (pc := 80) dX12_people_80 cl_X12_141 (sp_Ref_oneOf K (L.aa rfl rfl rfl) hle.2 hle.1 (by decide)) rfl rfl K.1 (by rfl) (by decide) (Nat.le_of_ble_eq_true rfl) (fun hp80 e80 => ?_)
      obtain ⟨K, O1⟩ := e80
      replace O := SO.tr O O1
      refine wm_iast dX12_people_83 K O (by first | rfl | assumption) (by first | decide | omega) (by first | decide | omega) (by decide) (by omega) (by omega) (by repeat (first | assumption | exact upA_eq | (apply upA_ne; first | decide | omega) | (apply SA_at; assumption; first | decide | (simp; omega)) | exact rfl)) (by first | exact flatv5 (by omega) (by omega) | exact flatv3 (by omega) (by omega) | exact flatv2 (by omega) (by omega) | exact flatv6 (by omega) (by omega) | exact flatv4 (by omega) (by omega) | exact flatw1 (by omega) (by omega) | exact flatw0 (by omega) (by omega) | exact flatw7 | exact rfl) (fun hp K O => ?_)
      rw [upA_upA] at K
      refine wp_iinc (pc := 84) dX12_people_84 rfl (by decide) ?_
      refine wp_goto (pc := 87) 59 dX12_people_87 (by decide) ?_
      refine wp_ls ?_ (ih (i + 1) (by omega) (by omega) _ _ _ _ K O (hP.st (by omega) hn hb rfl))
      repeat' (first | exact LE_0 | refine LE_s rfl ?_ | refine LE_s (I_c (by first | omega | (simp only [sm]; omega))) ?_ | refine LE_s (J_c (by first | omega | exact Int.pow_succ _ _ | exact (Int.pow_succ _ _).symm | exact (Int.pow_zero _).symm | (simp only [sm]; omega))) ?_ | refine LE_n ?_)
/-- at the head: more to come, or not -/
def PH (l : List Int) (N n : Nat) (C : Int → Int) (p : Nat) (w : Int) (mo : Prop) : Prop := (mo ∧ w = -1 ∧ PS l N n 0 C p w) ∨ (¬ mo ∧ ∃ m, n = m + 1 ∧ m ≤ 6 ∧ PS l N m 7 C p w ∧ FB l N p)
theorem PH.nx (h : PS l N n 7 C p w) (hn : n ≤ 6) : PH l N (n + 1) C (if w = -1 ∧ hr l 47 p = 59 then p + 1 else p) w (w = -1 ∧ hr l 47 p = 59) := by
  have h0 := h
  rcases h with ⟨h1, h2, h3, h4⟩ | ⟨h1, h2⟩
  · by_cases z : hr l 47 p = 59
    · rw [if_pos ⟨h1, z⟩]
      refine .inl ⟨⟨h1, z⟩, h1, .inl ⟨h1, by omega, fun p' hp' => ?_, fun m j hj hm => h4 m j hj (by omega)⟩⟩
      by_cases y : p' = p
      · subst y
        exact ⟨fun _ => by omega, fun _ => z, fun _ => by omega⟩
      · exact h3 p' (by omega)
    · rw [if_neg (by omega)]
      refine .inr ⟨fun y => z y.2, n, rfl, hn, h0, fun y => z (y.2.1 (by omega)), fun p' hp' => h3 p' (by omega)⟩
  · rw [if_neg (by omega)]
    exact .inr ⟨fun y => by omega, n, rfl, hn, h0, h2.1⟩
theorem PH.fu (h : PS l N n 0 C p w) (hw : w = -1) (hn : n + N = 6) : PH l N (n + 1) C p (p : Int) False := by
  rcases h with ⟨h1, h2, h3, h4⟩ | ⟨h1, h2⟩
  · have hF : FB l N p := ⟨fun y => by have := y.1 (by omega); omega, fun p' hp' => h3 p' (by omega)⟩
    exact .inr ⟨id, n, rfl, by omega, .inr ⟨rfl, hF, by omega⟩, hF⟩
  · omega
theorem PS.room (h : PS l N n 0 C p w) (hw : w = -1) (hN : N ≤ 6) : n + N ≤ 6 := by
  rcases h with ⟨h1, h2, h3, h4⟩ | ⟨h1, h2⟩
  · by_cases z : n = 0
    · omega
    · have := (h3 (8 * (n - 1)) (by omega)).1 (by omega)
      omega
  · omega
theorem PS.fu (h : PS l N n 0 C p w) (hw : w = -1) (hn : n + N = 6) : PS l N n 7 C p (p : Int) := by
  rcases h with ⟨h1, h2, h3, h4⟩ | ⟨h1, h2⟩
  · exact .inr ⟨rfl, ⟨fun y => by have := y.1 (by omega); omega, fun p' hp' => h3 p' (by omega)⟩, by omega⟩
  · omega
theorem lp_Ref_pp2 (L : RdL A V q rd l 47) (hb : byl l) (e1 : V 1 = (N : Int)) (hN : N ≤ 6) {Q : Option Value → Hp → Prop} (Kn : ∀ hp3 C (n : Nat) (p : Nat) (w : Int), ModAt hp3 q (pv V p w) (upA A 4 C) rd rl → SO hp hp3 q (q + 25) → (∃ m, n = m + 1 ∧ m ≤ 6 ∧ PS l N m 7 C p w ∧ FB l N p) → wp g MX12_people (rm 3 0 0) Q 0 0 103 [some (.ref q), some (.int (I (n : Int))), none, none, none] [] hp3) : ∀ (m i : Nat), 7 < i + m → i ≤ 7 → ∀ (hp2 : Hp) (C : Int → Int) (p : Nat) (w : Int) (mo : Prop) [Decidable mo] (K : ModAt hp2 q (pv V p w) (upA A 4 C) rd rl) (O : SO hp hp2 q (q + 25)) (hP : PH l N i C p w mo), wp g MX12_people (rm 3 0 0) Q 0 0 24 [some (.ref q), some (.int (I (i : Int))), some (.int (B mo)), none, none] [] hp2 := by
  intro m
  induction m with
  | zero => intro i h1 h2; exact absurd h1 (by omega)
  | succ m ih =>
    intro i h1 h2 hp2 C p w mo inst K O hP
    refine wp_iload_n (pc := 24) dX12_people_24 rfl ?_
    first | refine wp_ifb_eq (pc := 25) 103 dX12_people_25 (by decide) (fun c25 => ?_) (fun c25 => ?_) | refine wp_if_eq (pc := 25) 103 dX12_people_25 (by decide) (by first | omega | exact TI.i5 (by assumption) | exact TI.i3 (by assumption) | exact TI.i2 (by assumption) | exact TI.i1 (by assumption) | exact TI.i0 (by assumption) | exact TI.i4 (by assumption) | exact TI.i6 (by assumption) | exact TI.i7 (by assumption)) (fun c25 => ?_) (fun c25 => ?_)
    ·
      obtain ⟨c, -⟩ | ⟨-, hx⟩ := hP
      · exact absurd c c25
      · refine wp_ls ?_ (Kn hp2 C i p w K O hx)
        repeat' (first | exact LE_0 | refine LE_s rfl ?_ | refine LE_s (I_c (by first | omega | (simp only [sm]; omega))) ?_ | refine LE_s (J_c (by first | omega | exact Int.pow_succ _ _ | exact (Int.pow_succ _ _).symm | exact (Int.pow_zero _).symm | (simp only [sm]; omega))) ?_ | refine LE_n ?_)
    ·
      obtain ⟨-, hw, hP⟩ := hP.resolve_right (fun z => z.1 c25)
      have hroom := hP.room hw hN
      have hle := hP.le (by omega) (by omega) -- go
      refine wp_aload_n (pc := 28) dX12_people_28 rfl ?_
      refine wp_Vp (pc := 29) dX12_people_29 cl_X12_125 (sp_Ref_fine K (by omega)) rfl rfl K.1 (by rfl) (by decide) (Nat.le_of_ble_eq_true rfl) ?_
      first | refine wp_ifb_eq (pc := 32) 103 dX12_people_32 (by decide) (fun c32 => ?_) (fun c32 => ?_) | refine wp_if_eq (pc := 32) 103 dX12_people_32 (by decide) (by first | omega | exact TI.i5 (by assumption) | exact TI.i3 (by assumption) | exact TI.i2 (by assumption) | exact TI.i1 (by assumption) | exact TI.i0 (by assumption) | exact TI.i4 (by assumption) | exact TI.i6 (by assumption) | exact TI.i7 (by assumption)) (fun c32 => ?_) (fun c32 => ?_)
      ·
        exact absurd hw c32
      ·
        skip -- go
        refine wp_aload_n (pc := 35) dX12_people_35 rfl ?_
        refine wm_gets dX12_people_36 gf_X12_92 K (by rfl) (by repeat (first | assumption | exact pv10 | exact pv11 | (apply pv_o; decide; decide) | exact upN_eq | (apply upN_ne; decide) | (apply SV_at; assumption; decide) | exact rfl)) ?_
        refine wp_iload_n (pc := 39) dX12_people_39 rfl ?_
        refine wp_iadd (pc := 40) dX12_people_40 ?_
        refine wp_bipush (pc := 41) (y := 6) dX12_people_41 (by decide) ?_
        refine wp_icmp_ne (pc := 43) 57 dX12_people_43 (by decide) (by first | omega | exact TI.i5 (by assumption) | exact TI.i3 (by assumption) | exact TI.i2 (by assumption) | exact TI.i1 (by assumption) | exact TI.i0 (by assumption) | exact TI.i4 (by assumption) | exact TI.i6 (by assumption) | exact TI.i7 (by assumption)) (by first | omega | exact TI.i5 (by assumption) | exact TI.i3 (by assumption) | exact TI.i2 (by assumption) | exact TI.i1 (by assumption) | exact TI.i0 (by assumption) | exact TI.i4 (by assumption) | exact TI.i6 (by assumption) | exact TI.i7 (by assumption)) (fun c43 => ?_) (fun c43 => ?_)
        ·
          skip -- go
          refine wp_iconst (pc := 57) dX12_people_57 ?_
          refine wp_istore_n (pc := 58) dX12_people_58 (by decide) ?_
          refine wp_ls ?_ (lp_Ref_pp1 (N := N) (n := i) L (by omega) hb (fun hp3 C p w K O hP7 => ?_) 8 0 (by omega) (by omega) _ C p w K O hP)
          · repeat' (first | exact LE_0 | refine LE_s rfl ?_ | refine LE_s (I_c (by first | omega | (simp only [sm]; omega))) ?_ | refine LE_s (J_c (by first | omega | exact Int.pow_succ _ _ | exact (Int.pow_succ _ _).symm | exact (Int.pow_zero _).symm | (simp only [sm]; omega))) ?_ | refine LE_n ?_)
          ·
            have hle7 := hP7.le (by omega) (by omega)
            refine wp_iinc (pc := 90) dX12_people_90 rfl (by decide) ?_
            refine wp_aload_n (pc := 93) dX12_people_93 rfl ?_
            refine wp_bipush (pc := 94) (y := 59) dX12_people_94 (by decide) ?_
            refine wp_Vs (pc := 96) dX12_people_96 cl_X12_133 (sp_Ref_passes K (L.aa rfl rfl rfl) hle7.2 hle7.1 (by decide)) rfl rfl K.1 (by rfl) (by decide) (Nat.le_of_ble_eq_true rfl) (fun hp96 e96 => ?_)
            obtain ⟨K, O1⟩ := e96
            replace O := SO.tr O O1
            refine wp_istore_n (pc := 99) dX12_people_99 (by decide) ?_
            refine wp_goto (pc := 100) 24 dX12_people_100 (by decide) ?_
            refine wp_ls ?_ (ih (i + 1) (by omega) (by omega) _ _ _ _ _ K O (PH.nx hP7 (by omega)))
            repeat' (first | exact LE_0 | refine LE_s rfl ?_ | refine LE_s (I_c (by first | omega | (simp only [sm]; omega))) ?_ | refine LE_s (J_c (by first | omega | exact Int.pow_succ _ _ | exact (Int.pow_succ _ _).symm | exact (Int.pow_zero _).symm | (simp only [sm]; omega))) ?_ | refine LE_n ?_)
        ·
          have hP7 := hP.fu hw (by omega) -- go
          refine wp_aload_n (pc := 46) dX12_people_46 rfl ?_
          refine wp_aload_n (pc := 47) dX12_people_47 rfl ?_
          refine wm_gets dX12_people_48 gf_X12_115 K (by rfl) (by repeat (first | assumption | exact pv10 | exact pv11 | (apply pv_o; decide; decide) | exact upN_eq | (apply upN_ne; decide) | (apply SV_at; assumption; decide) | exact rfl)) ?_
          refine wp_Vn (pc := 51) dX12_people_51 cl_X12_137 (sp_Ref_fault K (by omega)) rfl rfl K.1 (by rfl) (by decide) (Nat.le_of_ble_eq_true rfl) (fun hp51 e51 => ?_)
          obtain ⟨K, O1⟩ := e51
          replace O := SO.tr O O1
          rw [if_pos hw] at K
          refine wp_goto (pc := 54) 90 dX12_people_54 (by decide) ?_
          have hle7 := hP7.le (by omega) (by omega)
          refine wp_iinc (pc := 90) dX12_people_90 rfl (by decide) ?_
          refine wp_aload_n (pc := 93) dX12_people_93 rfl ?_
          refine wp_bipush (pc := 94) (y := 59) dX12_people_94 (by decide) ?_
          refine wp_Vs (pc := 96) dX12_people_96 cl_X12_133 (sp_Ref_passes K (L.aa rfl rfl rfl) hle7.2 hle7.1 (by decide)) rfl rfl K.1 (by rfl) (by decide) (Nat.le_of_ble_eq_true rfl) (fun hp96 e96 => ?_)
          obtain ⟨K, O1⟩ := e96
          replace O := SO.tr O O1
          refine wp_istore_n (pc := 99) dX12_people_99 (by decide) ?_
          refine wp_goto (pc := 100) 24 dX12_people_100 (by decide) ?_
          refine wp_ls ?_ (ih (i + 1) (by omega) (by omega) _ _ _ _ _ K O (PH.nx hP7 (by omega)))
          repeat' (first | exact LE_0 | refine LE_s rfl ?_ | refine LE_s (I_c (by first | omega | (simp only [sm]; omega))) ?_ | refine LE_s (J_c (by first | omega | exact Int.pow_succ _ _ | exact (Int.pow_succ _ _).symm | exact (Int.pow_zero _).symm | (simp only [sm]; omega))) ?_ | refine LE_n ?_)
end MPa

