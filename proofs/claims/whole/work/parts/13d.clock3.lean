/-! Clock: the words ahead of an hour; an hour; hours -/
section CN
variable {g : GT} {hp hp2 : Hp} {C R h N n k i j s : Nat} {T : Nat → Int → Int} {F W f f' : Int → Int} {a b c x y p : Int} {cs : List Int}
abbrev rlv (T : Nat → Int → Int) (N i j : Nat) : Prop := i < N ∧ j < N ∧ ¬ T 5 (i : Int) = 0 ∧ i ≠ j ∧ (T 5 (i : Int) = 1 ∨ T 5 (j : Int) = 0)
/-- the words at hand hold what is said of those below a, and of a by those below b -/
def gaO (cs : List Int) (T : Nat → Int → Int) (N a b : Nat) (F : Int → Int) : Prop := ∀ i j : Nat, rlv T N i j → (i < a ∨ (i = a ∧ j < b)) → F ((j : Int) * 6 + i) = wv cs T j i
abbrev Off2 (hp hp2 : Hp) (R C : Nat) : Prop := hp2.1 = hp.1 ∧ ∀ x, (x < R ∨ R + 4 ≤ x) → x ≠ C + 1 → hp2.2 x = hp.2 x
theorem lp_gath2 (hI : TI T N) (hn : n < N) (hdead : ¬ T 5 (n : Int) = 0) (d1 : h + 8 ≤ C ∨ C + 2 ≤ h) (d2 : h + 8 ≤ R ∨ R + 4 ≤ h) (d3 : C + 2 ≤ R ∨ R + 4 ≤ C) {Q : Option Value → Hp → Prop} (K : ∀ hp3 F, hp3.2 C = some (.inr (.inr (0, [.ref (C + 1)]))) → hp3.2 (C + 1) = some (.inl (.int, 36, F)) → (∀ i, 0 ≤ F i ∧ F i ≤ 9) → TownAt hp3 h T → RuleAt hp3 R cs → gaO cs T N (n + 1) 0 F → Off2 hp hp3 R C → wp g MX0_gatherWords (rm 3 0 0) Q 0 0 95 [some (.ref C), some (.ref h), some (.ref R), some (.int (I (n : Int))), none, none] [] hp3) : ∀ (m i : Nat), N < i + m → i ≤ N → ∀ (hp2 : Hp) (F : Int → Int) (c0 : hp2.2 C = some (.inr (.inr (0, [.ref (C + 1)])))) (c1 : hp2.2 (C + 1) = some (.inl (.int, 36, F))) (rF : ∀ i, 0 ≤ F i ∧ F i ≤ 9) (hT : TownAt hp2 h T) (hR : RuleAt hp2 R cs) (hF : gaO cs T N n i F) (hS : Off2 hp hp2 R C), wp g MX0_gatherWords (rm 3 0 0) Q 0 0 41 [some (.ref C), some (.ref h), some (.ref R), some (.int (I (n : Int))), some (.int (B (T 5 (n : Int) = 1))), some (.int (I (i : Int)))] [] hp2 := by
  intro m
  induction m with
  | zero => intro i h1 h2; exact absurd h1 (by omega)
  | succ m ih =>
    intro i h1 h2 hp2 F c0 c1 rF hT hR hF hS
    have hI' := hI
    obtain ⟨i8, iN, i0, i1, i2, i3, i4, i5, i6, i7⟩ := hI
    have hT' := hT
    obtain ⟨t0, t1, t2, t3, t4, t5, t6, t7⟩ := hT
    have hR' := hR
    obtain ⟨⟨sk, lnn, at_, Sg, St, Sk, r0, rr⟩, hok⟩ := hR
    have hw := wv_in cs T (i : Int) (n : Int)
    refine wp_iload (pc := 41) dX0_gatherWords_41 rfl ?_
    refine wp_aload_n (pc := 43) dX0_gatherWords_43 rfl ?_
    refine wp_getf (pc := 44) dX0_gatherWords_44 gf_X0_40 (by repeat (first | assumption | exact hset_eq | refine hset_at (by omega) ?_)) (by rfl) ?_
    refine wp_icmp_ge (pc := 47) 95 dX0_gatherWords_47 (by decide) (by omega) (by omega) (fun c47 => ?_) (fun c47 => ?_)
    ·
      have e : i = N := by omega
      refine wp_ls ?_ (K hp2 F c0 c1 rF hT' hR' (fun a b z1 z2 => hF a b z1 (by have := z1.2.1; omega)) hS)
      repeat' (first | exact LE_0 | refine LE_s rfl ?_ | refine LE_s (I_c (by first | omega | (simp only [sm]; omega))) ?_ | refine LE_s (J_c (by first | omega | exact Int.pow_succ _ _ | exact (Int.pow_succ _ _).symm | exact (Int.pow_zero _).symm | (simp only [sm]; omega))) ?_ | refine LE_n ?_)
    ·
      refine wp_iload_n (pc := 50) dX0_gatherWords_50 rfl ?_
      refine wp_iload (pc := 51) dX0_gatherWords_51 rfl ?_
      refine wp_icmp_eq (pc := 53) 89 dX0_gatherWords_53 (by decide) (by omega) (by omega) (fun c53 => ?_) (fun c53 => ?_)
      ·
        have hno : gaO cs T N n (i + 1) F := fun a b z1 z2 => hF a b z1 (by have := z1.2.2.2.1; omega)
        skip -- go
        first
        | refine wp_iinc (pc := 89) dX0_gatherWords_89 rfl (by decide) ?_
          refine wp_goto (pc := 92) 41 dX0_gatherWords_92 (by decide) ?_
          refine wp_ls ?_ (ih (i + 1) (by omega) (by omega) hp2 F c0 c1 rF hT' hR' hno hS)
          repeat' (first | exact LE_0 | refine LE_s rfl ?_ | refine LE_s (I_c (by first | omega | (simp only [sm]; omega))) ?_ | refine LE_s (J_c (by first | omega | exact Int.pow_succ _ _ | exact (Int.pow_succ _ _).symm | exact (Int.pow_zero _).symm | (simp only [sm]; omega))) ?_ | refine LE_n ?_)
        | refine wp_iinc (pc := 89) dX0_gatherWords_89 rfl (by decide) ?_
          refine wp_goto (pc := 92) 41 dX0_gatherWords_92 (by decide) ?_
          refine wp_ls ?_ (ih (i + 1) (by omega) (by omega) _ (updI F ((i : Int) * 6 + n) (wv cs T i n)) (hset_at (by omega) ((e85.2.2 _ (by omega)).trans c0)) hset_eq (updI_all (P := fun x => 0 ≤ x ∧ x ≤ 9) rF hw) ((hT'.fr e85.2 (by omega)).off fun x z1 z2 => hset_ne (by omega)) (e85.1.off fun x z1 z2 => hset_ne (by omega)) (fun a b z1 z2 => ?_) ⟨e85.2.1.trans hS.1, fun x z1 z2 => (hset_ne z2).trans ((e85.2.2 x z1).trans (hS.2 x z1 z2))⟩)
          · repeat' (first | exact LE_0 | refine LE_s rfl ?_ | refine LE_s (I_c (by first | omega | (simp only [sm]; omega))) ?_ | refine LE_s (J_c (by first | omega | exact Int.pow_succ _ _ | exact (Int.pow_succ _ _).symm | exact (Int.pow_zero _).symm | (simp only [sm]; omega))) ?_ | refine LE_n ?_)
          · by_cases z : (b : Int) * 6 + a = (i : Int) * 6 + n
            · have q1 : a = n := by have := z1.1; omega
              have q2 : b = i := by omega
              rw [z, updI_eq, q1, q2]
            · rw [updI_ne z]; exact hF a b z1 (by have := z1.1; omega)
      ·
        refine wp_iload (pc := 56) dX0_gatherWords_56 rfl ?_
        first | refine wp_ifb_ne (pc := 58) 70 dX0_gatherWords_58 (by decide) (fun c58 => ?_) (fun c58 => ?_) | refine wp_if_ne (pc := 58) 70 dX0_gatherWords_58 (by decide) (by omega) (fun c58 => ?_) (fun c58 => ?_)
        ·
          refine wp_aload_n (pc := 70) dX0_gatherWords_70 rfl ?_
          refine wp_getf (pc := 71) dX0_gatherWords_71 gf_X0_9 (by repeat (first | assumption | exact hset_eq | refine hset_at (by omega) ?_)) (by rfl) ?_
          refine wp_iload (pc := 74) dX0_gatherWords_74 rfl ?_
          refine wp_iload_n (pc := 76) dX0_gatherWords_76 rfl ?_
          refine wp_Sp (pc := 77) dX0_gatherWords_77 cl_X0_50 sp_D_pair rfl rfl (by decide) (Nat.le_of_ble_eq_true rfl) ?_
          refine wp_aload_n (pc := 80) dX0_gatherWords_80 rfl ?_
          refine wp_aload_n (pc := 81) dX0_gatherWords_81 rfl ?_
          refine wp_iload (pc := 82) dX0_gatherWords_82 rfl ?_
          refine wp_iload_n (pc := 84) dX0_gatherWords_84 rfl ?_
          refine wp_Vs (pc := 85) dX0_gatherWords_85 cl_X0_54 (sp_Rule_words hR' hT' hI' (by omega) (by omega) d2) rfl rfl r0 (by rfl) (by decide) (Nat.le_of_ble_eq_true rfl) (fun hp85 e85 => ?_)
          refine wp_iast (pc := 88) (f := F) dX0_gatherWords_88 (by rw [e85.2.2 _ (by omega)]; exact c1) (by omega) (by omega) (by decide) ?_
          first
          | refine wp_iinc (pc := 89) dX0_gatherWords_89 rfl (by decide) ?_
            refine wp_goto (pc := 92) 41 dX0_gatherWords_92 (by decide) ?_
            refine wp_ls ?_ (ih (i + 1) (by omega) (by omega) hp2 F c0 c1 rF hT' hR' hno hS)
            repeat' (first | exact LE_0 | refine LE_s rfl ?_ | refine LE_s (I_c (by first | omega | (simp only [sm]; omega))) ?_ | refine LE_s (J_c (by first | omega | exact Int.pow_succ _ _ | exact (Int.pow_succ _ _).symm | exact (Int.pow_zero _).symm | (simp only [sm]; omega))) ?_ | refine LE_n ?_)
          | refine wp_iinc (pc := 89) dX0_gatherWords_89 rfl (by decide) ?_
            refine wp_goto (pc := 92) 41 dX0_gatherWords_92 (by decide) ?_
            refine wp_ls ?_ (ih (i + 1) (by omega) (by omega) _ (updI F ((i : Int) * 6 + n) (wv cs T i n)) (hset_at (by omega) ((e85.2.2 _ (by omega)).trans c0)) hset_eq (updI_all (P := fun x => 0 ≤ x ∧ x ≤ 9) rF hw) ((hT'.fr e85.2 (by omega)).off fun x z1 z2 => hset_ne (by omega)) (e85.1.off fun x z1 z2 => hset_ne (by omega)) (fun a b z1 z2 => ?_) ⟨e85.2.1.trans hS.1, fun x z1 z2 => (hset_ne z2).trans ((e85.2.2 x z1).trans (hS.2 x z1 z2))⟩)
            · repeat' (first | exact LE_0 | refine LE_s rfl ?_ | refine LE_s (I_c (by first | omega | (simp only [sm]; omega))) ?_ | refine LE_s (J_c (by first | omega | exact Int.pow_succ _ _ | exact (Int.pow_succ _ _).symm | exact (Int.pow_zero _).symm | (simp only [sm]; omega))) ?_ | refine LE_n ?_)
            · by_cases z : (b : Int) * 6 + a = (i : Int) * 6 + n
              · have q1 : a = n := by have := z1.1; omega
                have q2 : b = i := by omega
                rw [z, updI_eq, q1, q2]
              · rw [updI_ne z]; exact hF a b z1 (by have := z1.1; omega)
        ·
          refine wp_aload_n (pc := 61) dX0_gatherWords_61 rfl ?_
          refine wp_iload (pc := 62) dX0_gatherWords_62 rfl ?_
          refine wp_Vp (pc := 64) dX0_gatherWords_64 cl_X0_43 (sp_Town_lives hT' hI' (by omega) (by omega)) rfl rfl (by repeat (first | assumption | exact hset_eq | refine hset_at (by omega) ?_)) (by rfl) (by decide) (Nat.le_of_ble_eq_true rfl) ?_
          first | refine wp_ifb_eq (pc := 67) 89 dX0_gatherWords_67 (by decide) (fun c67 => ?_) (fun c67 => ?_) | refine wp_if_eq (pc := 67) 89 dX0_gatherWords_67 (by decide) (by omega) (fun c67 => ?_) (fun c67 => ?_)
          ·
            have hno : gaO cs T N n (i + 1) F := fun a b z1 z2 => hF a b z1 (by rcases z2 with z | ⟨z, y⟩; exact Or.inl z; by_cases e : b = i; exact absurd z1.2.2.2.2 (by rw [z, e]; intro q; rcases q with q | q; exact c58 q; exact c67 q); exact Or.inr ⟨z, by omega⟩)
            skip -- go
            first
            | refine wp_iinc (pc := 89) dX0_gatherWords_89 rfl (by decide) ?_
              refine wp_goto (pc := 92) 41 dX0_gatherWords_92 (by decide) ?_
              refine wp_ls ?_ (ih (i + 1) (by omega) (by omega) hp2 F c0 c1 rF hT' hR' hno hS)
              repeat' (first | exact LE_0 | refine LE_s rfl ?_ | refine LE_s (I_c (by first | omega | (simp only [sm]; omega))) ?_ | refine LE_s (J_c (by first | omega | exact Int.pow_succ _ _ | exact (Int.pow_succ _ _).symm | exact (Int.pow_zero _).symm | (simp only [sm]; omega))) ?_ | refine LE_n ?_)
            | refine wp_iinc (pc := 89) dX0_gatherWords_89 rfl (by decide) ?_
              refine wp_goto (pc := 92) 41 dX0_gatherWords_92 (by decide) ?_
              refine wp_ls ?_ (ih (i + 1) (by omega) (by omega) _ (updI F ((i : Int) * 6 + n) (wv cs T i n)) (hset_at (by omega) ((e85.2.2 _ (by omega)).trans c0)) hset_eq (updI_all (P := fun x => 0 ≤ x ∧ x ≤ 9) rF hw) ((hT'.fr e85.2 (by omega)).off fun x z1 z2 => hset_ne (by omega)) (e85.1.off fun x z1 z2 => hset_ne (by omega)) (fun a b z1 z2 => ?_) ⟨e85.2.1.trans hS.1, fun x z1 z2 => (hset_ne z2).trans ((e85.2.2 x z1).trans (hS.2 x z1 z2))⟩)
              · repeat' (first | exact LE_0 | refine LE_s rfl ?_ | refine LE_s (I_c (by first | omega | (simp only [sm]; omega))) ?_ | refine LE_s (J_c (by first | omega | exact Int.pow_succ _ _ | exact (Int.pow_succ _ _).symm | exact (Int.pow_zero _).symm | (simp only [sm]; omega))) ?_ | refine LE_n ?_)
              · by_cases z : (b : Int) * 6 + a = (i : Int) * 6 + n
                · have q1 : a = n := by have := z1.1; omega
                  have q2 : b = i := by omega
                  rw [z, updI_eq, q1, q2]
                · rw [updI_ne z]; exact hF a b z1 (by have := z1.1; omega)
          ·
            refine wp_aload_n (pc := 70) dX0_gatherWords_70 rfl ?_
            refine wp_getf (pc := 71) dX0_gatherWords_71 gf_X0_9 (by repeat (first | assumption | exact hset_eq | refine hset_at (by omega) ?_)) (by rfl) ?_
            refine wp_iload (pc := 74) dX0_gatherWords_74 rfl ?_
            refine wp_iload_n (pc := 76) dX0_gatherWords_76 rfl ?_
            refine wp_Sp (pc := 77) dX0_gatherWords_77 cl_X0_50 sp_D_pair rfl rfl (by decide) (Nat.le_of_ble_eq_true rfl) ?_
            refine wp_aload_n (pc := 80) dX0_gatherWords_80 rfl ?_
            refine wp_aload_n (pc := 81) dX0_gatherWords_81 rfl ?_
            refine wp_iload (pc := 82) dX0_gatherWords_82 rfl ?_
            refine wp_iload_n (pc := 84) dX0_gatherWords_84 rfl ?_
            refine wp_Vs (pc := 85) dX0_gatherWords_85 cl_X0_54 (sp_Rule_words hR' hT' hI' (by omega) (by omega) d2) rfl rfl r0 (by rfl) (by decide) (Nat.le_of_ble_eq_true rfl) (fun hp85 e85 => ?_)
            refine wp_iast (pc := 88) (f := F) dX0_gatherWords_88 (by rw [e85.2.2 _ (by omega)]; exact c1) (by omega) (by omega) (by decide) ?_
            first
            | refine wp_iinc (pc := 89) dX0_gatherWords_89 rfl (by decide) ?_
              refine wp_goto (pc := 92) 41 dX0_gatherWords_92 (by decide) ?_
              refine wp_ls ?_ (ih (i + 1) (by omega) (by omega) hp2 F c0 c1 rF hT' hR' hno hS)
              repeat' (first | exact LE_0 | refine LE_s rfl ?_ | refine LE_s (I_c (by first | omega | (simp only [sm]; omega))) ?_ | refine LE_s (J_c (by first | omega | exact Int.pow_succ _ _ | exact (Int.pow_succ _ _).symm | exact (Int.pow_zero _).symm | (simp only [sm]; omega))) ?_ | refine LE_n ?_)
            | refine wp_iinc (pc := 89) dX0_gatherWords_89 rfl (by decide) ?_
              refine wp_goto (pc := 92) 41 dX0_gatherWords_92 (by decide) ?_
              refine wp_ls ?_ (ih (i + 1) (by omega) (by omega) _ (updI F ((i : Int) * 6 + n) (wv cs T i n)) (hset_at (by omega) ((e85.2.2 _ (by omega)).trans c0)) hset_eq (updI_all (P := fun x => 0 ≤ x ∧ x ≤ 9) rF hw) ((hT'.fr e85.2 (by omega)).off fun x z1 z2 => hset_ne (by omega)) (e85.1.off fun x z1 z2 => hset_ne (by omega)) (fun a b z1 z2 => ?_) ⟨e85.2.1.trans hS.1, fun x z1 z2 => (hset_ne z2).trans ((e85.2.2 x z1).trans (hS.2 x z1 z2))⟩)
              · repeat' (first | exact LE_0 | refine LE_s rfl ?_ | refine LE_s (I_c (by first | omega | (simp only [sm]; omega))) ?_ | refine LE_s (J_c (by first | omega | exact Int.pow_succ _ _ | exact (Int.pow_succ _ _).symm | exact (Int.pow_zero _).symm | (simp only [sm]; omega))) ?_ | refine LE_n ?_)
              · by_cases z : (b : Int) * 6 + a = (i : Int) * 6 + n
                · have q1 : a = n := by have := z1.1; omega
                  have q2 : b = i := by omega
                  rw [z, updI_eq, q1, q2]
                · rw [updI_ne z]; exact hF a b z1 (by have := z1.1; omega)
theorem lp_gath1 (hI : TI T N) (d1 : h + 8 ≤ C ∨ C + 2 ≤ h) (d2 : h + 8 ≤ R ∨ R + 4 ≤ h) (d3 : C + 2 ≤ R ∨ R + 4 ≤ C) : ∀ (m i : Nat), N < i + m → i ≤ N → ∀ (hp2 : Hp) (F : Int → Int) (c0 : hp2.2 C = some (.inr (.inr (0, [.ref (C + 1)])))) (c1 : hp2.2 (C + 1) = some (.inl (.int, 36, F))) (rF : ∀ i, 0 ≤ F i ∧ F i ≤ 9) (hT : TownAt hp2 h T) (hR : RuleAt hp2 R cs) (hF : gaO cs T N i 0 F) (hS : Off2 hp hp2 R C), wp g MX0_gatherWords (rm 3 0 0) (Vod (fun hp2 => (∃ F, hp2.2 (C + 1) = some (.inl (.int, 36, F)) ∧ (∀ i, 0 ≤ F i ∧ F i ≤ 9) ∧ gaO cs T N N 0 F) ∧ RuleAt hp2 R cs ∧ Off2 hp hp2 R C)) 0 0 2 [some (.ref C), some (.ref h), some (.ref R), some (.int (I (i : Int))), none, none] [] hp2 := by
  intro m
  induction m with
  | zero => intro i h1 h2; exact absurd h1 (by omega)
  | succ m ih =>
    intro i h1 h2 hp2 F c0 c1 rF hT hR hF hS
    have hI' := hI
    obtain ⟨i8, iN, i0, i1, i2, i3, i4, i5, i6, i7⟩ := hI
    have hT' := hT
    obtain ⟨t0, t1, t2, t3, t4, t5, t6, t7⟩ := hT
    have h5 := i5 (i : Int)
    have K : ∀ hp3 F, hp3.2 C = some (.inr (.inr (0, [.ref (C + 1)]))) → hp3.2 (C + 1) = some (.inl (.int, 36, F)) → (∀ i, 0 ≤ F i ∧ F i ≤ 9) → TownAt hp3 h T → RuleAt hp3 R cs → gaO cs T N (i + 1) 0 F → Off2 hp hp3 R C → i < N → wp g MX0_gatherWords (rm 3 0 0) (Vod (fun hp2 => (∃ F, hp2.2 (C + 1) = some (.inl (.int, 36, F)) ∧ (∀ i, 0 ≤ F i ∧ F i ≤ 9) ∧ gaO cs T N N 0 F) ∧ RuleAt hp2 R cs ∧ Off2 hp hp2 R C)) 0 0 95 [some (.ref C), some (.ref h), some (.ref R), some (.int (I (i : Int))), none, none] [] hp3 := by
      intro hp3 F3 z1 z2 z3 z4 z5 z6 z7 hi
      refine wp_iinc (pc := 95) dX0_gatherWords_95 rfl (by decide) ?_
      refine wp_goto (pc := 98) 2 dX0_gatherWords_98 (by decide) ?_
      exact ih (i + 1) (by omega) (by omega) hp3 F3 z1 z2 z3 z4 z5 z6 z7
    refine wp_iload_n (pc := 2) dX0_gatherWords_2 rfl ?_
    refine wp_aload_n (pc := 3) dX0_gatherWords_3 rfl ?_
    refine wp_getf (pc := 4) dX0_gatherWords_4 gf_X0_40 (by repeat (first | assumption | exact hset_eq | refine hset_at (by omega) ?_)) (by rfl) ?_
    refine wp_icmp_ge (pc := 7) 101 dX0_gatherWords_7 (by decide) (by omega) (by omega) (fun c7 => ?_) (fun c7 => ?_)
    ·
      have e : i = N := by omega
      subst e -- go
      exact wp_vr (pc := 101) dX0_gatherWords_101 rfl (by decide) (by decide) ⟨⟨F, c1, rF, hF⟩, hR, hS⟩
    ·
      refine wp_aload_n (pc := 10) dX0_gatherWords_10 rfl ?_
      refine wp_iload_n (pc := 11) dX0_gatherWords_11 rfl ?_
      refine wp_Vp (pc := 12) dX0_gatherWords_12 cl_X0_43 (sp_Town_lives hT' hI' (by omega) (by omega)) rfl rfl (by repeat (first | assumption | exact hset_eq | refine hset_at (by omega) ?_)) (by rfl) (by decide) (Nat.le_of_ble_eq_true rfl) ?_
      first | refine wp_ifb_eq (pc := 15) 21 dX0_gatherWords_15 (by decide) (fun c15 => ?_) (fun c15 => ?_) | refine wp_if_eq (pc := 15) 21 dX0_gatherWords_15 (by decide) (by omega) (fun c15 => ?_) (fun c15 => ?_)
      ·
        refine wp_aload_n (pc := 21) dX0_gatherWords_21 rfl ?_
        refine wp_getf (pc := 22) dX0_gatherWords_22 gf_X0_47 (by repeat (first | assumption | exact hset_eq | refine hset_at (by omega) ?_)) (by rfl) ?_
        refine wp_iload_n (pc := 25) dX0_gatherWords_25 rfl ?_
        refine wp_iald (pc := 26) dX0_gatherWords_26 (by repeat (first | assumption | exact hset_eq | refine hset_at (by omega) ?_)) (by omega) (by omega) (by decide) ?_
        refine wp_iconst (pc := 27) dX0_gatherWords_27 ?_
        refine wp_icmp_ne (pc := 28) 35 dX0_gatherWords_28 (by decide) (by omega) (by omega) (fun c28 => ?_) (fun c28 => ?_)
        ·
          refine wp_iconst (pc := 35) dX0_gatherWords_35 ?_
          refine wp_topB (q := T 5 (i : Int) = 1) (by first | rw [if_pos (by omega)] | rw [if_neg (by omega)]) ?_
          refine wp_istore (pc := 36) dX0_gatherWords_36 (by decide) ?_
          refine wp_iconst (pc := 38) dX0_gatherWords_38 ?_
          refine wp_istore (pc := 39) dX0_gatherWords_39 (by decide) ?_
          refine wp_ls ?_ (lp_gath2 (hp := hp) (n := i) (cs := cs) hI' (by omega) c15 d1 d2 d3 (fun hp3 F3 z1 z2 z3 z4 z5 z6 z7 => K hp3 F3 z1 z2 z3 z4 z5 z6 z7 (by omega)) (N + 1) 0 (by omega) (by omega) hp2 F c0 c1 rF hT' hR hF hS)
          repeat' (first | exact LE_0 | refine LE_s rfl ?_ | refine LE_s (I_c (by first | omega | (simp only [sm]; omega))) ?_ | refine LE_s (J_c (by first | omega | exact Int.pow_succ _ _ | exact (Int.pow_succ _ _).symm | exact (Int.pow_zero _).symm | (simp only [sm]; omega))) ?_ | refine LE_n ?_)
        ·
          refine wp_iconst (pc := 31) dX0_gatherWords_31 ?_
          refine wp_goto (pc := 32) 36 dX0_gatherWords_32 (by decide) ?_
          refine wp_topB (q := T 5 (i : Int) = 1) (by first | rw [if_pos (by omega)] | rw [if_neg (by omega)]) ?_
          refine wp_istore (pc := 36) dX0_gatherWords_36 (by decide) ?_
          refine wp_iconst (pc := 38) dX0_gatherWords_38 ?_
          refine wp_istore (pc := 39) dX0_gatherWords_39 (by decide) ?_
          refine wp_ls ?_ (lp_gath2 (hp := hp) (n := i) (cs := cs) hI' (by omega) c15 d1 d2 d3 (fun hp3 F3 z1 z2 z3 z4 z5 z6 z7 => K hp3 F3 z1 z2 z3 z4 z5 z6 z7 (by omega)) (N + 1) 0 (by omega) (by omega) hp2 F c0 c1 rF hT' hR hF hS)
          repeat' (first | exact LE_0 | refine LE_s rfl ?_ | refine LE_s (I_c (by first | omega | (simp only [sm]; omega))) ?_ | refine LE_s (J_c (by first | omega | exact Int.pow_succ _ _ | exact (Int.pow_succ _ _).symm | exact (Int.pow_zero _).symm | (simp only [sm]; omega))) ?_ | refine LE_n ?_)
      ·
        refine wp_goto (pc := 18) 95 dX0_gatherWords_18 (by decide) ?_
        refine wp_ls ?_ (K hp2 F c0 c1 rF hT' hR (fun a b z1 z2 => hF a b z1 (by have := z1.2.2.1; by_cases q : a = i; exact absurd c15 (by rw [← q]; exact this); omega)) hS (by omega))
        repeat' (first | exact LE_0 | refine LE_s rfl ?_ | refine LE_s (I_c (by first | omega | (simp only [sm]; omega))) ?_ | refine LE_s (J_c (by first | omega | exact Int.pow_succ _ _ | exact (Int.pow_succ _ _).symm | exact (Int.pow_zero _).symm | (simp only [sm]; omega))) ?_ | refine LE_n ?_)
theorem sp_Clock_gatherWords (hT : TownAt hp h T) (hI : TI T N) (hC : ClockAt hp C) (hR : RuleAt hp R cs) (d1 : h + 8 ≤ C ∨ C + 2 ≤ h) (d2 : h + 8 ≤ R ∨ R + 4 ≤ h) (d3 : C + 2 ≤ R ∨ R + 4 ≤ C) : Sp g MX0_gatherWords (rm 3 0 0) [.ref C, .ref h, .ref R] hp (Vod (fun hp2 => (∃ F, hp2.2 (C + 1) = some (.inl (.int, 36, F)) ∧ (∀ i, 0 ≤ F i ∧ F i ≤ 9) ∧ gaO cs T N N 0 F) ∧ RuleAt hp2 R cs ∧ Off2 hp hp2 R C)) := by
  obtain ⟨c0, F, c1, rF⟩ := hC
  refine Sp_mk rfl (Nat.le_of_ble_eq_true rfl) ?_
  show wp g _ _ _ 0 0 0 [some (.ref C), some (.ref h), some (.ref R), none, none, none] [] hp
  refine wp_iconst (pc := 0) dX0_gatherWords_0 ?_
  refine wp_istore_n (pc := 1) dX0_gatherWords_1 (by decide) ?_
  refine wp_ls ?_ (lp_gath1 hI d1 d2 d3 (N + 1) 0 (by omega) (by omega) hp F c0 c1 rF hT hR (fun a b z1 z2 => by omega) ⟨rfl, fun _ _ _ => rfl⟩)
  repeat' (first | exact LE_0 | refine LE_s rfl ?_ | refine LE_s (I_c (by first | omega | (simp only [sm]; omega))) ?_ | refine LE_s (J_c (by first | omega | exact Int.pow_succ _ _ | exact (Int.pow_succ _ _).symm | exact (Int.pow_zero _).symm | (simp only [sm]; omega))) ?_ | refine LE_n ?_)
/-- what anyone says of anyone -/
def iw (cs : List Int) (T : Nat → Int → Int) : Int → Int := fun x => wv cs T (x / 6) (x % 6)
theorem iw_in (cs : List Int) (T : Nat → Int → Int) : ∀ x, 0 ≤ iw cs T x ∧ iw cs T x ≤ 9 := fun x => wv_in cs T _ _
/-- nobody has heard oneself -/
def HS (T : Nat → Int → Int) : Prop := ∀ i : Nat, i < 6 → (T 6 (i : Int)).toNat.testBit i = false
theorem he_eq (hI : TI T N) (hF : gaO cs T N N 0 F) : heT F T N N = heT (iw cs T) T N N := by
  unfold heT
  have e : upto (T 3) (heH F T N) (N : Int) = upto (T 3) (heH (iw cs T) T N) (N : Int) := by
    funext x
    unfold upto
    by_cases z : 0 ≤ x ∧ x < (N : Int)
    · rw [if_pos z, if_pos z]
      unfold heH
      by_cases z5 : T 5 x = 0
      · rw [if_pos z5, if_pos z5]
      · rw [if_neg z5, if_neg z5]
        congr 2
        refine sm_congr fun i hi => ?_
        rw [Int.toNat_natCast, bits_test]
        by_cases zl : T 5 (i : Int) = 0
        · have ex : x = ((x.toNat : Nat) : Int) := by omega
          have hne : x.toNat ≠ i := fun q => z5 (by rw [ex, q]; exact zl)
          have := hF x.toNat i ⟨by omega, hi, by rw [← ex]; exact z5, hne, Or.inr zl⟩ (Or.inl (by omega))
          rw [if_pos (by simp [lv, zl, hi]), if_pos (by simp [lv, zl, hi])]
          rw [← ex] at this
          rw [this]
          unfold iw
          rw [show ((i : Int) * 6 + x) / 6 = i by have := hI.2.1; omega, show ((i : Int) * 6 + x) % 6 = x by have := hI.2.1; omega]
        · rw [if_neg (by simp [lv, zl]), if_neg (by simp [lv, zl])]
    · rw [if_neg z, if_neg z]
  rw [e]
theorem he_HS (hI : TI T N) (hH : HS T) : HS (heT W T N N) := by
  intro i hi
  show (upto (T 6) (heB T N) (N : Int) (i : Int)).toNat.testBit i = false
  have h1 := hH i hi
  unfold upto heB
  split
  · split
    · exact h1
    · rename_i z1 z2
      rw [Int.toNat_natCast, Nat.testBit_or, h1, bits_test]
      simp [lv, z2]
  · exact h1
theorem wk_eq {T' : Nat → Int → Int} (hN : N ≤ 6) (h5 : T' 5 = T 5) (hH : HS T') (hF : gaO cs T N N 0 F) : wkT F T' N N = wkT (iw cs T) T' N N := by
  unfold wkT
  have e : upto (T' 0) (wkO F T' N) ((N : Int) * 6) = upto (T' 0) (wkO (iw cs T) T' N) ((N : Int) * 6) := by
    funext x
    unfold upto
    by_cases z : 0 ≤ x ∧ x < (N : Int) * 6
    · rw [if_pos z, if_pos z]
      unfold wkO
      by_cases y : T' 5 (x / 6) = 1 ∧ x % 6 < (N : Int)
      · rw [if_pos y, if_pos y]
        unfold lrf
        by_cases q : (T' 6 (x / 6)).toNat.testBit (x % 6).toNat = true
        · rw [if_pos q, if_pos q]
          have e1 : x / 6 = ((x / 6).toNat : Int) := by omega
          have e2 : x % 6 = ((x % 6).toNat : Int) := by omega
          have hne : (x / 6).toNat ≠ (x % 6).toNat := fun w => by
            have := hH (x % 6).toNat (by omega)
            rw [← w, ← e1, w, q] at this
            cases this
          rw [h5] at y
          have := hF (x / 6).toNat (x % 6).toNat ⟨by omega, by omega, by rw [← e1]; omega, hne, Or.inl (by rw [← e1]; exact y.1)⟩ (Or.inl (by omega))
          rw [← e1, ← e2] at this
          rw [this]
          unfold iw
          rw [show (x % 6 * 6 + x / 6) / 6 = x % 6 by omega, show (x % 6 * 6 + x / 6) % 6 = x / 6 by omega]
        · rw [if_neg q, if_neg q]
      · rw [if_neg y, if_neg y]
    · rw [if_neg z, if_neg z]
  rw [e]
/-- AN HOUR -/
def pas0 (cs : List Int) (T : Nat → Int → Int) (N : Nat) : Nat → Int → Int := wkT (iw cs T) (grT (heT (iw cs T) T N N) N ((N : Int) * 6)) N N
def pasT (cs : List Int) (T : Nat → Int → Int) (N : Nat) : Nat → Int → Int := one (pas0 cs T N) 7 (fun _ => T 7 0 + 1)
theorem pas0_I (hI : TI T N) : TI (pas0 cs T N) N := wkT_I (grT_I (heT_I hI (iw_in cs T))) (iw_in cs T)
theorem pasT_I (hI : TI T N) (hh : T 7 0 + 1 < 2000000000) : TI (pasT cs T N) N := by
  obtain ⟨i8, iN, i0, i1, i2, i3, i4, i5, i6, i7⟩ := pas0_I (cs := cs) hI
  exact ⟨i8, iN, i0, i1, i2, i3, i4, i5, i6, by show 0 ≤ T 7 0 + 1; have := hI.2.2.2.2.2.2.2.2.2; omega, hh⟩
theorem pasT_HS (hI : TI T N) (hH : HS T) : HS (pasT cs T N) := fun i hi => he_HS (W := iw cs T) hI hH i hi
theorem sp_Clock_pass (hT : TownAt hp h T) (hI : TI T N) (hH : HS T) (hC : ClockAt hp C) (hR : RuleAt hp R cs) (d1 : h + 8 ≤ C ∨ C + 2 ≤ h) (d2 : h + 8 ≤ R ∨ R + 4 ≤ h) (d3 : C + 2 ≤ R ∨ R + 4 ≤ C) : Sp g MX0_pass (rm 4 0 0) [.ref C, .ref h, .ref R] hp (Eff (.int (I ((wkc T N : Nat) : Int))) (fun hp2 => TownAt hp2 h (pasT cs T N) ∧ ClockAt hp2 C ∧ RuleAt hp2 R cs ∧ hp2.1 = hp.1 ∧ ∀ x, (x < R ∨ R + 4 ≤ x) → (x < C ∨ C + 2 ≤ x) → (x < h ∨ h + 8 ≤ x) → hp2.2 x = hp.2 x)) := by
  have hC' := hC
  obtain ⟨c0, F0, c10, rF0⟩ := hC
  refine Sp_mk rfl (Nat.le_of_ble_eq_true rfl) ?_
  show wp g _ _ _ 0 0 0 [some (.ref C), some (.ref h), some (.ref R), none] [] hp
  refine wp_aload_n (pc := 0) dX0_pass_0 rfl ?_
  refine wp_aload_n (pc := 1) dX0_pass_1 rfl ?_
  refine wp_aload_n (pc := 2) dX0_pass_2 rfl ?_
  refine wp_Vn (pc := 3) dX0_pass_3 cl_X0_19 (sp_Clock_gatherWords hT hI hC' hR d1 d2 d3) rfl rfl (by repeat (first | assumption | exact hset_eq | refine hset_at (by omega) ?_)) (by rfl) (by decide) (Nat.le_of_ble_eq_true rfl) (fun hp3 e3 => ?_)
  obtain ⟨⟨F, c1, rF, hF⟩, hR3, hS3⟩ := e3
  have hT3 : TownAt hp3 h T := hT.off fun x z1 z2 => hS3.2 x (by omega) (by omega)
  have c03 := (hS3.2 C (by omega) (by omega)).trans c0
  have hI3 := heT_I (x := (N : Int)) hI rF
  have hH3 := he_HS (W := F) hI hH
  refine wp_aload_n (pc := 6) dX0_pass_6 rfl ?_
  refine wp_aload_n (pc := 7) dX0_pass_7 rfl ?_
  refine wp_Vn (pc := 8) dX0_pass_8 cl_X0_23 (sp_Clock_hear hT3 hI c03 c1 rF d1) rfl rfl (by repeat (first | assumption | exact hset_eq | refine hset_at (by omega) ?_)) (by rfl) (by decide) (Nat.le_of_ble_eq_true rfl) (fun hp8 e8 => ?_)
  obtain ⟨hT8, hS8⟩ := e8
  have c08 := (hS8.2 C (by omega)).trans c03
  have c18 := (hS8.2 (C + 1) (by omega)).trans c1
  refine wp_aload_n (pc := 11) dX0_pass_11 rfl ?_
  refine wp_aload_n (pc := 12) dX0_pass_12 rfl ?_
  refine wp_Vn (pc := 13) dX0_pass_13 cl_X0_27 (sp_Clock_growDebts hT8 hI3) rfl rfl (by repeat (first | assumption | exact hset_eq | refine hset_at (by omega) ?_)) (by rfl) (by decide) (Nat.le_of_ble_eq_true rfl) (fun hp13 e13 => ?_)
  obtain ⟨hT13, hS13⟩ := e13
  have c013 := (hS13.2 C (by omega)).trans c08
  have c113 := (hS13.2 (C + 1) (by omega)).trans c18
  have hI13 := grT_I (x := (N : Int) * 6) hI3
  refine wp_aload_n (pc := 16) dX0_pass_16 rfl ?_
  refine wp_aload_n (pc := 17) dX0_pass_17 rfl ?_
  refine wp_Vs (pc := 18) dX0_pass_18 cl_X0_30 (sp_Clock_wake hT13 hI13 c013 c113 rF d1) rfl rfl (by repeat (first | assumption | exact hset_eq | refine hset_at (by omega) ?_)) (by rfl) (by decide) (Nat.le_of_ble_eq_true rfl) (fun hp18 e18 => ?_)
  obtain ⟨hT18, hS18⟩ := e18
  have ew : wkT F (grT (heT F T N N) N ((N : Int) * 6)) N N = pas0 cs T N := by
    rw [wk_eq (T := T) (T' := grT (heT F T N N) N ((N : Int) * 6)) (cs := cs) hI.2.1 rfl (fun i hi => hH3 i hi) hF, he_eq hI hF]
    rfl
  rw [ew] at hT18
  have hh7 : pas0 cs T N 7 0 = T 7 0 := rfl
  have hT18' := hT18
  obtain ⟨t0, t1, t2, t3, t4, t5, t6, t7⟩ := hT18
  refine wp_istore_n (pc := 21) dX0_pass_21 (by decide) ?_
  refine wp_aload_n (pc := 22) dX0_pass_22 rfl ?_
  refine wp_dup (pc := 23) dX0_pass_23 rfl ?_
  refine wp_getf (pc := 24) dX0_pass_24 gf_X0_34 t0 (by rfl) ?_
  refine wp_iconst (pc := 27) dX0_pass_27 ?_
  refine wp_iadd (pc := 28) dX0_pass_28 ?_
  refine wp_putf (pc := 29) dX0_pass_29 pf_X0_34 t0 (by first | decide | exact Nat.lt_of_sub_pos (by decide) | simp) rfl rfl (by first | decide | intro h; cases h) ?_
  refine wp_iload_n (pc := 32) dX0_pass_32 rfl ?_
  exact wp_ir (pc := 33) dX0_pass_33 rfl (by decide) (by decide) (by first | rfl | omega) ⟨⟨hset_eq, hset_at (by omega) t1, hset_at (by omega) t2, hset_at (by omega) t3, hset_at (by omega) t4, hset_at (by omega) t5, hset_at (by omega) t6, hset_at (by omega) t7⟩, ⟨hset_at (by omega) ((hS18.2 C (by omega)).trans c013), F, hset_at (by omega) ((hS18.2 (C + 1) (by omega)).trans c113), rF⟩, hR3.off (fun x z1 z2 => (hset_ne (by omega)).trans ((hS18.2 x (by omega)).trans ((hS13.2 x (by omega)).trans (hS8.2 x (by omega))))), hS18.1.trans (hS13.1.trans (hS8.1.trans hS3.1)), fun x z1 z2 z3 => (hset_ne (by omega)).trans ((hS18.2 x z3).trans ((hS13.2 x z3).trans ((hS8.2 x z3).trans (hS3.2 x z1 (by omega)))))⟩
/-- HOURS, nothing being done; how often one came to live in them -/
def runT (cs : List Int) (T : Nat → Int → Int) (N : Nat) : Nat → Nat → Int → Int
  | 0 => T
  | k + 1 => pasT cs (runT cs T N k) N
def runW (cs : List Int) (T : Nat → Int → Int) (N : Nat) : Nat → Nat
  | 0 => 0
  | k + 1 => runW cs T N k + wkc (runT cs T N k) N
theorem runT_7 (cs : List Int) (T : Nat → Int → Int) (N : Nat) : ∀ k : Nat, runT cs T N k 7 0 = T 7 0 + k
  | 0 => by show T 7 0 = T 7 0 + 0; omega
  | k + 1 => by
    show runT cs T N k 7 0 + 1 = _
    rw [runT_7 cs T N k]
    omega
theorem runT_I (hI : TI T N) : ∀ k : Nat, T 7 0 + k < 2000000000 → TI (runT cs T N k) N
  | 0, _ => hI
  | k + 1, h => pasT_I (runT_I hI k (by omega)) (by rw [runT_7]; omega)
theorem runT_HS (hI : TI T N) (hH : HS T) : ∀ k : Nat, T 7 0 + k < 2000000000 → HS (runT cs T N k)
  | 0, _ => hH
  | k + 1, h => pasT_HS (runT_I hI k (by omega)) (runT_HS hI hH k (by omega))
theorem lp_run (hI : TI T N) (hH : HS T) (hb : T 7 0 + n < 2000000000) (hn : n < 1000) (d1 : h + 8 ≤ C ∨ C + 2 ≤ h) (d2 : h + 8 ≤ R ∨ R + 4 ≤ h) (d3 : C + 2 ≤ R ∨ R + 4 ≤ C) : ∀ (m i : Nat), n < i + m → i ≤ n → ∀ (hp2 : Hp) (hT : TownAt hp2 h (runT cs T N i)) (hC : ClockAt hp2 C) (hR : RuleAt hp2 R cs) (hS1 : hp2.1 = hp.1) (hS : ∀ x, (x < R ∨ R + 4 ≤ x) → (x < C ∨ C + 2 ≤ x) → (x < h ∨ h + 8 ≤ x) → hp2.2 x = hp.2 x), wp g MX0_run (rm 5 0 0) (Eff (.int (I ((runW cs T N n : Nat) : Int))) (fun hp2 => TownAt hp2 h (runT cs T N n) ∧ ClockAt hp2 C ∧ RuleAt hp2 R cs ∧ hp2.1 = hp.1 ∧ ∀ x, (x < R ∨ R + 4 ≤ x) → (x < C ∨ C + 2 ≤ x) → (x < h ∨ h + 8 ≤ x) → hp2.2 x = hp.2 x)) 0 0 6 [some (.ref C), some (.ref h), some (.ref R), some (.int (I (n : Int))), some (.int (I ((runW cs T N i : Nat) : Int))), some (.int (I (i : Int)))] [] hp2 := by
  intro m
  induction m with
  | zero => intro i h1 h2; exact absurd h1 (by omega)
  | succ m ih =>
    intro i h1 h2 hp2 hT hC hR hS1 hS
    have hC' := hC
    obtain ⟨c0, F0, c10, rF0⟩ := hC
    have hI2 := runT_I (cs := cs) hI i (by omega)
    have hH2 := runT_HS (cs := cs) hI hH i (by omega)
    refine wp_iload (pc := 6) dX0_run_6 rfl ?_
    refine wp_iload_n (pc := 8) dX0_run_8 rfl ?_
    refine wp_icmp_ge (pc := 9) 29 dX0_run_9 (by decide) (by omega) (by omega) (fun c9 => ?_) (fun c9 => ?_)
    ·
      have e : i = n := by omega
      subst e -- go
      refine wp_iload (pc := 29) dX0_run_29 rfl ?_
      exact wp_ir (pc := 31) dX0_run_31 rfl (by decide) (by decide) (by first | rfl | omega) ⟨hT, hC', hR, hS1, hS⟩
    ·
      refine wp_iload (pc := 12) dX0_run_12 rfl ?_
      refine wp_aload_n (pc := 14) dX0_run_14 rfl ?_
      refine wp_aload_n (pc := 15) dX0_run_15 rfl ?_
      refine wp_aload_n (pc := 16) dX0_run_16 rfl ?_
      refine wp_Vs (pc := 17) dX0_run_17 cl_X0_15 (sp_Clock_pass hT hI2 hH2 hC' hR d1 d2 d3) rfl rfl (by repeat (first | assumption | exact hset_eq | refine hset_at (by omega) ?_)) (by rfl) (by decide) (Nat.le_of_ble_eq_true rfl) (fun hp17 e17 => ?_)
      refine wp_iadd (pc := 20) dX0_run_20 ?_
      refine wp_istore (pc := 21) dX0_run_21 (by decide) ?_
      refine wp_iinc (pc := 23) dX0_run_23 rfl (by decide) ?_
      refine wp_goto (pc := 26) 6 dX0_run_26 (by decide) ?_
      obtain ⟨z1, z2, z3, z4, z5⟩ := e17
      refine wp_ls ?_ (ih (i + 1) (by omega) (by omega) hp17 z1 z2 z3 (z4.trans hS1) (fun x y1 y2 y3 => (z5 x y1 y2 y3).trans (hS x y1 y2 y3)))
      repeat' (first | exact LE_0 | refine LE_s rfl ?_ | refine LE_s (I_c (by first | omega | (simp only [sm]; omega))) ?_ | refine LE_s (J_c (by first | omega | exact Int.pow_succ _ _ | exact (Int.pow_succ _ _).symm | exact (Int.pow_zero _).symm | (simp only [sm]; omega))) ?_ | refine LE_n ?_)
theorem sp_Clock_run (hT : TownAt hp h T) (hI : TI T N) (hH : HS T) (hb : T 7 0 + n < 2000000000) (hn : n < 1000) (hC : ClockAt hp C) (hR : RuleAt hp R cs) (d1 : h + 8 ≤ C ∨ C + 2 ≤ h) (d2 : h + 8 ≤ R ∨ R + 4 ≤ h) (d3 : C + 2 ≤ R ∨ R + 4 ≤ C) : Sp g MX0_run (rm 5 0 0) [.ref C, .ref h, .ref R, .int (I (n : Int))] hp (Eff (.int (I ((runW cs T N n : Nat) : Int))) (fun hp2 => TownAt hp2 h (runT cs T N n) ∧ ClockAt hp2 C ∧ RuleAt hp2 R cs ∧ hp2.1 = hp.1 ∧ ∀ x, (x < R ∨ R + 4 ≤ x) → (x < C ∨ C + 2 ≤ x) → (x < h ∨ h + 8 ≤ x) → hp2.2 x = hp.2 x)) := by
  refine Sp_mk rfl (Nat.le_of_ble_eq_true rfl) ?_
  show wp g _ _ _ 0 0 0 [some (.ref C), some (.ref h), some (.ref R), some (.int (I (n : Int))), none, none] [] hp
  refine wp_iconst (pc := 0) dX0_run_0 ?_
  refine wp_istore (pc := 1) dX0_run_1 (by decide) ?_
  refine wp_iconst (pc := 3) dX0_run_3 ?_
  refine wp_istore (pc := 4) dX0_run_4 (by decide) ?_
  refine wp_ls ?_ (lp_run hI hH hb hn d1 d2 d3 (n + 1) 0 (by omega) (by omega) hp hT hC hR rfl (fun _ _ _ _ => rfl))
  repeat' (first | exact LE_0 | refine LE_s rfl ?_ | refine LE_s (I_c (by first | omega | (simp only [sm]; omega))) ?_ | refine LE_s (J_c (by first | omega | exact Int.pow_succ _ _ | exact (Int.pow_succ _ _).symm | exact (Int.pow_zero _).symm | (simp only [sm]; omega))) ?_ | refine LE_n ?_)
end CN

