/-! the reference: an afternoon, read -/
section MQd
variable {g : GT} {hp hp0 : Hp} {q N N2 n a s k p F m r p1 : Nat} {V V2 V3 : Nat → Int} {A A2 A3 : Nat → Int → Int} {rd rl : Value} {i j x v b c y z w th o d u w1 : Int} {T T2 X : Nat → Int → Int} {l t cs tx rw rw2 rt : List Int} {G f D Y C C1 : Int → Int}
/-- where the acts begin -/
def ap (l : List Int) : Nat → Nat
  | 0 => 0
  | k + 1 => ap l k + 1 + nd (hr l 60 (ap l k))
def AR (l : List Int) (n : Nat) : Prop := ∀ r : Nat, r < n → abd l (ap l r) = -1 ∧ ap l r < l.length
def ACt (l : List Int) (C : Int → Int) (n : Nat) : Prop := ∀ r : Nat, r < n → C (4 * (r : Int)) = hr l 60 (ap l r) ∧ C (4 * (r : Int) + 1) = hr l 60 (ap l r + 1) - 48 ∧ (2 ≤ nd (hr l 60 (ap l r)) → C (4 * (r : Int) + 2) = hr l 60 (ap l r + 1 + 1) - 48) ∧ (3 ≤ nd (hr l 60 (ap l r)) → C (4 * (r : Int) + 3) = hr l 60 (ap l r + 1 + 1 + 1) - 48)
theorem nd_in (c : Int) : nd c ≤ 3 := by unfold nd; (repeat' split) <;> omega
theorem abd_in (h : abd l p = -1) : 1 ≤ nd (hr l 60 p) ∧ p + 1 + nd (hr l 60 p) ≤ 60 ∧ p + 1 + nd (hr l 60 p) ≤ l.length := by
  have hn := nd_in (hr l 60 p)
  unfold abd at h
  by_cases h0 : nd (hr l 60 p) = 0
  · rw [if_pos h0] at h; omega
  rw [if_neg h0] at h
  by_cases d1 : 48 ≤ hr l 60 (p + 1) ∧ hr l 60 (p + 1) < 48 + 10
  · rw [if_neg (fun z => z d1)] at h
    have q1 := hr_lt (l := l) (tp := 60) (p := p + 1) (by omega)
    by_cases h1 : nd (hr l 60 p) = 1
    · omega
    rw [if_neg h1] at h
    by_cases h2 : nd (hr l 60 p) = 2
    · rw [if_pos h2] at h
      by_cases d2 : 49 ≤ hr l 60 (p + 1 + 1) ∧ hr l 60 (p + 1 + 1) < 49 + 9
      · have q2 := hr_lt (l := l) (tp := 60) (p := p + 1 + 1) (by omega)
        omega
      · rw [if_neg d2] at h; omega
    rw [if_neg h2] at h
    by_cases d2 : 48 ≤ hr l 60 (p + 1 + 1) ∧ hr l 60 (p + 1 + 1) < 48 + 10
    · rw [if_neg (fun z => z d2)] at h
      by_cases d3 : 49 ≤ hr l 60 (p + 1 + 1 + 1) ∧ hr l 60 (p + 1 + 1 + 1) < 49 + 9
      · have q3 := hr_lt (l := l) (tp := 60) (p := p + 1 + 1 + 1) (by omega)
        omega
      · rw [if_neg d3] at h; omega
    · rw [if_pos d2] at h; omega
  · rw [if_pos d1] at h; omega
theorem abd_r (h : abd l p ≠ -1) : (p : Int) ≤ abd l p ∧ abd l p ≤ (p : Int) + 3 := by
  revert h
  unfold abd
  (repeat' split) <;> omega
/-- at the head of the reading -/
def AH (l : List Int) (C : Int → Int) (i p : Nat) (w : Int) : Prop := (w = -1 ∧ p = ap l i ∧ AR l i ∧ ACt l C i ∧ 2 * i ≤ p ∧ p ≤ 60 ∧ p ≤ l.length) ∨ (w ≠ -1 ∧ p ≤ 64 ∧ w ≤ 64 ∧ 0 ≤ w ∧ ∃ m, i = m + 1 ∧ AR l m ∧ ap l m < l.length ∧ w = abd l (ap l m))
theorem AH.nx (h : AH l C k p (-1)) (hl : p < l.length) (R : RA l p k C C1 p1 w1) : AH l C1 (k + 1) p1 w1 := by
  rcases h with ⟨-, h2, h3, h4, h5, h6, h7⟩ | ⟨z, -⟩
  · obtain ⟨r1, r2, r3, r4, r5⟩ := R
    by_cases e : abd l p = -1
    · have ha := abd_in e
      have hp1 := r2 e
      refine .inl ⟨by omega, ?_, fun r hr => ?_, fun r hr => ?_, by omega, by omega, by omega⟩
      · rw [hp1, h2]; rfl
      · by_cases y : r = k
        · rw [y, ← h2]; exact ⟨e, hl⟩
        · exact h3 r (by omega)
      · by_cases y : r = k
        · rw [y, ← h2]; exact r5 e
        · have := h4 r (by omega)
          rw [r4 _ (by omega), r4 _ (by omega), r4 _ (by omega), r4 _ (by omega)]
          exact this
    · have hb := abd_r e
      have hp1 := r3 e
      exact .inr ⟨by omega, by omega, by omega, by omega, k, rfl, h3, by omega, by rw [← h2]; exact r1⟩
  · exact absurd rfl z
theorem lp_Ref_an1 (L : RdL A V q rd l 60) {Q : Option Value → Hp → Prop} (Kn : ∀ (hp3 : Hp) (C : Int → Int) (n p : Nat) (w : Int), ModAt hp3 q (pv V p w) (upA A 12 C) rd rl → SO hp hp3 q (q + 25) → AH l C n p w → (w = -1 → l.length ≤ p) → wp g MX12_afternoon (rm 233 0 0) Q 0 0 44 [some (.ref q), some (.int (I (n : Int))), none] [] hp3) : ∀ (m i : Nat), 61 < i + m → i ≤ 61 → ∀ (hp2 : Hp) (C : Int → Int) (p : Nat) (w : Int) (K : ModAt hp2 q (pv V p w) (upA A 12 C) rd rl) (O : SO hp hp2 q (q + 25)) (hP : AH l C i p w), wp g MX12_afternoon (rm 233 0 0) Q 0 0 13 [some (.ref q), some (.int (I (i : Int))), none] [] hp2 := by
  intro m
  induction m with
  | zero => intro i h1 h2; exact absurd h1 (by omega)
  | succ m ih =>
    intro i h1 h2 hp2 C p w K O hP
    have h8 := L.nn
    have hll := L.ll
    have rw0 : InR w := by rcases hP with h | h <;> omega
    have hp8 : p ≤ 64 := by rcases hP with h | h <;> omega
    refine wp_aload_n (pc := 13) dX12_afternoon_13 rfl ?_
    refine wp_Vp (pc := 14) dX12_afternoon_14 cl_X12_125 (sp_Ref_fine K rw0) rfl rfl K.1 (by rfl) (by decide) (Nat.le_of_ble_eq_true rfl) ?_
    first | refine wp_ifb_eq (pc := 17) 44 dX12_afternoon_17 (by decide) (fun c17 => ?_) (fun c17 => ?_) | refine wp_if_eq (pc := 17) 44 dX12_afternoon_17 (by decide) (by first | omega | exact TI.i5 (by assumption) | exact TI.i3 (by assumption) | exact TI.i2 (by assumption) | exact TI.i1 (by assumption) | exact TI.i0 (by assumption) | exact TI.i4 (by assumption) | exact TI.i6 (by assumption) | exact TI.i7 (by assumption)) (fun c17 => ?_) (fun c17 => ?_)
    ·
      refine wp_ls ?_ (Kn hp2 C i p w K O hP (fun z => absurd z c17))
      repeat' (first | exact LE_0 | refine LE_s rfl ?_ | refine LE_s (I_c (by first | omega | (simp only [sm]; omega))) ?_ | refine LE_s (J_c (by first | omega | exact Int.pow_succ _ _ | exact (Int.pow_succ _ _).symm | exact (Int.pow_zero _).symm | (simp only [sm]; omega))) ?_ | refine LE_n ?_)
    ·
      obtain rfl : w = -1 := c17
      have hi : 2 * i ≤ p ∧ p ≤ 60 := by rcases hP with h | h <;> omega
      skip -- go
      refine wp_aload_n (pc := 20) dX12_afternoon_20 rfl ?_
      refine wm_gets dX12_afternoon_21 gf_X12_115 K (by rfl) (by repeat (first | assumption | exact pv10 | exact pv11 | (apply pv_o; decide; decide) | exact upN_eq | (apply upN_ne; decide) | (apply SV_at; assumption; decide) | exact rfl)) ?_
      refine wp_aload_n (pc := 24) dX12_afternoon_24 rfl ?_
      refine wm_gets dX12_afternoon_25 gf_X12_109 K (by rfl) (by repeat (first | assumption | exact pv10 | exact pv11 | (apply pv_o; decide; decide) | exact upN_eq | (apply upN_ne; decide) | (apply SV_at; assumption; decide) | exact rfl)) ?_
      refine wp_icmp_ge (pc := 28) 44 dX12_afternoon_28 (by decide) (by first | omega | exact TI.i5 (by assumption) | exact TI.i3 (by assumption) | exact TI.i2 (by assumption) | exact TI.i1 (by assumption) | exact TI.i0 (by assumption) | exact TI.i4 (by assumption) | exact TI.i6 (by assumption) | exact TI.i7 (by assumption)) (by first | omega | exact TI.i5 (by assumption) | exact TI.i3 (by assumption) | exact TI.i2 (by assumption) | exact TI.i1 (by assumption) | exact TI.i0 (by assumption) | exact TI.i4 (by assumption) | exact TI.i6 (by assumption) | exact TI.i7 (by assumption)) (fun c28 => ?_) (fun c28 => ?_)
      ·
        refine wp_ls ?_ (Kn hp2 C i p (-1) K O hP (fun _ => by omega))
        repeat' (first | exact LE_0 | refine LE_s rfl ?_ | refine LE_s (I_c (by first | omega | (simp only [sm]; omega))) ?_ | refine LE_s (J_c (by first | omega | exact Int.pow_succ _ _ | exact (Int.pow_succ _ _).symm | exact (Int.pow_zero _).symm | (simp only [sm]; omega))) ?_ | refine LE_n ?_)
      ·
        refine wp_aload_n (pc := 31) dX12_afternoon_31 rfl ?_
        refine wp_iconst (pc := 32) dX12_afternoon_32 ?_
        refine wp_iload_n (pc := 33) dX12_afternoon_33 rfl ?_
        refine wp_imul (pc := 34) dX12_afternoon_34 ?_
        refine wp_Vn (pc := 35) dX12_afternoon_35 cl_X12_287 (sp_Ref_readAct (p := p) (k := i) K (L.aa rfl rfl rfl) (by omega) (by omega)) rfl rfl K.1 (by rfl) (by decide) (Nat.le_of_ble_eq_true rfl) (fun hp35 e35 => ?_)
        obtain ⟨⟨C35, p35, w35, K, R35⟩, O1⟩ := e35; replace O := SO.tr O O1
        rw [upA_upA] at K
        rw [upA_eq] at R35
        refine wp_iinc (pc := 38) dX12_afternoon_38 rfl (by decide) ?_
        refine wp_goto (pc := 41) 13 dX12_afternoon_41 (by decide) ?_
        refine wp_ls ?_ (ih (i + 1) (by omega) (by omega) _ _ _ _ K O (hP.nx (by omega) R35))
        repeat' (first | exact LE_0 | refine LE_s rfl ?_ | refine LE_s (I_c (by first | omega | (simp only [sm]; omega))) ?_ | refine LE_s (J_c (by first | omega | exact Int.pow_succ _ _ | exact (Int.pow_succ _ _).symm | exact (Int.pow_zero _).symm | (simp only [sm]; omega))) ?_ | refine LE_n ?_)
end MQd

