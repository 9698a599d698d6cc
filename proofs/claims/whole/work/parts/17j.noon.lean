/-! the class: the afternoon -/
section D9
variable {g : GT} {hp hp2 hp0 : Hp} {D r s N n k i P : Nat} {T T2 Tr Z X : Nat → Int → Int} {z x y a b c w : Int} {U : List (Nat → Int → Int)} {tx rw rt l : List Int} {hs : List (Int × Int)} {ss : List (Int × Int × Int)} {KT KT2 : Nat → Option (Nat → Int → Int)}
theorem nd_1 (c : Int) : nd c = 1 ↔ (c = 104 ∨ c = 99) := by
  unfold nd
  repeat' split
  all_goals omega
theorem wa_good {q j : Nat} (h1 : 1 ≤ j) (h2 : j = nd (hr l 60 q)) (d1 : 2 ≤ j → 48 ≤ hr l 60 (q + 1) ∧ hr l 60 (q + 1) ≤ 57) (d2 : 3 ≤ j → 48 ≤ hr l 60 (q + 1 + 1) ∧ hr l 60 (q + 1 + 1) ≤ 57) (g1 : 48 ≤ hr l 60 (q + j) ∧ hr l 60 (q + j) ≤ 57) (g2 : hr l 60 (q + j) = 48 → hr l 60 q = 104 ∨ hr l 60 q = 99) : abd l q = -1 := by
  have hn := nd_in (hr l 60 q)
  have h4 := nd_1 (hr l 60 q)
  unfold abd
  rcases (show j = 1 ∨ j = 2 ∨ j = 3 by omega) with e | e | e
  · rw [e] at g1 g2 h2
    rw [if_neg (by omega), if_neg (by omega), if_pos (by omega)]
  · rw [e] at g1 g2 h2 d1
    have d1' := d1 (by omega)
    have g1' : 48 ≤ hr l 60 (q + 1 + 1) ∧ hr l 60 (q + 1 + 1) ≤ 57 := g1
    have g2' : hr l 60 (q + 1 + 1) = 48 → hr l 60 q = 104 ∨ hr l 60 q = 99 := g2
    have g3 : ¬ hr l 60 (q + 1 + 1) = 48 := fun h => by have := h4.2 (g2' h); omega
    rw [if_neg (by omega), if_neg (by omega), if_neg (by omega), if_pos (by omega), if_pos (by omega)]
  · rw [e] at g1 g2 h2 d1 d2
    have d1' := d1 (by omega)
    have d2' := d2 (by omega)
    have g1' : 48 ≤ hr l 60 (q + 1 + 1 + 1) ∧ hr l 60 (q + 1 + 1 + 1) ≤ 57 := g1
    have g2' : hr l 60 (q + 1 + 1 + 1) = 48 → hr l 60 q = 104 ∨ hr l 60 q = 99 := g2
    have g3 : ¬ hr l 60 (q + 1 + 1 + 1) = 48 := fun h => by have := h4.2 (g2' h); omega
    rw [if_neg (by omega), if_neg (by omega), if_neg (by omega), if_neg (by omega), if_neg (by omega), if_pos (by omega)]
theorem wa_bad {q j : Nat} (h1 : 1 ≤ j) (h2 : j ≤ nd (hr l 60 q)) (d1 : 2 ≤ j → 48 ≤ hr l 60 (q + 1) ∧ hr l 60 (q + 1) ≤ 57) (d2 : 3 ≤ j → 48 ≤ hr l 60 (q + 1 + 1) ∧ hr l 60 (q + 1 + 1) ≤ 57) (gb : ¬ (48 ≤ hr l 60 (q + j) ∧ hr l 60 (q + j) ≤ 57) ∨ (hr l 60 (q + j) = 48 ∧ j = nd (hr l 60 q) ∧ ¬ (hr l 60 q = 104 ∨ hr l 60 q = 99))) : abd l q = ((q + j : Nat) : Int) := by
  have hn := nd_in (hr l 60 q)
  have h4 := nd_1 (hr l 60 q)
  have h5 : nd (hr l 60 q) = 1 → ¬ (hr l 60 (q + j) = 48 ∧ j = nd (hr l 60 q) ∧ ¬ (hr l 60 q = 104 ∨ hr l 60 q = 99)) := fun h q => q.2.2 (h4.1 h)
  unfold abd
  rcases (show j = 1 ∨ j = 2 ∨ j = 3 by omega) with e | e | e
  · rw [e] at gb h2 h5
    rw [if_neg (by omega)]
    by_cases c1 : nd (hr l 60 q) = 1
    · have := h5 c1
      rw [if_pos (by omega), e]
    · rw [if_pos (by omega), e]
  · rw [e] at gb h2 d1
    have d1' := d1 (by omega)
    have gb' : ¬ (48 ≤ hr l 60 (q + 1 + 1) ∧ hr l 60 (q + 1 + 1) ≤ 57) ∨ (hr l 60 (q + 1 + 1) = 48 ∧ 2 = nd (hr l 60 q) ∧ ¬ (hr l 60 q = 104 ∨ hr l 60 q = 99)) := gb
    rw [if_neg (by omega), if_neg (by omega), if_neg (by omega), e]
    by_cases c2 : nd (hr l 60 q) = 2
    · rw [if_pos c2, if_neg (by omega)]
    · rw [if_neg c2, if_pos (by omega)]
  · rw [e] at gb h2 d1 d2
    have d1' := d1 (by omega)
    have d2' := d2 (by omega)
    have gb' : ¬ (48 ≤ hr l 60 (q + 1 + 1 + 1) ∧ hr l 60 (q + 1 + 1 + 1) ≤ 57) ∨ (hr l 60 (q + 1 + 1 + 1) = 48 ∧ 3 = nd (hr l 60 q) ∧ ¬ (hr l 60 q = 104 ∨ hr l 60 q = 99)) := gb
    rw [if_neg (by omega), if_neg (by omega), if_neg (by omega), if_neg (by omega), if_neg (by omega), if_neg (by omega), e]
def WA (l : List Int) (i m d : Nat) (a : Int) : Prop := AR l m ∧ ((d = 0 ∧ i = ap l m) ∨ (∃ j : Nat, 1 ≤ j ∧ j ≤ nd (hr l 60 (ap l m)) ∧ i = ap l m + j ∧ d + j = nd (hr l 60 (ap l m)) + 1 ∧ a = hr l 60 (ap l m) ∧ ap l m < l.length ∧ (2 ≤ j → 48 ≤ hr l 60 (ap l m + 1) ∧ hr l 60 (ap l m + 1) ≤ 57) ∧ (3 ≤ j → 48 ≤ hr l 60 (ap l m + 1 + 1) ∧ hr l 60 (ap l m + 1 + 1) ≤ 57)))
theorem AR.nxt1 {m : Nat} (h : AR l m) (h1 : abd l (ap l m) = -1) (h2 : ap l m < l.length) : AR l (m + 1) := fun r hr => by
  by_cases e : r = m
  · subst e; exact ⟨h1, h2⟩
  · exact h r (by omega)
theorem WA.a1 {m : Nat} (h : WA l i m 0 a) (hl : i < l.length) (hn : ¬ nd (hr l 60 i) = 0) : WA l (i + 1) m (nd (hr l 60 i)) (hr l 60 i) := by
  obtain ⟨hR, h⟩ := h
  rcases h with ⟨_, e⟩ | ⟨j, _, _, _, _, _⟩
  · subst e
    exact ⟨hR, .inr ⟨1, by omega, by omega, rfl, rfl, rfl, hl, fun q => by omega, fun q => by omega⟩⟩
  · omega
theorem WA.a0 {m : Nat} (h : WA l i m 0 a) (hl : i < l.length) (hn : nd (hr l 60 i) = 0) : afv l = (i : Int) := by
  obtain ⟨hR, h⟩ := h
  rcases h with ⟨_, e⟩ | ⟨j, _, _, _, _, _⟩
  · subst e
    have e1 : abd l (ap l m) = (ap l m : Int) := if_pos hn
    rw [afn_no hR hl (by omega), e1]
  · omega
theorem WA.bad {m d : Nat} (h : WA l i m d a) (hd : ¬ d = 0) (gb : ¬ (48 ≤ hr l 60 i ∧ hr l 60 i ≤ 57) ∨ (hr l 60 i = 48 ∧ d = 1 ∧ ¬ (a = 104 ∨ a = 99))) : afv l = (i : Int) := by
  obtain ⟨hR, h⟩ := h
  rcases h with ⟨e, _⟩ | ⟨j, j1, j2, ei, ed, ea, hl, d1, d2⟩
  · exact absurd e hd
  · subst ei ea
    have e1 := wa_bad j1 j2 d1 d2 (gb.imp id (fun q => ⟨q.1, by omega, q.2.2⟩))
    rw [afn_no hR hl (by omega), e1]
theorem WA.good {m d : Nat} (h : WA l i m d a) (hd : ¬ d = 0) (g1 : 48 ≤ hr l 60 i ∧ hr l 60 i ≤ 57) (g2 : hr l 60 i = 48 → 1 < d ∨ a = 104 ∨ a = 99) : ∃ m', WA l (i + 1) m' (d - 1) a := by
  obtain ⟨hR, h⟩ := h
  rcases h with ⟨e, _⟩ | ⟨j, j1, j2, ei, ed, ea, hl, d1, d2⟩
  · exact absurd e hd
  · subst ei ea
    by_cases c : j = nd (hr l 60 (ap l m))
    · have e1 := wa_good j1 c d1 d2 g1 (fun q => (g2 q).resolve_left (by omega))
      exact ⟨m + 1, hR.nxt1 e1 hl, .inl ⟨by omega, by show ap l m + j + 1 = ap l m + 1 + nd (hr l 60 (ap l m)); omega⟩⟩
    · refine ⟨m, hR, .inr ⟨j + 1, by omega, by omega, by omega, by omega, rfl, hl, fun q => ?_, fun q => ?_⟩⟩
      · by_cases c1 : j = 1
        · subst c1; exact g1
        · exact d1 (by omega)
      · by_cases c1 : j = 2
        · subst c1; exact g1
        · exact d2 (by omega)
theorem tat_R (h : byl tx) {i : Int} : -1 ≤ tat tx i ∧ tat tx i ≤ 255 := by
  unfold tat
  split
  · have := byl_D h i.toNat
    omega
  · omega
theorem WA.end {m d : Nat} (h : WA l i m d a) (hi : i = min l.length 60) (hl6 : l.length ≤ 80) : afv l = if 60 < l.length then 60 else if d = 0 then -1 else (l.length : Int) := by
  have hh := hr_no (l := l) (tp := 60) (p := i) (by omega)
  by_cases c : d = 0
  · subst c
    by_cases c6 : 60 < l.length
    · rw [if_pos c6, h.a0 (by omega) (by rw [hh]; decide)]
      omega
    · rw [if_neg c6, if_pos rfl]
      obtain ⟨hR, h⟩ := h
      rcases h with ⟨_, e⟩ | ⟨j, _, _, _, _, _⟩
      · exact (afn_ok hR (by omega)).2
      · omega
  · rw [h.bad c (.inl (by rw [hh]; omega))]
    split
    · omega
    · first | omega | (rw [if_neg c]; omega)
theorem sp_D_digitsOfAct (rx : InR x) : Sp g MX11_digitsOfAct (rm 0 0 0) [.int (I x)] hp (Pur (.int (I ((nd x : Nat) : Int))) hp) := by
  refine Sp_mk rfl (Nat.le_of_ble_eq_true rfl) ?_
  show wp g _ _ _ 0 0 0 [some (.int (I x))] [] hp
  refine wp_iload_n (pc := 0) dX11_digitsOfAct_0 rfl ?_
  by_cases q : 99 ≤ x ∧ x ≤ 112
  · rcases (show x = 99 ∨ x = 100 ∨ x = 101 ∨ x = 102 ∨ x = 103 ∨ x = 104 ∨ x = 105 ∨ x = 106 ∨ x = 107 ∨ x = 108 ∨ x = 109 ∨ x = 110 ∨ x = 111 ∨ x = 112 by omega) with e | e | e | e | e | e | e | e | e | e | e | e | e | e
    · subst e
      refine wp_tswIn (pc := 1) 72 dX11_digitsOfAct_1 (by omega) (by decide) (by decide) rfl (by decide) ?_
      refine wp_iconst (pc := 72) dX11_digitsOfAct_72 ?_
      exact wp_ir (pc := 73) dX11_digitsOfAct_73 rfl (by decide) (by decide) (by decide) rfl
    · subst e
      refine wp_tswIn (pc := 1) 74 dX11_digitsOfAct_1 (by omega) (by decide) (by decide) rfl (by decide) ?_
      refine wp_iconst (pc := 74) dX11_digitsOfAct_74 ?_
      exact wp_ir (pc := 75) dX11_digitsOfAct_75 rfl (by decide) (by decide) (by decide) rfl
    · subst e
      refine wp_tswIn (pc := 1) 78 dX11_digitsOfAct_1 (by omega) (by decide) (by decide) rfl (by decide) ?_
      refine wp_iconst (pc := 78) dX11_digitsOfAct_78 ?_
      exact wp_ir (pc := 79) dX11_digitsOfAct_79 rfl (by decide) (by decide) (by decide) rfl
    · subst e
      refine wp_tswIn (pc := 1) 78 dX11_digitsOfAct_1 (by omega) (by decide) (by decide) rfl (by decide) ?_
      refine wp_iconst (pc := 78) dX11_digitsOfAct_78 ?_
      exact wp_ir (pc := 79) dX11_digitsOfAct_79 rfl (by decide) (by decide) (by decide) rfl
    · subst e
      refine wp_tswIn (pc := 1) 78 dX11_digitsOfAct_1 (by omega) (by decide) (by decide) rfl (by decide) ?_
      refine wp_iconst (pc := 78) dX11_digitsOfAct_78 ?_
      exact wp_ir (pc := 79) dX11_digitsOfAct_79 rfl (by decide) (by decide) (by decide) rfl
    · subst e
      refine wp_tswIn (pc := 1) 72 dX11_digitsOfAct_1 (by omega) (by decide) (by decide) rfl (by decide) ?_
      refine wp_iconst (pc := 72) dX11_digitsOfAct_72 ?_
      exact wp_ir (pc := 73) dX11_digitsOfAct_73 rfl (by decide) (by decide) (by decide) rfl
    · subst e
      refine wp_tswIn (pc := 1) 78 dX11_digitsOfAct_1 (by omega) (by decide) (by decide) rfl (by decide) ?_
      refine wp_iconst (pc := 78) dX11_digitsOfAct_78 ?_
      exact wp_ir (pc := 79) dX11_digitsOfAct_79 rfl (by decide) (by decide) (by decide) rfl
    · subst e
      refine wp_tswIn (pc := 1) 78 dX11_digitsOfAct_1 (by omega) (by decide) (by decide) rfl (by decide) ?_
      refine wp_iconst (pc := 78) dX11_digitsOfAct_78 ?_
      exact wp_ir (pc := 79) dX11_digitsOfAct_79 rfl (by decide) (by decide) (by decide) rfl
    · subst e
      refine wp_tswIn (pc := 1) 78 dX11_digitsOfAct_1 (by omega) (by decide) (by decide) rfl (by decide) ?_
      refine wp_iconst (pc := 78) dX11_digitsOfAct_78 ?_
      exact wp_ir (pc := 79) dX11_digitsOfAct_79 rfl (by decide) (by decide) (by decide) rfl
    · subst e
      refine wp_tswIn (pc := 1) 76 dX11_digitsOfAct_1 (by omega) (by decide) (by decide) rfl (by decide) ?_
      refine wp_iconst (pc := 76) dX11_digitsOfAct_76 ?_
      exact wp_ir (pc := 77) dX11_digitsOfAct_77 rfl (by decide) (by decide) (by decide) rfl
    · subst e
      refine wp_tswIn (pc := 1) 78 dX11_digitsOfAct_1 (by omega) (by decide) (by decide) rfl (by decide) ?_
      refine wp_iconst (pc := 78) dX11_digitsOfAct_78 ?_
      exact wp_ir (pc := 79) dX11_digitsOfAct_79 rfl (by decide) (by decide) (by decide) rfl
    · subst e
      refine wp_tswIn (pc := 1) 78 dX11_digitsOfAct_1 (by omega) (by decide) (by decide) rfl (by decide) ?_
      refine wp_iconst (pc := 78) dX11_digitsOfAct_78 ?_
      exact wp_ir (pc := 79) dX11_digitsOfAct_79 rfl (by decide) (by decide) (by decide) rfl
    · subst e
      refine wp_tswIn (pc := 1) 78 dX11_digitsOfAct_1 (by omega) (by decide) (by decide) rfl (by decide) ?_
      refine wp_iconst (pc := 78) dX11_digitsOfAct_78 ?_
      exact wp_ir (pc := 79) dX11_digitsOfAct_79 rfl (by decide) (by decide) (by decide) rfl
    · subst e
      refine wp_tswIn (pc := 1) 76 dX11_digitsOfAct_1 (by omega) (by decide) (by decide) rfl (by decide) ?_
      refine wp_iconst (pc := 76) dX11_digitsOfAct_76 ?_
      exact wp_ir (pc := 77) dX11_digitsOfAct_77 rfl (by decide) (by decide) (by decide) rfl
  · have e0 : nd x = 0 := by unfold nd; rw [if_neg (by omega), if_neg (by omega), if_neg (by omega)]
    rw [e0]
    refine wp_tswOut (pc := 1) 78 dX11_digitsOfAct_1 (by omega) (by omega) (by decide) ?_
    refine wp_iconst (pc := 78) dX11_digitsOfAct_78 ?_
    exact wp_ir (pc := 79) dX11_digitsOfAct_79 rfl (by decide) (by decide) (by first | rfl | omega) rfl
theorem lp_D_wia (hl : byl tx) (K : DA hp D r s Tr z Z T U tx rw rt hs ss KT) : ∀ (m i : Nat), (min tx.length 60) < i + m → i ≤ (min tx.length 60) → ∀ (m2 d : Nat) (a : Int) (ra : InR a) (hW : WA tx i m2 d a) (hd3 : d ≤ 3), wp g MX11_wrongInActs (rm 1 0 0) (Pur (.int (I (afv tx))) hp) 0 0 15 [some (.ref D), some (.int (I (tx.length : Int))), some (.int (I (d : Int))), some (.int (I a)), some (.int (I (i : Int))), none, none] [] hp := by
  intro m
  induction m with
  | zero => intro i h1 h2; exact absurd h1 (by omega)
  | succ m ih =>
    intro i h1 h2 m2 d a ra hW hd3
    have hlen : tx.length ≤ 80 := by obtain ⟨S, r0, r1, q, _⟩ := K.te; exact q
    have hg := byl_D hl i
    refine wp_iload (pc := 15) dX11_wrongInActs_15 rfl ?_
    refine wp_bipush (pc := 17) (y := 60) dX11_wrongInActs_17 (by decide) ?_
    refine wp_icmp_ge (pc := 19) 114 dX11_wrongInActs_19 (by decide) (by first | omega | exact TI.i5 (by assumption) | exact TI.i3 (by assumption) | exact TI.i2 (by assumption) | exact TI.i1 (by assumption) | exact TI.i0 (by assumption) | exact TI.i4 (by assumption) | exact TI.i6 (by assumption) | exact TI.i7 (by assumption)) (by first | omega | exact TI.i5 (by assumption) | exact TI.i3 (by assumption) | exact TI.i2 (by assumption) | exact TI.i1 (by assumption) | exact TI.i0 (by assumption) | exact TI.i4 (by assumption) | exact TI.i6 (by assumption) | exact TI.i7 (by assumption)) (fun c19 => ?_) (fun c19 => ?_)
    ·
      first
      | (exfalso; omega)
      | skip
        rw [hW.end (by omega) hlen]
        refine wp_iload_n (pc := 114) dX11_wrongInActs_114 rfl ?_
        refine wp_bipush (pc := 115) (y := 60) dX11_wrongInActs_115 (by decide) ?_
        refine wp_icmp_le (pc := 117) 123 dX11_wrongInActs_117 (by decide) (by first | omega | exact TI.i5 (by assumption) | exact TI.i3 (by assumption) | exact TI.i2 (by assumption) | exact TI.i1 (by assumption) | exact TI.i0 (by assumption) | exact TI.i4 (by assumption) | exact TI.i6 (by assumption) | exact TI.i7 (by assumption)) (by first | omega | exact TI.i5 (by assumption) | exact TI.i3 (by assumption) | exact TI.i2 (by assumption) | exact TI.i1 (by assumption) | exact TI.i0 (by assumption) | exact TI.i4 (by assumption) | exact TI.i6 (by assumption) | exact TI.i7 (by assumption)) (fun c117 => ?_) (fun c117 => ?_)
        ·
          rw [if_neg (by omega)] -- go
          refine wp_iload_n (pc := 123) dX11_wrongInActs_123 rfl ?_
          first | refine wp_ifb_ne (pc := 124) 131 dX11_wrongInActs_124 (by decide) (fun c124 => ?_) (fun c124 => ?_) | refine wp_if_ne (pc := 124) 131 dX11_wrongInActs_124 (by decide) (by first | omega | exact TI.i5 (by assumption) | exact TI.i3 (by assumption) | exact TI.i2 (by assumption) | exact TI.i1 (by assumption) | exact TI.i0 (by assumption) | exact TI.i4 (by assumption) | exact TI.i6 (by assumption) | exact TI.i7 (by assumption)) (fun c124 => ?_) (fun c124 => ?_)
          ·
            rw [if_neg (by omega)] -- go
            refine wp_iload_n (pc := 131) dX11_wrongInActs_131 rfl ?_
            exact wp_ir (pc := 132) dX11_wrongInActs_132 rfl (by decide) (by decide) (by first | rfl | omega) rfl
          ·
            rw [if_pos (by omega)] -- go
            refine wp_iconst (pc := 127) dX11_wrongInActs_127 ?_
            refine wp_goto (pc := 128) 132 dX11_wrongInActs_128 (by decide) ?_
            exact wp_ir (pc := 132) dX11_wrongInActs_132 rfl (by decide) (by decide) (by first | rfl | omega) rfl
        ·
          rw [if_pos (by omega)] -- go
          refine wp_bipush (pc := 120) (y := 60) dX11_wrongInActs_120 (by decide) ?_
          exact wp_ir (pc := 122) dX11_wrongInActs_122 rfl (by decide) (by decide) (by first | rfl | omega) rfl
    ·
      first
      | (exfalso; omega)
      | skip
        refine wp_iload (pc := 22) dX11_wrongInActs_22 rfl ?_
        refine wp_iload_n (pc := 24) dX11_wrongInActs_24 rfl ?_
        refine wp_icmp_ge (pc := 25) 114 dX11_wrongInActs_25 (by decide) (by first | omega | exact TI.i5 (by assumption) | exact TI.i3 (by assumption) | exact TI.i2 (by assumption) | exact TI.i1 (by assumption) | exact TI.i0 (by assumption) | exact TI.i4 (by assumption) | exact TI.i6 (by assumption) | exact TI.i7 (by assumption)) (by first | omega | exact TI.i5 (by assumption) | exact TI.i3 (by assumption) | exact TI.i2 (by assumption) | exact TI.i1 (by assumption) | exact TI.i0 (by assumption) | exact TI.i4 (by assumption) | exact TI.i6 (by assumption) | exact TI.i7 (by assumption)) (fun c25 => ?_) (fun c25 => ?_)
        ·
          first
          | (exfalso; omega)
          | skip
            rw [hW.end (by omega) hlen]
            refine wp_iload_n (pc := 114) dX11_wrongInActs_114 rfl ?_
            refine wp_bipush (pc := 115) (y := 60) dX11_wrongInActs_115 (by decide) ?_
            refine wp_icmp_le (pc := 117) 123 dX11_wrongInActs_117 (by decide) (by first | omega | exact TI.i5 (by assumption) | exact TI.i3 (by assumption) | exact TI.i2 (by assumption) | exact TI.i1 (by assumption) | exact TI.i0 (by assumption) | exact TI.i4 (by assumption) | exact TI.i6 (by assumption) | exact TI.i7 (by assumption)) (by first | omega | exact TI.i5 (by assumption) | exact TI.i3 (by assumption) | exact TI.i2 (by assumption) | exact TI.i1 (by assumption) | exact TI.i0 (by assumption) | exact TI.i4 (by assumption) | exact TI.i6 (by assumption) | exact TI.i7 (by assumption)) (fun c117 => ?_) (fun c117 => ?_)
            ·
              rw [if_neg (by omega)] -- go
              refine wp_iload_n (pc := 123) dX11_wrongInActs_123 rfl ?_
              first | refine wp_ifb_ne (pc := 124) 131 dX11_wrongInActs_124 (by decide) (fun c124 => ?_) (fun c124 => ?_) | refine wp_if_ne (pc := 124) 131 dX11_wrongInActs_124 (by decide) (by first | omega | exact TI.i5 (by assumption) | exact TI.i3 (by assumption) | exact TI.i2 (by assumption) | exact TI.i1 (by assumption) | exact TI.i0 (by assumption) | exact TI.i4 (by assumption) | exact TI.i6 (by assumption) | exact TI.i7 (by assumption)) (fun c124 => ?_) (fun c124 => ?_)
              ·
                rw [if_neg (by omega)] -- go
                refine wp_iload_n (pc := 131) dX11_wrongInActs_131 rfl ?_
                exact wp_ir (pc := 132) dX11_wrongInActs_132 rfl (by decide) (by decide) (by first | rfl | omega) rfl
              ·
                rw [if_pos (by omega)] -- go
                refine wp_iconst (pc := 127) dX11_wrongInActs_127 ?_
                refine wp_goto (pc := 128) 132 dX11_wrongInActs_128 (by decide) ?_
                exact wp_ir (pc := 132) dX11_wrongInActs_132 rfl (by decide) (by decide) (by first | rfl | omega) rfl
            ·
              rw [if_pos (by omega)] -- go
              refine wp_bipush (pc := 120) (y := 60) dX11_wrongInActs_120 (by decide) ?_
              exact wp_ir (pc := 122) dX11_wrongInActs_122 rfl (by decide) (by decide) (by first | rfl | omega) rfl
        ·
          first
          | (exfalso; omega)
          | skip
            have hh := hr_at (l := tx) (tp := 60) (p := i) (by omega) (by omega)
            refine wp_aload_n (pc := 28) dX11_wrongInActs_28 rfl ?_
            refine wp_getf (pc := 29) dX11_wrongInActs_29 gf_X11_12 K.ob (by rfl) ?_
            refine wp_iload (pc := 32) dX11_wrongInActs_32 rfl ?_
            refine wd_Vp (pc := 34) dX11_wrongInActs_34 cl_X11_127 (sp_Text_at K.te (by first | assumption | omega)) rfl rfl K.te.o (by rfl) (by decide) (Nat.le_of_ble_eq_true rfl) ?_
            refine wp_topE (tat_in (show i < tx.length by omega)) ?_
            refine wp_istore (pc := 37) dX11_wrongInActs_37 (by decide) ?_
            refine wp_iload_n (pc := 39) dX11_wrongInActs_39 rfl ?_
            first | refine wp_ifb_ne (pc := 40) 58 dX11_wrongInActs_40 (by decide) (fun c40 => ?_) (fun c40 => ?_) | refine wp_if_ne (pc := 40) 58 dX11_wrongInActs_40 (by decide) (by first | omega | exact TI.i5 (by assumption) | exact TI.i3 (by assumption) | exact TI.i2 (by assumption) | exact TI.i1 (by assumption) | exact TI.i0 (by assumption) | exact TI.i4 (by assumption) | exact TI.i6 (by assumption) | exact TI.i7 (by assumption)) (fun c40 => ?_) (fun c40 => ?_)
            ·
              first
              | (exfalso; omega)
              | skip
                refine wp_iload_n (pc := 58) dX11_wrongInActs_58 rfl ?_
                refine wp_iconst (pc := 59) dX11_wrongInActs_59 ?_
                refine wp_icmp_gt (pc := 60) 75 dX11_wrongInActs_60 (by decide) (by first | omega | exact TI.i5 (by assumption) | exact TI.i3 (by assumption) | exact TI.i2 (by assumption) | exact TI.i1 (by assumption) | exact TI.i0 (by assumption) | exact TI.i4 (by assumption) | exact TI.i6 (by assumption) | exact TI.i7 (by assumption)) (by first | omega | exact TI.i5 (by assumption) | exact TI.i3 (by assumption) | exact TI.i2 (by assumption) | exact TI.i1 (by assumption) | exact TI.i0 (by assumption) | exact TI.i4 (by assumption) | exact TI.i6 (by assumption) | exact TI.i7 (by assumption)) (fun c60 => ?_) (fun c60 => ?_)
                ·
                  first
                  | (exfalso; omega)
                  | skip
                    refine wp_iconst (pc := 75) dX11_wrongInActs_75 ?_
                    refine wp_goto (pc := 76) 80 dX11_wrongInActs_76 (by decide) ?_
                    refine wp_istore (pc := 80) dX11_wrongInActs_80 (by decide) ?_
                    refine wp_iload (pc := 82) dX11_wrongInActs_82 rfl ?_
                    refine wp_Sp (pc := 84) dX11_wrongInActs_84 cl_X11_130 (sp_D_isDigit (by omega)) rfl rfl (by decide) (Nat.le_of_ble_eq_true rfl) ?_
                    first | refine wp_ifb_eq (pc := 87) 102 dX11_wrongInActs_87 (by decide) (fun c87 => ?_) (fun c87 => ?_) | refine wp_if_eq (pc := 87) 102 dX11_wrongInActs_87 (by decide) (by first | omega | exact TI.i5 (by assumption) | exact TI.i3 (by assumption) | exact TI.i2 (by assumption) | exact TI.i1 (by assumption) | exact TI.i0 (by assumption) | exact TI.i4 (by assumption) | exact TI.i6 (by assumption) | exact TI.i7 (by assumption)) (fun c87 => ?_) (fun c87 => ?_)
                    ·
                      first
                      | (exfalso; omega)
                      | skip
                        rw [hW.bad (by omega) (by rw [hh]; omega)]
                        refine wp_iload (pc := 102) dX11_wrongInActs_102 rfl ?_
                        exact wp_ir (pc := 104) dX11_wrongInActs_104 rfl (by decide) (by decide) (by first | rfl | omega) rfl
                    ·
                      first
                      | (exfalso; omega)
                      | skip
                        refine wp_iload (pc := 90) dX11_wrongInActs_90 rfl ?_
                        refine wp_bipush (pc := 92) (y := 48) dX11_wrongInActs_92 (by decide) ?_
                        refine wp_icmp_ne (pc := 94) 105 dX11_wrongInActs_94 (by decide) (by first | omega | exact TI.i5 (by assumption) | exact TI.i3 (by assumption) | exact TI.i2 (by assumption) | exact TI.i1 (by assumption) | exact TI.i0 (by assumption) | exact TI.i4 (by assumption) | exact TI.i6 (by assumption) | exact TI.i7 (by assumption)) (by first | omega | exact TI.i5 (by assumption) | exact TI.i3 (by assumption) | exact TI.i2 (by assumption) | exact TI.i1 (by assumption) | exact TI.i0 (by assumption) | exact TI.i4 (by assumption) | exact TI.i6 (by assumption) | exact TI.i7 (by assumption)) (fun c94 => ?_) (fun c94 => ?_)
                        ·
                          first
                          | (exfalso; omega)
                          | skip
                            obtain ⟨m3, hW2⟩ := hW.good (by omega) (by rw [hh]; omega) (by rw [hh]; omega)
                            have rag := ra
                            refine wp_iinc (pc := 105) dX11_wrongInActs_105 rfl (by decide) ?_
                            refine wp_iinc (pc := 108) dX11_wrongInActs_108 rfl (by decide) ?_
                            refine wp_goto (pc := 111) 15 dX11_wrongInActs_111 (by decide) ?_
                            refine wp_ls ?_ (ih (i + 1) (by omega) (by omega) _ _ _ rag hW2 (by omega))
                            repeat' (first | exact LE_0 | refine LE_s rfl ?_ | refine LE_s (I_c (by first | omega | (simp only [sm]; omega))) ?_ | refine LE_s (J_c (by first | omega | exact Int.pow_succ _ _ | exact (Int.pow_succ _ _).symm | exact (Int.pow_zero _).symm | (simp only [sm]; omega))) ?_ | refine LE_n ?_)
                        ·
                          first
                          | (exfalso; omega)
                          | skip
                            refine wp_iload (pc := 97) dX11_wrongInActs_97 rfl ?_
                            first | refine wp_ifb_ne (pc := 99) 105 dX11_wrongInActs_99 (by decide) (fun c99 => ?_) (fun c99 => ?_) | refine wp_if_ne (pc := 99) 105 dX11_wrongInActs_99 (by decide) (by first | omega | exact TI.i5 (by assumption) | exact TI.i3 (by assumption) | exact TI.i2 (by assumption) | exact TI.i1 (by assumption) | exact TI.i0 (by assumption) | exact TI.i4 (by assumption) | exact TI.i6 (by assumption) | exact TI.i7 (by assumption)) (fun c99 => ?_) (fun c99 => ?_)
                            ·
                              first
                              | (exfalso; omega)
                              | skip
                                obtain ⟨m3, hW2⟩ := hW.good (by omega) (by rw [hh]; omega) (by rw [hh]; omega)
                                have rag := ra
                                refine wp_iinc (pc := 105) dX11_wrongInActs_105 rfl (by decide) ?_
                                refine wp_iinc (pc := 108) dX11_wrongInActs_108 rfl (by decide) ?_
                                refine wp_goto (pc := 111) 15 dX11_wrongInActs_111 (by decide) ?_
                                refine wp_ls ?_ (ih (i + 1) (by omega) (by omega) _ _ _ rag hW2 (by omega))
                                repeat' (first | exact LE_0 | refine LE_s rfl ?_ | refine LE_s (I_c (by first | omega | (simp only [sm]; omega))) ?_ | refine LE_s (J_c (by first | omega | exact Int.pow_succ _ _ | exact (Int.pow_succ _ _).symm | exact (Int.pow_zero _).symm | (simp only [sm]; omega))) ?_ | refine LE_n ?_)
                            ·
                              first
                              | (exfalso; omega)
                              | skip
                                rw [hW.bad (by omega) (by rw [hh]; omega)]
                                refine wp_iload (pc := 102) dX11_wrongInActs_102 rfl ?_
                                exact wp_ir (pc := 104) dX11_wrongInActs_104 rfl (by decide) (by decide) (by first | rfl | omega) rfl
                ·
                  first
                  | (exfalso; omega)
                  | skip
                    refine wp_iload_n (pc := 63) dX11_wrongInActs_63 rfl ?_
                    refine wp_bipush (pc := 64) (y := 104) dX11_wrongInActs_64 (by decide) ?_
                    refine wp_icmp_eq (pc := 66) 75 dX11_wrongInActs_66 (by decide) (by first | omega | exact TI.i5 (by assumption) | exact TI.i3 (by assumption) | exact TI.i2 (by assumption) | exact TI.i1 (by assumption) | exact TI.i0 (by assumption) | exact TI.i4 (by assumption) | exact TI.i6 (by assumption) | exact TI.i7 (by assumption)) (by first | omega | exact TI.i5 (by assumption) | exact TI.i3 (by assumption) | exact TI.i2 (by assumption) | exact TI.i1 (by assumption) | exact TI.i0 (by assumption) | exact TI.i4 (by assumption) | exact TI.i6 (by assumption) | exact TI.i7 (by assumption)) (fun c66 => ?_) (fun c66 => ?_)
                    ·
                      first
                      | (exfalso; omega)
                      | skip
                        refine wp_iconst (pc := 75) dX11_wrongInActs_75 ?_
                        refine wp_goto (pc := 76) 80 dX11_wrongInActs_76 (by decide) ?_
                        refine wp_istore (pc := 80) dX11_wrongInActs_80 (by decide) ?_
                        refine wp_iload (pc := 82) dX11_wrongInActs_82 rfl ?_
                        refine wp_Sp (pc := 84) dX11_wrongInActs_84 cl_X11_130 (sp_D_isDigit (by omega)) rfl rfl (by decide) (Nat.le_of_ble_eq_true rfl) ?_
                        first | refine wp_ifb_eq (pc := 87) 102 dX11_wrongInActs_87 (by decide) (fun c87 => ?_) (fun c87 => ?_) | refine wp_if_eq (pc := 87) 102 dX11_wrongInActs_87 (by decide) (by first | omega | exact TI.i5 (by assumption) | exact TI.i3 (by assumption) | exact TI.i2 (by assumption) | exact TI.i1 (by assumption) | exact TI.i0 (by assumption) | exact TI.i4 (by assumption) | exact TI.i6 (by assumption) | exact TI.i7 (by assumption)) (fun c87 => ?_) (fun c87 => ?_)
                        ·
                          first
                          | (exfalso; omega)
                          | skip
                            rw [hW.bad (by omega) (by rw [hh]; omega)]
                            refine wp_iload (pc := 102) dX11_wrongInActs_102 rfl ?_
                            exact wp_ir (pc := 104) dX11_wrongInActs_104 rfl (by decide) (by decide) (by first | rfl | omega) rfl
                        ·
                          first
                          | (exfalso; omega)
                          | skip
                            refine wp_iload (pc := 90) dX11_wrongInActs_90 rfl ?_
                            refine wp_bipush (pc := 92) (y := 48) dX11_wrongInActs_92 (by decide) ?_
                            refine wp_icmp_ne (pc := 94) 105 dX11_wrongInActs_94 (by decide) (by first | omega | exact TI.i5 (by assumption) | exact TI.i3 (by assumption) | exact TI.i2 (by assumption) | exact TI.i1 (by assumption) | exact TI.i0 (by assumption) | exact TI.i4 (by assumption) | exact TI.i6 (by assumption) | exact TI.i7 (by assumption)) (by first | omega | exact TI.i5 (by assumption) | exact TI.i3 (by assumption) | exact TI.i2 (by assumption) | exact TI.i1 (by assumption) | exact TI.i0 (by assumption) | exact TI.i4 (by assumption) | exact TI.i6 (by assumption) | exact TI.i7 (by assumption)) (fun c94 => ?_) (fun c94 => ?_)
                            ·
                              first
                              | (exfalso; omega)
                              | skip
                                obtain ⟨m3, hW2⟩ := hW.good (by omega) (by rw [hh]; omega) (by rw [hh]; omega)
                                have rag := ra
                                refine wp_iinc (pc := 105) dX11_wrongInActs_105 rfl (by decide) ?_
                                refine wp_iinc (pc := 108) dX11_wrongInActs_108 rfl (by decide) ?_
                                refine wp_goto (pc := 111) 15 dX11_wrongInActs_111 (by decide) ?_
                                refine wp_ls ?_ (ih (i + 1) (by omega) (by omega) _ _ _ rag hW2 (by omega))
                                repeat' (first | exact LE_0 | refine LE_s rfl ?_ | refine LE_s (I_c (by first | omega | (simp only [sm]; omega))) ?_ | refine LE_s (J_c (by first | omega | exact Int.pow_succ _ _ | exact (Int.pow_succ _ _).symm | exact (Int.pow_zero _).symm | (simp only [sm]; omega))) ?_ | refine LE_n ?_)
                            ·
                              first
                              | (exfalso; omega)
                              | skip
                                refine wp_iload (pc := 97) dX11_wrongInActs_97 rfl ?_
                                first | refine wp_ifb_ne (pc := 99) 105 dX11_wrongInActs_99 (by decide) (fun c99 => ?_) (fun c99 => ?_) | refine wp_if_ne (pc := 99) 105 dX11_wrongInActs_99 (by decide) (by first | omega | exact TI.i5 (by assumption) | exact TI.i3 (by assumption) | exact TI.i2 (by assumption) | exact TI.i1 (by assumption) | exact TI.i0 (by assumption) | exact TI.i4 (by assumption) | exact TI.i6 (by assumption) | exact TI.i7 (by assumption)) (fun c99 => ?_) (fun c99 => ?_)
                                ·
                                  first
                                  | (exfalso; omega)
                                  | skip
                                    obtain ⟨m3, hW2⟩ := hW.good (by omega) (by rw [hh]; omega) (by rw [hh]; omega)
                                    have rag := ra
                                    refine wp_iinc (pc := 105) dX11_wrongInActs_105 rfl (by decide) ?_
                                    refine wp_iinc (pc := 108) dX11_wrongInActs_108 rfl (by decide) ?_
                                    refine wp_goto (pc := 111) 15 dX11_wrongInActs_111 (by decide) ?_
                                    refine wp_ls ?_ (ih (i + 1) (by omega) (by omega) _ _ _ rag hW2 (by omega))
                                    repeat' (first | exact LE_0 | refine LE_s rfl ?_ | refine LE_s (I_c (by first | omega | (simp only [sm]; omega))) ?_ | refine LE_s (J_c (by first | omega | exact Int.pow_succ _ _ | exact (Int.pow_succ _ _).symm | exact (Int.pow_zero _).symm | (simp only [sm]; omega))) ?_ | refine LE_n ?_)
                                ·
                                  first
                                  | (exfalso; omega)
                                  | skip
                                    rw [hW.bad (by omega) (by rw [hh]; omega)]
                                    refine wp_iload (pc := 102) dX11_wrongInActs_102 rfl ?_
                                    exact wp_ir (pc := 104) dX11_wrongInActs_104 rfl (by decide) (by decide) (by first | rfl | omega) rfl
                    ·
                      first
                      | (exfalso; omega)
                      | skip
                        refine wp_iload_n (pc := 69) dX11_wrongInActs_69 rfl ?_
                        refine wp_bipush (pc := 70) (y := 99) dX11_wrongInActs_70 (by decide) ?_
                        refine wp_icmp_ne (pc := 72) 79 dX11_wrongInActs_72 (by decide) (by first | omega | exact TI.i5 (by assumption) | exact TI.i3 (by assumption) | exact TI.i2 (by assumption) | exact TI.i1 (by assumption) | exact TI.i0 (by assumption) | exact TI.i4 (by assumption) | exact TI.i6 (by assumption) | exact TI.i7 (by assumption)) (by first | omega | exact TI.i5 (by assumption) | exact TI.i3 (by assumption) | exact TI.i2 (by assumption) | exact TI.i1 (by assumption) | exact TI.i0 (by assumption) | exact TI.i4 (by assumption) | exact TI.i6 (by assumption) | exact TI.i7 (by assumption)) (fun c72 => ?_) (fun c72 => ?_)
                        ·
                          first
                          | (exfalso; omega)
                          | skip
                            refine wp_iconst (pc := 79) dX11_wrongInActs_79 ?_
                            refine wp_istore (pc := 80) dX11_wrongInActs_80 (by decide) ?_
                            refine wp_iload (pc := 82) dX11_wrongInActs_82 rfl ?_
                            refine wp_Sp (pc := 84) dX11_wrongInActs_84 cl_X11_130 (sp_D_isDigit (by omega)) rfl rfl (by decide) (Nat.le_of_ble_eq_true rfl) ?_
                            first | refine wp_ifb_eq (pc := 87) 102 dX11_wrongInActs_87 (by decide) (fun c87 => ?_) (fun c87 => ?_) | refine wp_if_eq (pc := 87) 102 dX11_wrongInActs_87 (by decide) (by first | omega | exact TI.i5 (by assumption) | exact TI.i3 (by assumption) | exact TI.i2 (by assumption) | exact TI.i1 (by assumption) | exact TI.i0 (by assumption) | exact TI.i4 (by assumption) | exact TI.i6 (by assumption) | exact TI.i7 (by assumption)) (fun c87 => ?_) (fun c87 => ?_)
                            ·
                              first
                              | (exfalso; omega)
                              | skip
                                rw [hW.bad (by omega) (by rw [hh]; omega)]
                                refine wp_iload (pc := 102) dX11_wrongInActs_102 rfl ?_
                                exact wp_ir (pc := 104) dX11_wrongInActs_104 rfl (by decide) (by decide) (by first | rfl | omega) rfl
                            ·
                              first
                              | (exfalso; omega)
                              | skip
                                refine wp_iload (pc := 90) dX11_wrongInActs_90 rfl ?_
                                refine wp_bipush (pc := 92) (y := 48) dX11_wrongInActs_92 (by decide) ?_
                                refine wp_icmp_ne (pc := 94) 105 dX11_wrongInActs_94 (by decide) (by first | omega | exact TI.i5 (by assumption) | exact TI.i3 (by assumption) | exact TI.i2 (by assumption) | exact TI.i1 (by assumption) | exact TI.i0 (by assumption) | exact TI.i4 (by assumption) | exact TI.i6 (by assumption) | exact TI.i7 (by assumption)) (by first | omega | exact TI.i5 (by assumption) | exact TI.i3 (by assumption) | exact TI.i2 (by assumption) | exact TI.i1 (by assumption) | exact TI.i0 (by assumption) | exact TI.i4 (by assumption) | exact TI.i6 (by assumption) | exact TI.i7 (by assumption)) (fun c94 => ?_) (fun c94 => ?_)
                                ·
                                  first
                                  | (exfalso; omega)
                                  | skip
                                    obtain ⟨m3, hW2⟩ := hW.good (by omega) (by rw [hh]; omega) (by rw [hh]; omega)
                                    have rag := ra
                                    refine wp_iinc (pc := 105) dX11_wrongInActs_105 rfl (by decide) ?_
                                    refine wp_iinc (pc := 108) dX11_wrongInActs_108 rfl (by decide) ?_
                                    refine wp_goto (pc := 111) 15 dX11_wrongInActs_111 (by decide) ?_
                                    refine wp_ls ?_ (ih (i + 1) (by omega) (by omega) _ _ _ rag hW2 (by omega))
                                    repeat' (first | exact LE_0 | refine LE_s rfl ?_ | refine LE_s (I_c (by first | omega | (simp only [sm]; omega))) ?_ | refine LE_s (J_c (by first | omega | exact Int.pow_succ _ _ | exact (Int.pow_succ _ _).symm | exact (Int.pow_zero _).symm | (simp only [sm]; omega))) ?_ | refine LE_n ?_)
                                ·
                                  first
                                  | (exfalso; omega)
                                  | skip
                                    refine wp_iload (pc := 97) dX11_wrongInActs_97 rfl ?_
                                    first | refine wp_ifb_ne (pc := 99) 105 dX11_wrongInActs_99 (by decide) (fun c99 => ?_) (fun c99 => ?_) | refine wp_if_ne (pc := 99) 105 dX11_wrongInActs_99 (by decide) (by first | omega | exact TI.i5 (by assumption) | exact TI.i3 (by assumption) | exact TI.i2 (by assumption) | exact TI.i1 (by assumption) | exact TI.i0 (by assumption) | exact TI.i4 (by assumption) | exact TI.i6 (by assumption) | exact TI.i7 (by assumption)) (fun c99 => ?_) (fun c99 => ?_)
                                    ·
                                      first
                                      | (exfalso; omega)
                                      | skip
                                        obtain ⟨m3, hW2⟩ := hW.good (by omega) (by rw [hh]; omega) (by rw [hh]; omega)
                                        have rag := ra
                                        refine wp_iinc (pc := 105) dX11_wrongInActs_105 rfl (by decide) ?_
                                        refine wp_iinc (pc := 108) dX11_wrongInActs_108 rfl (by decide) ?_
                                        refine wp_goto (pc := 111) 15 dX11_wrongInActs_111 (by decide) ?_
                                        refine wp_ls ?_ (ih (i + 1) (by omega) (by omega) _ _ _ rag hW2 (by omega))
                                        repeat' (first | exact LE_0 | refine LE_s rfl ?_ | refine LE_s (I_c (by first | omega | (simp only [sm]; omega))) ?_ | refine LE_s (J_c (by first | omega | exact Int.pow_succ _ _ | exact (Int.pow_succ _ _).symm | exact (Int.pow_zero _).symm | (simp only [sm]; omega))) ?_ | refine LE_n ?_)
                                    ·
                                      first
                                      | (exfalso; omega)
                                      | skip
                                        rw [hW.bad (by omega) (by rw [hh]; omega)]
                                        refine wp_iload (pc := 102) dX11_wrongInActs_102 rfl ?_
                                        exact wp_ir (pc := 104) dX11_wrongInActs_104 rfl (by decide) (by decide) (by first | rfl | omega) rfl
                        ·
                          first
                          | (exfalso; omega)
                          | skip
                            refine wp_iconst (pc := 75) dX11_wrongInActs_75 ?_
                            refine wp_goto (pc := 76) 80 dX11_wrongInActs_76 (by decide) ?_
                            refine wp_istore (pc := 80) dX11_wrongInActs_80 (by decide) ?_
                            refine wp_iload (pc := 82) dX11_wrongInActs_82 rfl ?_
                            refine wp_Sp (pc := 84) dX11_wrongInActs_84 cl_X11_130 (sp_D_isDigit (by omega)) rfl rfl (by decide) (Nat.le_of_ble_eq_true rfl) ?_
                            first | refine wp_ifb_eq (pc := 87) 102 dX11_wrongInActs_87 (by decide) (fun c87 => ?_) (fun c87 => ?_) | refine wp_if_eq (pc := 87) 102 dX11_wrongInActs_87 (by decide) (by first | omega | exact TI.i5 (by assumption) | exact TI.i3 (by assumption) | exact TI.i2 (by assumption) | exact TI.i1 (by assumption) | exact TI.i0 (by assumption) | exact TI.i4 (by assumption) | exact TI.i6 (by assumption) | exact TI.i7 (by assumption)) (fun c87 => ?_) (fun c87 => ?_)
                            ·
                              first
                              | (exfalso; omega)
                              | skip
                                rw [hW.bad (by omega) (by rw [hh]; omega)]
                                refine wp_iload (pc := 102) dX11_wrongInActs_102 rfl ?_
                                exact wp_ir (pc := 104) dX11_wrongInActs_104 rfl (by decide) (by decide) (by first | rfl | omega) rfl
                            ·
                              first
                              | (exfalso; omega)
                              | skip
                                refine wp_iload (pc := 90) dX11_wrongInActs_90 rfl ?_
                                refine wp_bipush (pc := 92) (y := 48) dX11_wrongInActs_92 (by decide) ?_
                                refine wp_icmp_ne (pc := 94) 105 dX11_wrongInActs_94 (by decide) (by first | omega | exact TI.i5 (by assumption) | exact TI.i3 (by assumption) | exact TI.i2 (by assumption) | exact TI.i1 (by assumption) | exact TI.i0 (by assumption) | exact TI.i4 (by assumption) | exact TI.i6 (by assumption) | exact TI.i7 (by assumption)) (by first | omega | exact TI.i5 (by assumption) | exact TI.i3 (by assumption) | exact TI.i2 (by assumption) | exact TI.i1 (by assumption) | exact TI.i0 (by assumption) | exact TI.i4 (by assumption) | exact TI.i6 (by assumption) | exact TI.i7 (by assumption)) (fun c94 => ?_) (fun c94 => ?_)
                                ·
                                  first
                                  | (exfalso; omega)
                                  | skip
                                    obtain ⟨m3, hW2⟩ := hW.good (by omega) (by rw [hh]; omega) (by rw [hh]; omega)
                                    have rag := ra
                                    refine wp_iinc (pc := 105) dX11_wrongInActs_105 rfl (by decide) ?_
                                    refine wp_iinc (pc := 108) dX11_wrongInActs_108 rfl (by decide) ?_
                                    refine wp_goto (pc := 111) 15 dX11_wrongInActs_111 (by decide) ?_
                                    refine wp_ls ?_ (ih (i + 1) (by omega) (by omega) _ _ _ rag hW2 (by omega))
                                    repeat' (first | exact LE_0 | refine LE_s rfl ?_ | refine LE_s (I_c (by first | omega | (simp only [sm]; omega))) ?_ | refine LE_s (J_c (by first | omega | exact Int.pow_succ _ _ | exact (Int.pow_succ _ _).symm | exact (Int.pow_zero _).symm | (simp only [sm]; omega))) ?_ | refine LE_n ?_)
                                ·
                                  first
                                  | (exfalso; omega)
                                  | skip
                                    refine wp_iload (pc := 97) dX11_wrongInActs_97 rfl ?_
                                    first | refine wp_ifb_ne (pc := 99) 105 dX11_wrongInActs_99 (by decide) (fun c99 => ?_) (fun c99 => ?_) | refine wp_if_ne (pc := 99) 105 dX11_wrongInActs_99 (by decide) (by first | omega | exact TI.i5 (by assumption) | exact TI.i3 (by assumption) | exact TI.i2 (by assumption) | exact TI.i1 (by assumption) | exact TI.i0 (by assumption) | exact TI.i4 (by assumption) | exact TI.i6 (by assumption) | exact TI.i7 (by assumption)) (fun c99 => ?_) (fun c99 => ?_)
                                    ·
                                      first
                                      | (exfalso; omega)
                                      | skip
                                        obtain ⟨m3, hW2⟩ := hW.good (by omega) (by rw [hh]; omega) (by rw [hh]; omega)
                                        have rag := ra
                                        refine wp_iinc (pc := 105) dX11_wrongInActs_105 rfl (by decide) ?_
                                        refine wp_iinc (pc := 108) dX11_wrongInActs_108 rfl (by decide) ?_
                                        refine wp_goto (pc := 111) 15 dX11_wrongInActs_111 (by decide) ?_
                                        refine wp_ls ?_ (ih (i + 1) (by omega) (by omega) _ _ _ rag hW2 (by omega))
                                        repeat' (first | exact LE_0 | refine LE_s rfl ?_ | refine LE_s (I_c (by first | omega | (simp only [sm]; omega))) ?_ | refine LE_s (J_c (by first | omega | exact Int.pow_succ _ _ | exact (Int.pow_succ _ _).symm | exact (Int.pow_zero _).symm | (simp only [sm]; omega))) ?_ | refine LE_n ?_)
                                    ·
                                      first
                                      | (exfalso; omega)
                                      | skip
                                        rw [hW.bad (by omega) (by rw [hh]; omega)]
                                        refine wp_iload (pc := 102) dX11_wrongInActs_102 rfl ?_
                                        exact wp_ir (pc := 104) dX11_wrongInActs_104 rfl (by decide) (by decide) (by first | rfl | omega) rfl
            ·
              have ed : d = 0 := by omega
              subst ed
              have hn3 := nd_in (tx.getD i 0) -- go
              refine wp_iload (pc := 43) dX11_wrongInActs_43 rfl ?_
              refine wp_istore_n (pc := 45) dX11_wrongInActs_45 (by decide) ?_
              refine wp_iload_n (pc := 46) dX11_wrongInActs_46 rfl ?_
              refine wp_Sp (pc := 47) dX11_wrongInActs_47 cl_X11_233 (sp_D_digitsOfAct (by omega)) rfl rfl (by decide) (Nat.le_of_ble_eq_true rfl) ?_
              refine wp_istore_n (pc := 50) dX11_wrongInActs_50 (by decide) ?_
              refine wp_iload_n (pc := 51) dX11_wrongInActs_51 rfl ?_
              first | refine wp_ifb_ne (pc := 52) 108 dX11_wrongInActs_52 (by decide) (fun c52 => ?_) (fun c52 => ?_) | refine wp_if_ne (pc := 52) 108 dX11_wrongInActs_52 (by decide) (by first | omega | exact TI.i5 (by assumption) | exact TI.i3 (by assumption) | exact TI.i2 (by assumption) | exact TI.i1 (by assumption) | exact TI.i0 (by assumption) | exact TI.i4 (by assumption) | exact TI.i6 (by assumption) | exact TI.i7 (by assumption)) (fun c52 => ?_) (fun c52 => ?_)
              ·
                have hW2 := hW.a1 (by omega) (by rw [hh]; omega)
                rw [hh] at hW2
                have rag : InR (tx.getD i 0) := by omega
                skip -- go
                refine wp_iinc (pc := 108) dX11_wrongInActs_108 rfl (by decide) ?_
                refine wp_goto (pc := 111) 15 dX11_wrongInActs_111 (by decide) ?_
                refine wp_ls ?_ (ih (i + 1) (by omega) (by omega) _ _ _ rag hW2 (by omega))
                repeat' (first | exact LE_0 | refine LE_s rfl ?_ | refine LE_s (I_c (by first | omega | (simp only [sm]; omega))) ?_ | refine LE_s (J_c (by first | omega | exact Int.pow_succ _ _ | exact (Int.pow_succ _ _).symm | exact (Int.pow_zero _).symm | (simp only [sm]; omega))) ?_ | refine LE_n ?_)
              ·
                rw [hW.a0 (by omega) (by rw [hh]; omega)] -- go
                refine wp_iload (pc := 55) dX11_wrongInActs_55 rfl ?_
                exact wp_ir (pc := 57) dX11_wrongInActs_57 rfl (by decide) (by decide) (by first | rfl | omega) rfl
theorem sp_D_wrongInActs (hl : byl tx) (K : DA hp D r s Tr z Z T U tx rw rt hs ss KT) : Sp g MX11_wrongInActs (rm 1 0 0) [.ref D] hp (Pur (.int (I (afv tx))) hp) := by
  refine Sp_mk rfl (Nat.le_of_ble_eq_true rfl) ?_
  show wp g _ _ _ 0 0 0 [some (.ref D), none, none, none, none, none, none] [] hp
  have O := SO.rf (hp := hp) (lo := D) (hi := D + 171)
  refine wp_aload_n (pc := 0) dX11_wrongInActs_0 rfl ?_
  refine wp_getf (pc := 1) dX11_wrongInActs_1 gf_X11_12 K.ob (by rfl) ?_
  refine wd_Vp (pc := 4) dX11_wrongInActs_4 cl_X11_106 (sp_Text_length K.te) rfl rfl K.te.o (by rfl) (by decide) (Nat.le_of_ble_eq_true rfl) ?_
  refine wp_istore_n (pc := 7) dX11_wrongInActs_7 (by decide) ?_
  refine wp_iconst (pc := 8) dX11_wrongInActs_8 ?_
  refine wp_istore_n (pc := 9) dX11_wrongInActs_9 (by decide) ?_
  refine wp_iconst (pc := 10) dX11_wrongInActs_10 ?_
  refine wp_istore_n (pc := 11) dX11_wrongInActs_11 (by decide) ?_
  refine wp_iconst (pc := 12) dX11_wrongInActs_12 ?_
  refine wp_istore (pc := 13) dX11_wrongInActs_13 (by decide) ?_
  refine wp_ls ?_ (lp_D_wia hl K (min tx.length 60 + 1) 0 (by omega) (by omega) 0 0 0 (by omega) ⟨fun r q => by omega, .inl ⟨rfl, rfl⟩⟩ (by omega))
  repeat' (first | exact LE_0 | refine LE_s rfl ?_ | refine LE_s (I_c (by first | omega | (simp only [sm]; omega))) ?_ | refine LE_s (J_c (by first | omega | exact Int.pow_succ _ _ | exact (Int.pow_succ _ _).symm | exact (Int.pow_zero _).symm | (simp only [sm]; omega))) ?_ | refine LE_n ?_)
def acB (cs : List Int) (T : Nat → Int → Int) (N : Nat) (c x y w : Int) : Int := if c = 104 then ((runW cs T N x.toNat : Nat) : Int) else acA T N c x y w
theorem acB_s {cs : List Int} : 0 ≤ acB cs T N c x y w ↔ 0 ≤ acA T N c x y w := by
  unfold acB
  split
  · rename_i h
    unfold acA
    rw [if_pos h]
    omega
  · exact Iff.rfl
theorem acB_R {cs : List Int} (hI : TI T N) (rx : 0 ≤ x ∧ x ≤ 9) : -4 ≤ acB cs T N c x y w ∧ acB cs T N c x y w ≤ 9999 := by
  have h1 := dieA_R (p := x) (m := y) hI
  have h2 := couA_R (p := x) hI
  have h3 := lenA_R (p := x) (q := y) (m := w) hI
  have h4 := payA_R (p := x) (q := y) (m := w) hI
  have h5 := runW_le cs T N x.toNat
  have h6 : N * x.toNat ≤ 6 * x.toNat := Nat.mul_le_mul_right _ hI.men.2
  unfold acB acA
  repeat' split
  all_goals omega
theorem sp_D_act (hI : TI T N) (hH : HS T) (hb : T 7 0 + 10 < 2000000000) (K : DA hp D r s Tr z Z T U tx rw rt hs ss KT) (hk : k < 100) (ec : tat tx (k : Int) = c) (ex : tat tx ((k : Int) + 1) - 48 = x) (ey : tat tx ((k : Int) + 2) - 48 = y) (ew : tat tx ((k : Int) + 3) - 48 = w) (hc : c = 104 ∨ c = 100 ∨ c = 99 ∨ c = 108 ∨ c = 112) (rx : 0 ≤ x ∧ x ≤ 9) (ry : InR y) (rw9 : InR w) : Sp g MX11_act (rm 6 0 0) [.ref D, .int (I (k : Int))] hp (Eff (.int (I (acB (stl rt) T N c x y w))) (fun hp2 => DA hp2 D r s Tr z Z (acT (stl rt) T N c x y w) U tx rw rt hs ss KT ∧ SO hp hp2 D (D + 171))) := by
  refine Sp_mk rfl (Nat.le_of_ble_eq_true rfl) ?_
  show wp g _ _ _ 0 0 0 [some (.ref D), some (.int (I (k : Int))), none, none, none] [] hp
  have O := SO.rf (hp := hp) (lo := D) (hi := D + 171)
  refine wp_aload_n (pc := 0) dX11_act_0 rfl ?_
  refine wp_getf (pc := 1) dX11_act_1 gf_X11_12 K.ob (by rfl) ?_
  refine wp_iload_n (pc := 4) dX11_act_4 rfl ?_
  refine wp_iconst (pc := 5) dX11_act_5 ?_
  refine wp_iadd (pc := 6) dX11_act_6 ?_
  refine wd_Vp (pc := 7) dX11_act_7 cl_X11_127 (sp_Text_at K.te (by first | assumption | omega)) rfl rfl K.te.o (by rfl) (by decide) (Nat.le_of_ble_eq_true rfl) ?_
  refine wp_bipush (pc := 10) (y := 48) dX11_act_10 (by decide) ?_
  refine wp_isub (pc := 12) dX11_act_12 ?_
  rw [ex]
  refine wp_istore_n (pc := 13) dX11_act_13 (by decide) ?_
  refine wp_aload_n (pc := 14) dX11_act_14 rfl ?_
  refine wp_getf (pc := 15) dX11_act_15 gf_X11_12 K.ob (by rfl) ?_
  refine wp_iload_n (pc := 18) dX11_act_18 rfl ?_
  refine wp_iconst (pc := 19) dX11_act_19 ?_
  refine wp_iadd (pc := 20) dX11_act_20 ?_
  refine wd_Vp (pc := 21) dX11_act_21 cl_X11_127 (sp_Text_at K.te (by first | assumption | omega)) rfl rfl K.te.o (by rfl) (by decide) (Nat.le_of_ble_eq_true rfl) ?_
  refine wp_bipush (pc := 24) (y := 48) dX11_act_24 (by decide) ?_
  refine wp_isub (pc := 26) dX11_act_26 ?_
  rw [ey]
  refine wp_istore_n (pc := 27) dX11_act_27 (by decide) ?_
  refine wp_aload_n (pc := 28) dX11_act_28 rfl ?_
  refine wp_getf (pc := 29) dX11_act_29 gf_X11_12 K.ob (by rfl) ?_
  refine wp_iload_n (pc := 32) dX11_act_32 rfl ?_
  refine wp_iconst (pc := 33) dX11_act_33 ?_
  refine wp_iadd (pc := 34) dX11_act_34 ?_
  refine wd_Vp (pc := 35) dX11_act_35 cl_X11_127 (sp_Text_at K.te (by first | assumption | omega)) rfl rfl K.te.o (by rfl) (by decide) (Nat.le_of_ble_eq_true rfl) ?_
  refine wp_bipush (pc := 38) (y := 48) dX11_act_38 (by decide) ?_
  refine wp_isub (pc := 40) dX11_act_40 ?_
  rw [ew]
  refine wp_istore (pc := 41) dX11_act_41 (by decide) ?_
  refine wp_aload_n (pc := 43) dX11_act_43 rfl ?_
  refine wp_getf (pc := 44) dX11_act_44 gf_X11_12 K.ob (by rfl) ?_
  refine wp_iload_n (pc := 47) dX11_act_47 rfl ?_
  refine wd_Vp (pc := 48) dX11_act_48 cl_X11_127 (sp_Text_at K.te (by first | assumption | omega)) rfl rfl K.te.o (by rfl) (by decide) (Nat.le_of_ble_eq_true rfl) ?_
  rw [ec]
  rcases hc with e | e | e | e | e
  · subst e
    refine wp_tswIn (pc := 51) 120 dX11_act_51 (by omega) (by decide) (by decide) rfl (by decide) ?_
    have e1 : acB (stl rt) T N 104 x y w = ((runW (stl rt) T N x.toNat : Nat) : Int) := if_pos rfl
    have e2 : acT (stl rt) T N 104 x y w = runT (stl rt) T N x.toNat := if_pos rfl
    rw [e1, e2]
    refine wp_aload_n (pc := 120) dX11_act_120 rfl ?_
    refine wp_getf (pc := 121) dX11_act_121 gf_X11_36 K.ob (by rfl) ?_
    refine wp_aload_n (pc := 124) dX11_act_124 rfl ?_
    refine wp_getf (pc := 125) dX11_act_125 gf_X11_26 K.ob (by rfl) ?_
    refine wp_aload_n (pc := 128) dX11_act_128 rfl ?_
    refine wp_getf (pc := 129) dX11_act_129 gf_X11_91 K.ob (by rfl) ?_
    refine wp_iload_n (pc := 132) dX11_act_132 rfl ?_
    refine wp_topE (show x = ((x.toNat : Nat) : Int) by omega) ?_
    refine wd_Vs (pc := 133) dX11_act_133 cl_X11_197 (sp_Clock_run (by first | exact K.to | exact K.tr) (by first | assumption | omega) (by first | assumption | omega) (by first | assumption | omega) (by first | assumption | omega) K.cl K.ru (by omega) (by have := K.rs; omega) (by have := K.rs; omega)) rfl rfl K.cl.o (by rfl) (by decide) (Nat.le_of_ble_eq_true rfl) (fun hp133 e133 => ?_)
    obtain ⟨t133, c133, u133, e1, o133⟩ := e133
    replace O := O.cr e1 o133 (by have := K.rs; omega) (by omega) (by omega)
    first | replace K := K.cTo t133 c133 u133 o133 | replace K := K.cTr t133 c133 u133 o133
    exact wp_ir (pc := 136) dX11_act_136 rfl (by decide) (by decide) (by first | rfl | omega) ⟨K, O⟩
  · subst e
    refine wp_tswIn (pc := 51) 137 dX11_act_51 (by omega) (by decide) (by decide) rfl (by decide) ?_
    have e1 : acB (stl rt) T N 100 x y w = dieA T N x y := rfl
    have e2 : acT (stl rt) T N 100 x y w = dieT T N x y := rfl
    rw [e1, e2]
    refine wp_aload_n (pc := 137) dX11_act_137 rfl ?_
    refine wp_getf (pc := 138) dX11_act_138 gf_X11_26 K.ob (by rfl) ?_
    refine wp_iload_n (pc := 141) dX11_act_141 rfl ?_
    refine wp_iload_n (pc := 142) dX11_act_142 rfl ?_
    refine wd_Vs (pc := 143) dX11_act_143 cl_X11_211 (sp_Town_letDie (by first | exact K.to | exact K.tr) (by first | assumption | omega) (by first | assumption | omega) (by first | assumption | omega)) rfl rfl (by first | exact K.to.o | exact K.tr.o | exact K.k0.o | exact K.k1.o) (by rfl) (by decide) (Nat.le_of_ble_eq_true rfl) (fun hp143 e143 => ?_)
    obtain ⟨h143, o143⟩ := e143
    replace O := O.inn o143 (by omega) (by omega)
    first | replace K := K.uTo h143 o143 | replace K := K.uTr h143 o143
    exact wp_ir (pc := 146) dX11_act_146 rfl (by decide) (by decide) (by first | rfl | omega) ⟨K, O⟩
  · subst e
    refine wp_tswIn (pc := 51) 147 dX11_act_51 (by omega) (by decide) (by decide) rfl (by decide) ?_
    have e1 : acB (stl rt) T N 99 x y w = couA T N x := rfl
    have e2 : acT (stl rt) T N 99 x y w = couT T N x := rfl
    rw [e1, e2]
    refine wp_aload_n (pc := 147) dX11_act_147 rfl ?_
    refine wp_getf (pc := 148) dX11_act_148 gf_X11_26 K.ob (by rfl) ?_
    refine wp_iload_n (pc := 151) dX11_act_151 rfl ?_
    refine wd_Vs (pc := 152) dX11_act_152 cl_X11_217 (sp_Town_letCough (by first | exact K.to | exact K.tr) (by first | assumption | omega) (by first | assumption | omega)) rfl rfl (by first | exact K.to.o | exact K.tr.o | exact K.k0.o | exact K.k1.o) (by rfl) (by decide) (Nat.le_of_ble_eq_true rfl) (fun hp152 e152 => ?_)
    obtain ⟨h152, o152⟩ := e152
    replace O := O.inn o152 (by omega) (by omega)
    first | replace K := K.uTo h152 o152 | replace K := K.uTr h152 o152
    exact wp_ir (pc := 155) dX11_act_155 rfl (by decide) (by decide) (by first | rfl | omega) ⟨K, O⟩
  · subst e
    refine wp_tswIn (pc := 51) 156 dX11_act_51 (by omega) (by decide) (by decide) rfl (by decide) ?_
    have e1 : acB (stl rt) T N 108 x y w = lenA T N x y w := rfl
    have e2 : acT (stl rt) T N 108 x y w = lenT T N x y w := rfl
    rw [e1, e2]
    refine wp_aload_n (pc := 156) dX11_act_156 rfl ?_
    refine wp_getf (pc := 157) dX11_act_157 gf_X11_26 K.ob (by rfl) ?_
    refine wp_iload_n (pc := 160) dX11_act_160 rfl ?_
    refine wp_iload_n (pc := 161) dX11_act_161 rfl ?_
    refine wp_iload (pc := 162) dX11_act_162 rfl ?_
    refine wd_Vs (pc := 164) dX11_act_164 cl_X11_220 (sp_Town_lend (by first | exact K.to | exact K.tr) (by first | assumption | omega) (by first | assumption | omega) (by first | assumption | omega) (by first | assumption | omega)) rfl rfl (by first | exact K.to.o | exact K.tr.o | exact K.k0.o | exact K.k1.o) (by rfl) (by decide) (Nat.le_of_ble_eq_true rfl) (fun hp164 e164 => ?_)
    obtain ⟨h164, o164⟩ := e164
    replace O := O.inn o164 (by omega) (by omega)
    first | replace K := K.uTo h164 o164 | replace K := K.uTr h164 o164
    exact wp_ir (pc := 167) dX11_act_167 rfl (by decide) (by decide) (by first | rfl | omega) ⟨K, O⟩
  · subst e
    refine wp_tswIn (pc := 51) 168 dX11_act_51 (by omega) (by decide) (by decide) rfl (by decide) ?_
    have e1 : acB (stl rt) T N 112 x y w = payA T N x y w := rfl
    have e2 : acT (stl rt) T N 112 x y w = payT T N x y w := rfl
    rw [e1, e2]
    refine wp_aload_n (pc := 168) dX11_act_168 rfl ?_
    refine wp_getf (pc := 169) dX11_act_169 gf_X11_26 K.ob (by rfl) ?_
    refine wp_iload_n (pc := 172) dX11_act_172 rfl ?_
    refine wp_iload_n (pc := 173) dX11_act_173 rfl ?_
    refine wp_iload (pc := 174) dX11_act_174 rfl ?_
    refine wd_Vs (pc := 176) dX11_act_176 cl_X11_224 (sp_Town_pay (by first | exact K.to | exact K.tr) (by first | assumption | omega) (by first | assumption | omega) (by first | assumption | omega) (by first | assumption | omega)) rfl rfl (by first | exact K.to.o | exact K.tr.o | exact K.k0.o | exact K.k1.o) (by rfl) (by decide) (Nat.le_of_ble_eq_true rfl) (fun hp176 e176 => ?_)
    obtain ⟨h176, o176⟩ := e176
    replace O := O.inn o176 (by omega) (by omega)
    first | replace K := K.uTo h176 o176 | replace K := K.uTr h176 o176
    exact wp_ir (pc := 179) dX11_act_179 rfl (by decide) (by decide) (by first | rfl | omega) ⟨K, O⟩
theorem noon_110 {wr at9 j9 : Value} {st : Int} (hI : TI (afT (stl rt) tx T N k) N) (hv : afv tx = -1) (hk : afk (stl rt) tx T N = k) (hst : st = if k < afn tx then 1 else 0) (hk6 : k ≤ 61) (K : DA hp D r s Tr z T (afT (stl rt) tx T N k) U tx rw rt hs ss KT) (O : SO hp0 hp D (D + 171)) : wp g MX11_afternoon (rm 7 0 0) (Eff (.int (I (noA (stl rt) tx T N))) (fun hp3 => DX hp3 D (noT (stl rt) tx T N) (noU (stl rt) tx T N U) [] (noR (stl rt) tx T N rw) rt hs ss KT ∧ SO hp0 hp3 D (D + 171))) 0 0 110 [some (.ref D), some wr, some (.int (I (k : Int))), some at9, some (.int (I st)), some j9] [] hp := by
  have e1 : noA (stl rt) tx T N = (k : Int) := by unfold noA; rw [if_pos hv, hk]
  have e2 : noT (stl rt) tx T N = afT (stl rt) tx T N k := by unfold noT; rw [if_pos hv, hk]
  have e3 : noU (stl rt) tx T N U = if 0 < k then (T :: U).take 12 else U := by
    unfold noU
    rw [hk]
    by_cases c : 0 < k
    · rw [if_pos ⟨hv, c⟩, if_pos c]
    · rw [if_neg (fun q => c q.2), if_neg c]
  have e4 : noR (stl rt) tx T N rw = [st, sm (afT (stl rt) tx T N k 3) N] := by unfold noR; rw [if_pos hv, hk, ← hst]
  have hN := hI.men.2
  have hs3 := sm_r3 hI
  have hst2 : st = 0 ∨ st = 1 := by rw [hst]; split <;> omega
  rw [e1, e2, e3, e4]
  refine wp_aload_n (pc := 110) dX11_afternoon_110 rfl ?_
  refine wp_getf (pc := 111) dX11_afternoon_111 gf_X11_12 K.ob (by rfl) ?_
  refine wd_Vn (pc := 114) dX11_afternoon_114 cl_X11_124 (sp_Text_clear K.te) rfl rfl K.te.o (by rfl) (by decide) (Nat.le_of_ble_eq_true rfl) (fun hp114 e114 => ?_)
  obtain ⟨h114, o114⟩ := e114
  replace O := O.inn o114 (by omega) (by omega)
  replace K := K.uTe h114 o114
  refine wp_iload_n (pc := 117) dX11_afternoon_117 rfl ?_
  refine wp_if_le (pc := 118) 128 dX11_afternoon_118 (by decide) (by first | omega | exact TI.i5 (by assumption) | exact TI.i3 (by assumption) | exact TI.i2 (by assumption) | exact TI.i1 (by assumption) | exact TI.i0 (by assumption) | exact TI.i4 (by assumption) | exact TI.i6 (by assumption) | exact TI.i7 (by assumption)) (fun c118 => ?_) (fun c118 => ?_)
  ·
    rw [if_neg (by omega)] -- go
    refine wp_aload_n (pc := 128) dX11_afternoon_128 rfl ?_
    refine wp_getf (pc := 129) dX11_afternoon_129 gf_X11_19 K.ob (by rfl) ?_
    refine wp_iload (pc := 132) dX11_afternoon_132 rfl ?_
    first | refine wp_ifb_eq (pc := 134) 141 dX11_afternoon_134 (by decide) (fun c134 => ?_) (fun c134 => ?_) | refine wp_if_eq (pc := 134) 141 dX11_afternoon_134 (by decide) (by first | omega | exact TI.i5 (by assumption) | exact TI.i3 (by assumption) | exact TI.i2 (by assumption) | exact TI.i1 (by assumption) | exact TI.i0 (by assumption) | exact TI.i4 (by assumption) | exact TI.i6 (by assumption) | exact TI.i7 (by assumption)) (fun c134 => ?_) (fun c134 => ?_)
    ·
      rw [show st = 0 by omega] -- go
      refine wp_lcst (pc := 141) (y := 0) dX11_afternoon_141 rfl ?_
      refine wp_aload_n (pc := 142) dX11_afternoon_142 rfl ?_
      refine wp_getf (pc := 143) dX11_afternoon_143 gf_X11_26 K.ob (by rfl) ?_
      refine wp_aload_n (pc := 146) dX11_afternoon_146 rfl ?_
      refine wp_getf (pc := 147) dX11_afternoon_147 gf_X11_26 K.ob (by rfl) ?_
      refine wp_getf (pc := 150) dX11_afternoon_150 gf_X11_154 (by first | exact K.ob | exact K.to.1 | exact K.tr.1 | exact K.to.2.1 | exact K.to.2.2.1 | exact K.to.2.2.2.1 | exact K.to.2.2.2.2.1 | exact K.to.2.2.2.2.2.1 | exact K.to.2.2.2.2.2.2.1 | exact K.to.2.2.2.2.2.2.2 | exact K.tr.2.1 | exact K.tr.2.2.1 | exact K.tr.2.2.2.1 | exact K.tr.2.2.2.2.1 | exact K.tr.2.2.2.2.2.1 | exact K.tr.2.2.2.2.2.2.1 | exact K.tr.2.2.2.2.2.2.2) (by rfl) ?_
      refine wd_Vp (pc := 153) dX11_afternoon_153 cl_X11_189 (sp_Town_sum (by first | assumption | omega | exact K.to | exact K.tr | exact K.to.2.1 | exact K.to.2.2.1 | exact K.to.2.2.2.1 | exact K.to.2.2.2.2.1 | exact K.to.2.2.2.2.2.1 | exact K.to.2.2.2.2.2.2.1 | exact K.to.2.2.2.2.2.2.2 | exact K.tr.2.1 | exact K.tr.2.2.1 | exact K.tr.2.2.2.1 | exact K.tr.2.2.2.2.1 | exact K.tr.2.2.2.2.2.1 | exact K.tr.2.2.2.2.2.2.1 | exact K.tr.2.2.2.2.2.2.2) (by first | assumption | omega | exact K.to | exact K.tr | exact K.to.2.1 | exact K.to.2.2.1 | exact K.to.2.2.2.1 | exact K.to.2.2.2.2.1 | exact K.to.2.2.2.2.2.1 | exact K.to.2.2.2.2.2.2.1 | exact K.to.2.2.2.2.2.2.2 | exact K.tr.2.1 | exact K.tr.2.2.1 | exact K.tr.2.2.2.1 | exact K.tr.2.2.2.2.1 | exact K.tr.2.2.2.2.2.1 | exact K.tr.2.2.2.2.2.2.1 | exact K.tr.2.2.2.2.2.2.2) (by first | assumption | omega | exact K.to | exact K.tr | exact K.to.2.1 | exact K.to.2.2.1 | exact K.to.2.2.2.1 | exact K.to.2.2.2.2.1 | exact K.to.2.2.2.2.2.1 | exact K.to.2.2.2.2.2.2.1 | exact K.to.2.2.2.2.2.2.2 | exact K.tr.2.1 | exact K.tr.2.2.1 | exact K.tr.2.2.2.1 | exact K.tr.2.2.2.2.1 | exact K.tr.2.2.2.2.2.1 | exact K.tr.2.2.2.2.2.2.1 | exact K.tr.2.2.2.2.2.2.2) (by first | assumption | omega | exact K.to | exact K.tr | exact K.to.2.1 | exact K.to.2.2.1 | exact K.to.2.2.2.1 | exact K.to.2.2.2.2.1 | exact K.to.2.2.2.2.2.1 | exact K.to.2.2.2.2.2.2.1 | exact K.to.2.2.2.2.2.2.2 | exact K.tr.2.1 | exact K.tr.2.2.1 | exact K.tr.2.2.2.1 | exact K.tr.2.2.2.2.1 | exact K.tr.2.2.2.2.2.1 | exact K.tr.2.2.2.2.2.2.1 | exact K.tr.2.2.2.2.2.2.2) (by first | assumption | omega | exact K.to | exact K.tr | exact K.to.2.1 | exact K.to.2.2.1 | exact K.to.2.2.2.1 | exact K.to.2.2.2.2.1 | exact K.to.2.2.2.2.2.1 | exact K.to.2.2.2.2.2.2.1 | exact K.to.2.2.2.2.2.2.2 | exact K.tr.2.1 | exact K.tr.2.2.1 | exact K.tr.2.2.2.1 | exact K.tr.2.2.2.2.1 | exact K.tr.2.2.2.2.2.1 | exact K.tr.2.2.2.2.2.2.1 | exact K.tr.2.2.2.2.2.2.2)) rfl rfl (by first | exact K.to.o | exact K.tr.o | exact K.k0.o | exact K.k1.o) (by rfl) (by decide) (Nat.le_of_ble_eq_true rfl) ?_
      refine wp_i2l (pc := 156) dX11_afternoon_156 (by first | omega | exact TI.i5 (by assumption) | exact TI.i3 (by assumption) | exact TI.i2 (by assumption) | exact TI.i1 (by assumption) | exact TI.i0 (by assumption) | exact TI.i4 (by assumption) | exact TI.i6 (by assumption) | exact TI.i7 (by assumption)) ?_
      refine wd_Vn (pc := 157) dX11_afternoon_157 cl_X11_204 (sp_Row_tell_ K.ro) rfl rfl K.ro.o (by rfl) (by decide) (Nat.le_of_ble_eq_true rfl) (fun hp157 e157 => ?_)
      obtain ⟨h157, o157⟩ := e157
      replace O := O.inn o157 (by omega) (by omega)
      replace K := K.uRo h157 o157
      refine wp_iload_n (pc := 160) dX11_afternoon_160 rfl ?_
      exact wp_ir (pc := 161) dX11_afternoon_161 rfl (by decide) (by decide) (by first | rfl | omega) ⟨⟨_, _, _, _, _, K⟩, O⟩
    ·
      rw [show st = 1 by omega] -- go
      refine wp_lcst (pc := 137) (y := 1) dX11_afternoon_137 rfl ?_
      refine wp_goto (pc := 138) 142 dX11_afternoon_138 (by decide) ?_
      refine wp_aload_n (pc := 142) dX11_afternoon_142 rfl ?_
      refine wp_getf (pc := 143) dX11_afternoon_143 gf_X11_26 K.ob (by rfl) ?_
      refine wp_aload_n (pc := 146) dX11_afternoon_146 rfl ?_
      refine wp_getf (pc := 147) dX11_afternoon_147 gf_X11_26 K.ob (by rfl) ?_
      refine wp_getf (pc := 150) dX11_afternoon_150 gf_X11_154 (by first | exact K.ob | exact K.to.1 | exact K.tr.1 | exact K.to.2.1 | exact K.to.2.2.1 | exact K.to.2.2.2.1 | exact K.to.2.2.2.2.1 | exact K.to.2.2.2.2.2.1 | exact K.to.2.2.2.2.2.2.1 | exact K.to.2.2.2.2.2.2.2 | exact K.tr.2.1 | exact K.tr.2.2.1 | exact K.tr.2.2.2.1 | exact K.tr.2.2.2.2.1 | exact K.tr.2.2.2.2.2.1 | exact K.tr.2.2.2.2.2.2.1 | exact K.tr.2.2.2.2.2.2.2) (by rfl) ?_
      refine wd_Vp (pc := 153) dX11_afternoon_153 cl_X11_189 (sp_Town_sum (by first | assumption | omega | exact K.to | exact K.tr | exact K.to.2.1 | exact K.to.2.2.1 | exact K.to.2.2.2.1 | exact K.to.2.2.2.2.1 | exact K.to.2.2.2.2.2.1 | exact K.to.2.2.2.2.2.2.1 | exact K.to.2.2.2.2.2.2.2 | exact K.tr.2.1 | exact K.tr.2.2.1 | exact K.tr.2.2.2.1 | exact K.tr.2.2.2.2.1 | exact K.tr.2.2.2.2.2.1 | exact K.tr.2.2.2.2.2.2.1 | exact K.tr.2.2.2.2.2.2.2) (by first | assumption | omega | exact K.to | exact K.tr | exact K.to.2.1 | exact K.to.2.2.1 | exact K.to.2.2.2.1 | exact K.to.2.2.2.2.1 | exact K.to.2.2.2.2.2.1 | exact K.to.2.2.2.2.2.2.1 | exact K.to.2.2.2.2.2.2.2 | exact K.tr.2.1 | exact K.tr.2.2.1 | exact K.tr.2.2.2.1 | exact K.tr.2.2.2.2.1 | exact K.tr.2.2.2.2.2.1 | exact K.tr.2.2.2.2.2.2.1 | exact K.tr.2.2.2.2.2.2.2) (by first | assumption | omega | exact K.to | exact K.tr | exact K.to.2.1 | exact K.to.2.2.1 | exact K.to.2.2.2.1 | exact K.to.2.2.2.2.1 | exact K.to.2.2.2.2.2.1 | exact K.to.2.2.2.2.2.2.1 | exact K.to.2.2.2.2.2.2.2 | exact K.tr.2.1 | exact K.tr.2.2.1 | exact K.tr.2.2.2.1 | exact K.tr.2.2.2.2.1 | exact K.tr.2.2.2.2.2.1 | exact K.tr.2.2.2.2.2.2.1 | exact K.tr.2.2.2.2.2.2.2) (by first | assumption | omega | exact K.to | exact K.tr | exact K.to.2.1 | exact K.to.2.2.1 | exact K.to.2.2.2.1 | exact K.to.2.2.2.2.1 | exact K.to.2.2.2.2.2.1 | exact K.to.2.2.2.2.2.2.1 | exact K.to.2.2.2.2.2.2.2 | exact K.tr.2.1 | exact K.tr.2.2.1 | exact K.tr.2.2.2.1 | exact K.tr.2.2.2.2.1 | exact K.tr.2.2.2.2.2.1 | exact K.tr.2.2.2.2.2.2.1 | exact K.tr.2.2.2.2.2.2.2) (by first | assumption | omega | exact K.to | exact K.tr | exact K.to.2.1 | exact K.to.2.2.1 | exact K.to.2.2.2.1 | exact K.to.2.2.2.2.1 | exact K.to.2.2.2.2.2.1 | exact K.to.2.2.2.2.2.2.1 | exact K.to.2.2.2.2.2.2.2 | exact K.tr.2.1 | exact K.tr.2.2.1 | exact K.tr.2.2.2.1 | exact K.tr.2.2.2.2.1 | exact K.tr.2.2.2.2.2.1 | exact K.tr.2.2.2.2.2.2.1 | exact K.tr.2.2.2.2.2.2.2)) rfl rfl (by first | exact K.to.o | exact K.tr.o | exact K.k0.o | exact K.k1.o) (by rfl) (by decide) (Nat.le_of_ble_eq_true rfl) ?_
      refine wp_i2l (pc := 156) dX11_afternoon_156 (by first | omega | exact TI.i5 (by assumption) | exact TI.i3 (by assumption) | exact TI.i2 (by assumption) | exact TI.i1 (by assumption) | exact TI.i0 (by assumption) | exact TI.i4 (by assumption) | exact TI.i6 (by assumption) | exact TI.i7 (by assumption)) ?_
      refine wd_Vn (pc := 157) dX11_afternoon_157 cl_X11_204 (sp_Row_tell_ K.ro) rfl rfl K.ro.o (by rfl) (by decide) (Nat.le_of_ble_eq_true rfl) (fun hp157 e157 => ?_)
      obtain ⟨h157, o157⟩ := e157
      replace O := O.inn o157 (by omega) (by omega)
      replace K := K.uRo h157 o157
      refine wp_iload_n (pc := 160) dX11_afternoon_160 rfl ?_
      exact wp_ir (pc := 161) dX11_afternoon_161 rfl (by decide) (by decide) (by first | rfl | omega) ⟨⟨_, _, _, _, _, K⟩, O⟩
  ·
    rw [if_pos (by omega)] -- go
    refine wp_aload_n (pc := 121) dX11_afternoon_121 rfl ?_
    refine wp_getf (pc := 122) dX11_afternoon_122 gf_X11_43 K.ob (by rfl) ?_
    refine wd_Vn (pc := 125) dX11_afternoon_125 cl_X11_201 (sp_L_keep K.pa) rfl rfl K.pa.o (by rfl) (by decide) (Nat.le_of_ble_eq_true rfl) (fun hp125 e125 => ?_)
    obtain ⟨⟨Z125, h125⟩, o125⟩ := e125
    replace O := O.inn o125 (by omega) (by omega)
    replace K := K.uPa h125 o125
    refine wp_aload_n (pc := 128) dX11_afternoon_128 rfl ?_
    refine wp_getf (pc := 129) dX11_afternoon_129 gf_X11_19 K.ob (by rfl) ?_
    refine wp_iload (pc := 132) dX11_afternoon_132 rfl ?_
    first | refine wp_ifb_eq (pc := 134) 141 dX11_afternoon_134 (by decide) (fun c134 => ?_) (fun c134 => ?_) | refine wp_if_eq (pc := 134) 141 dX11_afternoon_134 (by decide) (by first | omega | exact TI.i5 (by assumption) | exact TI.i3 (by assumption) | exact TI.i2 (by assumption) | exact TI.i1 (by assumption) | exact TI.i0 (by assumption) | exact TI.i4 (by assumption) | exact TI.i6 (by assumption) | exact TI.i7 (by assumption)) (fun c134 => ?_) (fun c134 => ?_)
    ·
      rw [show st = 0 by omega] -- go
      refine wp_lcst (pc := 141) (y := 0) dX11_afternoon_141 rfl ?_
      refine wp_aload_n (pc := 142) dX11_afternoon_142 rfl ?_
      refine wp_getf (pc := 143) dX11_afternoon_143 gf_X11_26 K.ob (by rfl) ?_
      refine wp_aload_n (pc := 146) dX11_afternoon_146 rfl ?_
      refine wp_getf (pc := 147) dX11_afternoon_147 gf_X11_26 K.ob (by rfl) ?_
      refine wp_getf (pc := 150) dX11_afternoon_150 gf_X11_154 (by first | exact K.ob | exact K.to.1 | exact K.tr.1 | exact K.to.2.1 | exact K.to.2.2.1 | exact K.to.2.2.2.1 | exact K.to.2.2.2.2.1 | exact K.to.2.2.2.2.2.1 | exact K.to.2.2.2.2.2.2.1 | exact K.to.2.2.2.2.2.2.2 | exact K.tr.2.1 | exact K.tr.2.2.1 | exact K.tr.2.2.2.1 | exact K.tr.2.2.2.2.1 | exact K.tr.2.2.2.2.2.1 | exact K.tr.2.2.2.2.2.2.1 | exact K.tr.2.2.2.2.2.2.2) (by rfl) ?_
      refine wd_Vp (pc := 153) dX11_afternoon_153 cl_X11_189 (sp_Town_sum (by first | assumption | omega | exact K.to | exact K.tr | exact K.to.2.1 | exact K.to.2.2.1 | exact K.to.2.2.2.1 | exact K.to.2.2.2.2.1 | exact K.to.2.2.2.2.2.1 | exact K.to.2.2.2.2.2.2.1 | exact K.to.2.2.2.2.2.2.2 | exact K.tr.2.1 | exact K.tr.2.2.1 | exact K.tr.2.2.2.1 | exact K.tr.2.2.2.2.1 | exact K.tr.2.2.2.2.2.1 | exact K.tr.2.2.2.2.2.2.1 | exact K.tr.2.2.2.2.2.2.2) (by first | assumption | omega | exact K.to | exact K.tr | exact K.to.2.1 | exact K.to.2.2.1 | exact K.to.2.2.2.1 | exact K.to.2.2.2.2.1 | exact K.to.2.2.2.2.2.1 | exact K.to.2.2.2.2.2.2.1 | exact K.to.2.2.2.2.2.2.2 | exact K.tr.2.1 | exact K.tr.2.2.1 | exact K.tr.2.2.2.1 | exact K.tr.2.2.2.2.1 | exact K.tr.2.2.2.2.2.1 | exact K.tr.2.2.2.2.2.2.1 | exact K.tr.2.2.2.2.2.2.2) (by first | assumption | omega | exact K.to | exact K.tr | exact K.to.2.1 | exact K.to.2.2.1 | exact K.to.2.2.2.1 | exact K.to.2.2.2.2.1 | exact K.to.2.2.2.2.2.1 | exact K.to.2.2.2.2.2.2.1 | exact K.to.2.2.2.2.2.2.2 | exact K.tr.2.1 | exact K.tr.2.2.1 | exact K.tr.2.2.2.1 | exact K.tr.2.2.2.2.1 | exact K.tr.2.2.2.2.2.1 | exact K.tr.2.2.2.2.2.2.1 | exact K.tr.2.2.2.2.2.2.2) (by first | assumption | omega | exact K.to | exact K.tr | exact K.to.2.1 | exact K.to.2.2.1 | exact K.to.2.2.2.1 | exact K.to.2.2.2.2.1 | exact K.to.2.2.2.2.2.1 | exact K.to.2.2.2.2.2.2.1 | exact K.to.2.2.2.2.2.2.2 | exact K.tr.2.1 | exact K.tr.2.2.1 | exact K.tr.2.2.2.1 | exact K.tr.2.2.2.2.1 | exact K.tr.2.2.2.2.2.1 | exact K.tr.2.2.2.2.2.2.1 | exact K.tr.2.2.2.2.2.2.2) (by first | assumption | omega | exact K.to | exact K.tr | exact K.to.2.1 | exact K.to.2.2.1 | exact K.to.2.2.2.1 | exact K.to.2.2.2.2.1 | exact K.to.2.2.2.2.2.1 | exact K.to.2.2.2.2.2.2.1 | exact K.to.2.2.2.2.2.2.2 | exact K.tr.2.1 | exact K.tr.2.2.1 | exact K.tr.2.2.2.1 | exact K.tr.2.2.2.2.1 | exact K.tr.2.2.2.2.2.1 | exact K.tr.2.2.2.2.2.2.1 | exact K.tr.2.2.2.2.2.2.2)) rfl rfl (by first | exact K.to.o | exact K.tr.o | exact K.k0.o | exact K.k1.o) (by rfl) (by decide) (Nat.le_of_ble_eq_true rfl) ?_
      refine wp_i2l (pc := 156) dX11_afternoon_156 (by first | omega | exact TI.i5 (by assumption) | exact TI.i3 (by assumption) | exact TI.i2 (by assumption) | exact TI.i1 (by assumption) | exact TI.i0 (by assumption) | exact TI.i4 (by assumption) | exact TI.i6 (by assumption) | exact TI.i7 (by assumption)) ?_
      refine wd_Vn (pc := 157) dX11_afternoon_157 cl_X11_204 (sp_Row_tell_ K.ro) rfl rfl K.ro.o (by rfl) (by decide) (Nat.le_of_ble_eq_true rfl) (fun hp157 e157 => ?_)
      obtain ⟨h157, o157⟩ := e157
      replace O := O.inn o157 (by omega) (by omega)
      replace K := K.uRo h157 o157
      refine wp_iload_n (pc := 160) dX11_afternoon_160 rfl ?_
      exact wp_ir (pc := 161) dX11_afternoon_161 rfl (by decide) (by decide) (by first | rfl | omega) ⟨⟨_, _, _, _, _, K⟩, O⟩
    ·
      rw [show st = 1 by omega] -- go
      refine wp_lcst (pc := 137) (y := 1) dX11_afternoon_137 rfl ?_
      refine wp_goto (pc := 138) 142 dX11_afternoon_138 (by decide) ?_
      refine wp_aload_n (pc := 142) dX11_afternoon_142 rfl ?_
      refine wp_getf (pc := 143) dX11_afternoon_143 gf_X11_26 K.ob (by rfl) ?_
      refine wp_aload_n (pc := 146) dX11_afternoon_146 rfl ?_
      refine wp_getf (pc := 147) dX11_afternoon_147 gf_X11_26 K.ob (by rfl) ?_
      refine wp_getf (pc := 150) dX11_afternoon_150 gf_X11_154 (by first | exact K.ob | exact K.to.1 | exact K.tr.1 | exact K.to.2.1 | exact K.to.2.2.1 | exact K.to.2.2.2.1 | exact K.to.2.2.2.2.1 | exact K.to.2.2.2.2.2.1 | exact K.to.2.2.2.2.2.2.1 | exact K.to.2.2.2.2.2.2.2 | exact K.tr.2.1 | exact K.tr.2.2.1 | exact K.tr.2.2.2.1 | exact K.tr.2.2.2.2.1 | exact K.tr.2.2.2.2.2.1 | exact K.tr.2.2.2.2.2.2.1 | exact K.tr.2.2.2.2.2.2.2) (by rfl) ?_
      refine wd_Vp (pc := 153) dX11_afternoon_153 cl_X11_189 (sp_Town_sum (by first | assumption | omega | exact K.to | exact K.tr | exact K.to.2.1 | exact K.to.2.2.1 | exact K.to.2.2.2.1 | exact K.to.2.2.2.2.1 | exact K.to.2.2.2.2.2.1 | exact K.to.2.2.2.2.2.2.1 | exact K.to.2.2.2.2.2.2.2 | exact K.tr.2.1 | exact K.tr.2.2.1 | exact K.tr.2.2.2.1 | exact K.tr.2.2.2.2.1 | exact K.tr.2.2.2.2.2.1 | exact K.tr.2.2.2.2.2.2.1 | exact K.tr.2.2.2.2.2.2.2) (by first | assumption | omega | exact K.to | exact K.tr | exact K.to.2.1 | exact K.to.2.2.1 | exact K.to.2.2.2.1 | exact K.to.2.2.2.2.1 | exact K.to.2.2.2.2.2.1 | exact K.to.2.2.2.2.2.2.1 | exact K.to.2.2.2.2.2.2.2 | exact K.tr.2.1 | exact K.tr.2.2.1 | exact K.tr.2.2.2.1 | exact K.tr.2.2.2.2.1 | exact K.tr.2.2.2.2.2.1 | exact K.tr.2.2.2.2.2.2.1 | exact K.tr.2.2.2.2.2.2.2) (by first | assumption | omega | exact K.to | exact K.tr | exact K.to.2.1 | exact K.to.2.2.1 | exact K.to.2.2.2.1 | exact K.to.2.2.2.2.1 | exact K.to.2.2.2.2.2.1 | exact K.to.2.2.2.2.2.2.1 | exact K.to.2.2.2.2.2.2.2 | exact K.tr.2.1 | exact K.tr.2.2.1 | exact K.tr.2.2.2.1 | exact K.tr.2.2.2.2.1 | exact K.tr.2.2.2.2.2.1 | exact K.tr.2.2.2.2.2.2.1 | exact K.tr.2.2.2.2.2.2.2) (by first | assumption | omega | exact K.to | exact K.tr | exact K.to.2.1 | exact K.to.2.2.1 | exact K.to.2.2.2.1 | exact K.to.2.2.2.2.1 | exact K.to.2.2.2.2.2.1 | exact K.to.2.2.2.2.2.2.1 | exact K.to.2.2.2.2.2.2.2 | exact K.tr.2.1 | exact K.tr.2.2.1 | exact K.tr.2.2.2.1 | exact K.tr.2.2.2.2.1 | exact K.tr.2.2.2.2.2.1 | exact K.tr.2.2.2.2.2.2.1 | exact K.tr.2.2.2.2.2.2.2) (by first | assumption | omega | exact K.to | exact K.tr | exact K.to.2.1 | exact K.to.2.2.1 | exact K.to.2.2.2.1 | exact K.to.2.2.2.2.1 | exact K.to.2.2.2.2.2.1 | exact K.to.2.2.2.2.2.2.1 | exact K.to.2.2.2.2.2.2.2 | exact K.tr.2.1 | exact K.tr.2.2.1 | exact K.tr.2.2.2.1 | exact K.tr.2.2.2.2.1 | exact K.tr.2.2.2.2.2.1 | exact K.tr.2.2.2.2.2.2.1 | exact K.tr.2.2.2.2.2.2.2)) rfl rfl (by first | exact K.to.o | exact K.tr.o | exact K.k0.o | exact K.k1.o) (by rfl) (by decide) (Nat.le_of_ble_eq_true rfl) ?_
      refine wp_i2l (pc := 156) dX11_afternoon_156 (by first | omega | exact TI.i5 (by assumption) | exact TI.i3 (by assumption) | exact TI.i2 (by assumption) | exact TI.i1 (by assumption) | exact TI.i0 (by assumption) | exact TI.i4 (by assumption) | exact TI.i6 (by assumption) | exact TI.i7 (by assumption)) ?_
      refine wd_Vn (pc := 157) dX11_afternoon_157 cl_X11_204 (sp_Row_tell_ K.ro) rfl rfl K.ro.o (by rfl) (by decide) (Nat.le_of_ble_eq_true rfl) (fun hp157 e157 => ?_)
      obtain ⟨h157, o157⟩ := e157
      replace O := O.inn o157 (by omega) (by omega)
      replace K := K.uRo h157 o157
      refine wp_iload_n (pc := 160) dX11_afternoon_160 rfl ?_
      exact wp_ir (pc := 161) dX11_afternoon_161 rfl (by decide) (by decide) (by first | rfl | omega) ⟨⟨_, _, _, _, _, K⟩, O⟩
theorem noon_42 {wr : Value} {p9 j9 : Int} (rp : InR p9) (rj : InR j9) (hI : TI (afT (stl rt) tx T N k) N) (hv : afv tx = -1) (hk : afk (stl rt) tx T N = k) (hst : k < afn tx) (hk6 : k ≤ 61) (K : DA hp D r s Tr z T (afT (stl rt) tx T N k) U tx rw rt hs ss KT) (O : SO hp0 hp D (D + 171)) : wp g MX11_afternoon (rm 7 0 0) (Eff (.int (I (noA (stl rt) tx T N))) (fun hp3 => DX hp3 D (noT (stl rt) tx T N) (noU (stl rt) tx T N U) [] (noR (stl rt) tx T N rw) rt hs ss KT ∧ SO hp0 hp3 D (D + 171))) 0 0 42 [some (.ref D), some wr, some (.int (I (k : Int))), some (.int (I p9)), some (.int (I 1)), some (.int (I j9))] [] hp := by
  have hlen : tx.length ≤ 80 := by obtain ⟨S, r0, r1, q, _⟩ := K.te; exact q
  refine wp_iload (pc := 42) dX11_afternoon_42 rfl ?_
  refine wp_bipush (pc := 44) (y := 60) dX11_afternoon_44 (by decide) ?_
  refine wp_icmp_ge (pc := 46) 110 dX11_afternoon_46 (by decide) (by first | omega | exact TI.i5 (by assumption) | exact TI.i3 (by assumption) | exact TI.i2 (by assumption) | exact TI.i1 (by assumption) | exact TI.i0 (by assumption) | exact TI.i4 (by assumption) | exact TI.i6 (by assumption) | exact TI.i7 (by assumption)) (by first | omega | exact TI.i5 (by assumption) | exact TI.i3 (by assumption) | exact TI.i2 (by assumption) | exact TI.i1 (by assumption) | exact TI.i0 (by assumption) | exact TI.i4 (by assumption) | exact TI.i6 (by assumption) | exact TI.i7 (by assumption)) (fun c46 => ?_) (fun c46 => ?_)
  ·
    exact noon_110 hI hv hk (if_pos hst).symm hk6 K O
  ·
    refine wp_iload_n (pc := 49) dX11_afternoon_49 rfl ?_
    refine wp_aload_n (pc := 50) dX11_afternoon_50 rfl ?_
    refine wp_getf (pc := 51) dX11_afternoon_51 gf_X11_12 K.ob (by rfl) ?_
    refine wd_Vp (pc := 54) dX11_afternoon_54 cl_X11_106 (sp_Text_length K.te) rfl rfl K.te.o (by rfl) (by decide) (Nat.le_of_ble_eq_true rfl) ?_
    refine wp_icmp_ge (pc := 57) 110 dX11_afternoon_57 (by decide) (by first | omega | exact TI.i5 (by assumption) | exact TI.i3 (by assumption) | exact TI.i2 (by assumption) | exact TI.i1 (by assumption) | exact TI.i0 (by assumption) | exact TI.i4 (by assumption) | exact TI.i6 (by assumption) | exact TI.i7 (by assumption)) (by first | omega | exact TI.i5 (by assumption) | exact TI.i3 (by assumption) | exact TI.i2 (by assumption) | exact TI.i1 (by assumption) | exact TI.i0 (by assumption) | exact TI.i4 (by assumption) | exact TI.i6 (by assumption) | exact TI.i7 (by assumption)) (fun c57 => ?_) (fun c57 => ?_)
    ·
      exact noon_110 hI hv hk (if_pos hst).symm hk6 K O
    ·
      refine wp_iload (pc := 60) dX11_afternoon_60 rfl ?_
      first | refine wp_ifb_ne (pc := 62) 110 dX11_afternoon_62 (by decide) (fun c62 => ?_) (fun c62 => ?_) | refine wp_if_ne (pc := 62) 110 dX11_afternoon_62 (by decide) (by first | omega | exact TI.i5 (by assumption) | exact TI.i3 (by assumption) | exact TI.i2 (by assumption) | exact TI.i1 (by assumption) | exact TI.i0 (by assumption) | exact TI.i4 (by assumption) | exact TI.i6 (by assumption) | exact TI.i7 (by assumption)) (fun c62 => ?_) (fun c62 => ?_)
      ·
        exact noon_110 hI hv hk (if_pos hst).symm hk6 K O
      ·
        exact absurd c62 (by omega)
theorem af_all (l : List Int) : AR l (afn l) ∧ afn l ≤ 30 ∧ (afv l = -1 → l.length ≤ ap l (afn l)) := by
  have h : ∃ n, AR l n ∧ ¬ (ap l n < l.length ∧ abd l (ap l n) = -1) := by
    apply Classical.byContradiction
    intro hc
    have ha : ∀ n, AR l n := by
      intro n
      induction n with
      | zero => exact fun r q => by omega
      | succ n ih =>
        have : ap l n < l.length ∧ abd l (ap l n) = -1 := Classical.byContradiction fun q => hc ⟨n, ih, q⟩
        exact ih.nxt1 this.2 this.1
    have := ap_ge 31 (ha 31)
    omega
  obtain ⟨n, hR, hn⟩ := h
  have h3 := ap_ge n hR
  have e : afn l = n := gn_eq hR hn 62 0 (by omega) (by omega)
  rw [e]
  refine ⟨hR, by omega, fun q => ?_⟩
  unfold afv at q
  rw [e] at q
  by_cases c : l.length ≤ ap l n
  · exact c
  · rw [if_neg c] at q
    exact absurd ⟨by omega, q⟩ hn
theorem lp_D_noon (hI : TI T N) (hH : HS T) (hb : T 7 0 < 1900000000) (hl : byl tx) (hv : afv tx = -1) : ∀ (m i : Nat), (afn tx) < i + m → i ≤ (afn tx) → ∀ (hp2 : Hp) (K : DA hp2 D r s Tr z T (afT (stl rt) tx T N i) U tx rw rt hs ss KT) (O : SO hp hp2 D (D + 171)) (hD : ∀ r : Nat, r < i → 0 ≤ afA (stl rt) tx T N r), wp g MX11_afternoon (rm 7 0 0) (Eff (.int (I (noA (stl rt) tx T N))) (fun hp3 => DX hp3 D (noT (stl rt) tx T N) (noU (stl rt) tx T N U) [] (noR (stl rt) tx T N rw) rt hs ss KT ∧ SO hp hp3 D (D + 171))) 0 0 42 [some (.ref D), some (.int (I (-1))), some (.int (I (i : Int))), some (.int (I (ap tx i : Nat))), some (.int (I 0)), some (.int (I (i : Int)))] [] hp2 := by
  intro m
  induction m with
  | zero => intro i h1 h2; exact absurd h1 (by omega)
  | succ m ih =>
    intro i h1 h2 hp2 K O hD
    obtain ⟨hR, h30, hend⟩ := af_all tx
    have hend := hend hv
    have hlen : tx.length ≤ 80 := by obtain ⟨S, r0, r1, q, _⟩ := K.te; exact q
    obtain ⟨hI2, hH2, h72⟩ := afT_I (cs := stl rt) hI hH hb hR i (by omega) (by omega)
    have hap := ap_ge i (fun r q => hR r (by omega))
    refine wp_iload (pc := 42) dX11_afternoon_42 rfl ?_
    refine wp_bipush (pc := 44) (y := 60) dX11_afternoon_44 (by decide) ?_
    refine wp_icmp_ge (pc := 46) 110 dX11_afternoon_46 (by decide) (by first | omega | exact TI.i5 (by assumption) | exact TI.i3 (by assumption) | exact TI.i2 (by assumption) | exact TI.i1 (by assumption) | exact TI.i0 (by assumption) | exact TI.i4 (by assumption) | exact TI.i6 (by assumption) | exact TI.i7 (by assumption)) (by first | omega | exact TI.i5 (by assumption) | exact TI.i3 (by assumption) | exact TI.i2 (by assumption) | exact TI.i1 (by assumption) | exact TI.i0 (by assumption) | exact TI.i4 (by assumption) | exact TI.i6 (by assumption) | exact TI.i7 (by assumption)) (fun c46 => ?_) (fun c46 => ?_)
    ·
      exact absurd c46 (by omega)
    ·
      first
      | (exfalso; omega)
      | skip
        refine wp_iload_n (pc := 49) dX11_afternoon_49 rfl ?_
        refine wp_aload_n (pc := 50) dX11_afternoon_50 rfl ?_
        refine wp_getf (pc := 51) dX11_afternoon_51 gf_X11_12 K.ob (by rfl) ?_
        refine wd_Vp (pc := 54) dX11_afternoon_54 cl_X11_106 (sp_Text_length K.te) rfl rfl K.te.o (by rfl) (by decide) (Nat.le_of_ble_eq_true rfl) ?_
        refine wp_icmp_ge (pc := 57) 110 dX11_afternoon_57 (by decide) (by first | omega | exact TI.i5 (by assumption) | exact TI.i3 (by assumption) | exact TI.i2 (by assumption) | exact TI.i1 (by assumption) | exact TI.i0 (by assumption) | exact TI.i4 (by assumption) | exact TI.i6 (by assumption) | exact TI.i7 (by assumption)) (by first | omega | exact TI.i5 (by assumption) | exact TI.i3 (by assumption) | exact TI.i2 (by assumption) | exact TI.i1 (by assumption) | exact TI.i0 (by assumption) | exact TI.i4 (by assumption) | exact TI.i6 (by assumption) | exact TI.i7 (by assumption)) (fun c57 => ?_) (fun c57 => ?_)
        ·
          have e : i = afn tx := by
            by_cases q : i = afn tx
            · exact q
            · have := (hR i (by omega)).2
              omega
          have hk : afk (stl rt) tx T N = i := gd_eq (by omega) hD (fun q => by omega) (afn tx + 1) 0 (by omega) (by omega)
          refine wp_ls ?_ (noon_110 (st := 0) (wr := .int (I (-1))) (at9 := .int (I (ap tx i : Nat))) (j9 := .int (I (i : Int))) hI2 hv hk (if_neg (by omega)).symm (by omega) K O)
          repeat' (first | exact LE_0 | refine LE_s rfl ?_ | refine LE_s (I_c (by first | omega | (simp only [sm]; omega))) ?_ | refine LE_s (J_c (by first | omega | exact Int.pow_succ _ _ | exact (Int.pow_succ _ _).symm | exact (Int.pow_zero _).symm | (simp only [sm]; omega))) ?_ | refine LE_n ?_)
        ·
          first
          | (exfalso; omega)
          | skip
            refine wp_iload (pc := 60) dX11_afternoon_60 rfl ?_
            first | refine wp_ifb_ne (pc := 62) 110 dX11_afternoon_62 (by decide) (fun c62 => ?_) (fun c62 => ?_) | refine wp_if_ne (pc := 62) 110 dX11_afternoon_62 (by decide) (by first | omega | exact TI.i5 (by assumption) | exact TI.i3 (by assumption) | exact TI.i2 (by assumption) | exact TI.i1 (by assumption) | exact TI.i0 (by assumption) | exact TI.i4 (by assumption) | exact TI.i6 (by assumption) | exact TI.i7 (by assumption)) (fun c62 => ?_) (fun c62 => ?_)
            ·
              exact absurd c62 (by omega)
            ·
              first
              | (exfalso; omega)
              | skip
                have hlt : i < afn tx := by
                  by_cases q : i = afn tx
                  · rw [q] at c57; omega
                  · omega
                obtain ⟨hab, hlp⟩ := hR i hlt
                have hin := abd_in hab
                have hn3 := nd_in (hr tx 60 (ap tx i))
                have hc := nd_c hin.1
                have hx := abd_x hab
                have ec : tat tx ((ap tx i : Nat) : Int) = hr tx 60 (ap tx i) := by rw [tat_in hlp, hr_at hlp (by omega)]
                have ex : tat tx (((ap tx i : Nat) : Int) + 1) - 48 = hr tx 60 (ap tx i + 1) - 48 := by rw [show ((ap tx i : Nat) : Int) + 1 = ((ap tx i + 1 : Nat) : Int) by omega, tat_in (by omega), hr_at (by omega) (by omega)]
                have ey : 2 ≤ nd (hr tx 60 (ap tx i)) → tat tx (((ap tx i : Nat) : Int) + 2) - 48 = hr tx 60 (ap tx i + 1 + 1) - 48 := fun q => by rw [show ((ap tx i : Nat) : Int) + 2 = ((ap tx i + 1 + 1 : Nat) : Int) by omega, tat_in (by omega), hr_at (by omega) (by omega)]
                have ew : 3 ≤ nd (hr tx 60 (ap tx i)) → tat tx (((ap tx i : Nat) : Int) + 3) - 48 = hr tx 60 (ap tx i + 1 + 1 + 1) - 48 := fun q => by rw [show ((ap tx i : Nat) : Int) + 3 = ((ap tx i + 1 + 1 + 1 : Nat) : Int) by omega, tat_in (by omega), hr_at (by omega) (by omega)]
                have ecg := ac_cg (cs := stl rt) (T := afT (stl rt) tx T N i) (N := N) (c := hr tx 60 (ap tx i)) (x := hr tx 60 (ap tx i + 1) - 48) ey ew hin.1
                have er := acB_R (cs := stl rt) (c := hr tx 60 (ap tx i)) (x := hr tx 60 (ap tx i + 1) - 48) (y := tat tx (((ap tx i : Nat) : Int) + 2) - 48) (w := tat tx (((ap tx i : Nat) : Int) + 3) - 48) hI2 hx
                have es := acB_s (cs := stl rt) (T := afT (stl rt) tx T N i) (N := N) (c := hr tx 60 (ap tx i)) (x := hr tx 60 (ap tx i + 1) - 48) (y := tat tx (((ap tx i : Nat) : Int) + 2) - 48) (w := tat tx (((ap tx i : Nat) : Int) + 3) - 48)
                rw [ecg.2] at es
                have ty := tat_R hl (i := ((ap tx i : Nat) : Int) + 2)
                have tw := tat_R hl (i := ((ap tx i : Nat) : Int) + 3)
                refine wp_aload_n (pc := 65) dX11_afternoon_65 rfl ?_
                refine wp_iload_n (pc := 66) dX11_afternoon_66 rfl ?_
                refine wd_Vs (pc := 67) dX11_afternoon_67 cl_X11_230 (sp_D_act hI2 hH2 (by omega) K (by omega) ec ex rfl rfl hc hx (by omega) (by omega)) rfl rfl K.o (by rfl) (by decide) (Nat.le_of_ble_eq_true rfl) (fun hp67 e67 => ?_)
                obtain ⟨K, O1⟩ := e67; replace O := SO.tr O O1
                rw [ecg.1] at K
                replace K : DA hp67 D r s Tr z T (afT (stl rt) tx T N (i + 1)) U tx rw rt hs ss KT := K
                replace es : 0 ≤ acB (stl rt) (afT (stl rt) tx T N i) N (hr tx 60 (ap tx i)) (hr tx 60 (ap tx i + 1) - 48) (tat tx (((ap tx i : Nat) : Int) + 2) - 48) (tat tx (((ap tx i : Nat) : Int) + 3) - 48) ↔ 0 ≤ afA (stl rt) tx T N i := es
                refine wp_if_ge (pc := 70) 77 dX11_afternoon_70 (by decide) (by first | omega | exact TI.i5 (by assumption) | exact TI.i3 (by assumption) | exact TI.i2 (by assumption) | exact TI.i1 (by assumption) | exact TI.i0 (by assumption) | exact TI.i4 (by assumption) | exact TI.i6 (by assumption) | exact TI.i7 (by assumption)) (fun c70 => ?_) (fun c70 => ?_)
                ·
                  have hD2 : ∀ r : Nat, r < i + 1 → 0 ≤ afA (stl rt) tx T N r := fun r q => by
                    by_cases e : r = i
                    · subst e; exact es.1 (by omega)
                    · exact hD r (by omega)
                  skip -- go
                  refine wp_iconst (pc := 77) dX11_afternoon_77 ?_
                  refine wp_istore (pc := 78) dX11_afternoon_78 (by decide) ?_
                  refine wp_iload (pc := 80) dX11_afternoon_80 rfl ?_
                  first | refine wp_ifb_ne (pc := 82) 104 dX11_afternoon_82 (by decide) (fun c82 => ?_) (fun c82 => ?_) | refine wp_if_ne (pc := 82) 104 dX11_afternoon_82 (by decide) (by first | omega | exact TI.i5 (by assumption) | exact TI.i3 (by assumption) | exact TI.i2 (by assumption) | exact TI.i1 (by assumption) | exact TI.i0 (by assumption) | exact TI.i4 (by assumption) | exact TI.i6 (by assumption) | exact TI.i7 (by assumption)) (fun c82 => ?_) (fun c82 => ?_)
                  ·
                    first
                    | (exfalso; omega)
                    | skip
                      refine wp_iinc (pc := 104) dX11_afternoon_104 rfl (by decide) ?_
                      refine wp_goto (pc := 107) 42 dX11_afternoon_107 (by decide) ?_
                      first
                      | refine wp_ls ?_ (ih (i + 1) (by omega) (by omega) _ K O hD2)
                        have ea : ap tx (i + 1) = ap tx i + 1 + nd (hr tx 60 (ap tx i)) := rfl
                        rw [ea]
                        repeat' (first | exact LE_0 | refine LE_s rfl ?_ | refine LE_s (I_c (by first | omega | (simp only [sm]; omega))) ?_ | refine LE_s (J_c (by first | omega | exact Int.pow_succ _ _ | exact (Int.pow_succ _ _).symm | exact (Int.pow_zero _).symm | (simp only [sm]; omega))) ?_ | refine LE_n ?_)
                      | refine wp_ls ?_ (noon_42 (wr := .int (I (-1))) (p9 := ((ap tx i : Nat) : Int)) (j9 := (i : Int) + 1) (by omega) (by omega) hI2 hv hk hlt (by omega) K O)
                        repeat' (first | exact LE_0 | refine LE_s rfl ?_ | refine LE_s (I_c (by first | omega | (simp only [sm]; omega))) ?_ | refine LE_s (J_c (by first | omega | exact Int.pow_succ _ _ | exact (Int.pow_succ _ _).symm | exact (Int.pow_zero _).symm | (simp only [sm]; omega))) ?_ | refine LE_n ?_)
                  ·
                    first
                    | (exfalso; omega)
                    | skip
                      refine wp_iinc (pc := 85) dX11_afternoon_85 rfl (by decide) ?_
                      refine wp_iload_n (pc := 88) dX11_afternoon_88 rfl ?_
                      refine wp_iconst (pc := 89) dX11_afternoon_89 ?_
                      refine wp_aload_n (pc := 90) dX11_afternoon_90 rfl ?_
                      refine wp_getf (pc := 91) dX11_afternoon_91 gf_X11_12 K.ob (by rfl) ?_
                      refine wp_iload_n (pc := 94) dX11_afternoon_94 rfl ?_
                      refine wd_Vp (pc := 95) dX11_afternoon_95 cl_X11_127 (sp_Text_at K.te (by first | assumption | omega)) rfl rfl K.te.o (by rfl) (by decide) (Nat.le_of_ble_eq_true rfl) ?_
                      rw [ec]
                      refine wp_Sp (pc := 98) dX11_afternoon_98 cl_X11_233 (sp_D_digitsOfAct (by omega)) rfl rfl (by decide) (Nat.le_of_ble_eq_true rfl) ?_
                      refine wp_iadd (pc := 101) dX11_afternoon_101 ?_
                      refine wp_iadd (pc := 102) dX11_afternoon_102 ?_
                      refine wp_istore_n (pc := 103) dX11_afternoon_103 (by decide) ?_
                      refine wp_iinc (pc := 104) dX11_afternoon_104 rfl (by decide) ?_
                      refine wp_goto (pc := 107) 42 dX11_afternoon_107 (by decide) ?_
                      first
                      | refine wp_ls ?_ (ih (i + 1) (by omega) (by omega) _ K O hD2)
                        have ea : ap tx (i + 1) = ap tx i + 1 + nd (hr tx 60 (ap tx i)) := rfl
                        rw [ea]
                        repeat' (first | exact LE_0 | refine LE_s rfl ?_ | refine LE_s (I_c (by first | omega | (simp only [sm]; omega))) ?_ | refine LE_s (J_c (by first | omega | exact Int.pow_succ _ _ | exact (Int.pow_succ _ _).symm | exact (Int.pow_zero _).symm | (simp only [sm]; omega))) ?_ | refine LE_n ?_)
                      | refine wp_ls ?_ (noon_42 (wr := .int (I (-1))) (p9 := ((ap tx i : Nat) : Int)) (j9 := (i : Int) + 1) (by omega) (by omega) hI2 hv hk hlt (by omega) K O)
                        repeat' (first | exact LE_0 | refine LE_s rfl ?_ | refine LE_s (I_c (by first | omega | (simp only [sm]; omega))) ?_ | refine LE_s (J_c (by first | omega | exact Int.pow_succ _ _ | exact (Int.pow_succ _ _).symm | exact (Int.pow_zero _).symm | (simp only [sm]; omega))) ?_ | refine LE_n ?_)
                ·
                  have hno : ¬ 0 ≤ afA (stl rt) tx T N i := fun q => by have := es.2 q; omega
                  have eT : afT (stl rt) tx T N (i + 1) = afT (stl rt) tx T N i := acT_no hI2 hno
                  rw [eT] at K
                  have hk : afk (stl rt) tx T N = i := gd_eq (by omega) hD (fun _ => hno) (afn tx + 1) 0 (by omega) (by omega)
                  skip -- go
                  refine wp_iconst (pc := 73) dX11_afternoon_73 ?_
                  refine wp_goto (pc := 74) 78 dX11_afternoon_74 (by decide) ?_
                  refine wp_istore (pc := 78) dX11_afternoon_78 (by decide) ?_
                  refine wp_iload (pc := 80) dX11_afternoon_80 rfl ?_
                  first | refine wp_ifb_ne (pc := 82) 104 dX11_afternoon_82 (by decide) (fun c82 => ?_) (fun c82 => ?_) | refine wp_if_ne (pc := 82) 104 dX11_afternoon_82 (by decide) (by first | omega | exact TI.i5 (by assumption) | exact TI.i3 (by assumption) | exact TI.i2 (by assumption) | exact TI.i1 (by assumption) | exact TI.i0 (by assumption) | exact TI.i4 (by assumption) | exact TI.i6 (by assumption) | exact TI.i7 (by assumption)) (fun c82 => ?_) (fun c82 => ?_)
                  ·
                    first
                    | (exfalso; omega)
                    | skip
                      refine wp_iinc (pc := 104) dX11_afternoon_104 rfl (by decide) ?_
                      refine wp_goto (pc := 107) 42 dX11_afternoon_107 (by decide) ?_
                      first
                      | refine wp_ls ?_ (ih (i + 1) (by omega) (by omega) _ K O hD2)
                        have ea : ap tx (i + 1) = ap tx i + 1 + nd (hr tx 60 (ap tx i)) := rfl
                        rw [ea]
                        repeat' (first | exact LE_0 | refine LE_s rfl ?_ | refine LE_s (I_c (by first | omega | (simp only [sm]; omega))) ?_ | refine LE_s (J_c (by first | omega | exact Int.pow_succ _ _ | exact (Int.pow_succ _ _).symm | exact (Int.pow_zero _).symm | (simp only [sm]; omega))) ?_ | refine LE_n ?_)
                      | refine wp_ls ?_ (noon_42 (wr := .int (I (-1))) (p9 := ((ap tx i : Nat) : Int)) (j9 := (i : Int) + 1) (by omega) (by omega) hI2 hv hk hlt (by omega) K O)
                        repeat' (first | exact LE_0 | refine LE_s rfl ?_ | refine LE_s (I_c (by first | omega | (simp only [sm]; omega))) ?_ | refine LE_s (J_c (by first | omega | exact Int.pow_succ _ _ | exact (Int.pow_succ _ _).symm | exact (Int.pow_zero _).symm | (simp only [sm]; omega))) ?_ | refine LE_n ?_)
                  ·
                    first
                    | (exfalso; omega)
                    | skip
                      refine wp_iinc (pc := 85) dX11_afternoon_85 rfl (by decide) ?_
                      refine wp_iload_n (pc := 88) dX11_afternoon_88 rfl ?_
                      refine wp_iconst (pc := 89) dX11_afternoon_89 ?_
                      refine wp_aload_n (pc := 90) dX11_afternoon_90 rfl ?_
                      refine wp_getf (pc := 91) dX11_afternoon_91 gf_X11_12 K.ob (by rfl) ?_
                      refine wp_iload_n (pc := 94) dX11_afternoon_94 rfl ?_
                      refine wd_Vp (pc := 95) dX11_afternoon_95 cl_X11_127 (sp_Text_at K.te (by first | assumption | omega)) rfl rfl K.te.o (by rfl) (by decide) (Nat.le_of_ble_eq_true rfl) ?_
                      rw [ec]
                      refine wp_Sp (pc := 98) dX11_afternoon_98 cl_X11_233 (sp_D_digitsOfAct (by omega)) rfl rfl (by decide) (Nat.le_of_ble_eq_true rfl) ?_
                      refine wp_iadd (pc := 101) dX11_afternoon_101 ?_
                      refine wp_iadd (pc := 102) dX11_afternoon_102 ?_
                      refine wp_istore_n (pc := 103) dX11_afternoon_103 (by decide) ?_
                      refine wp_iinc (pc := 104) dX11_afternoon_104 rfl (by decide) ?_
                      refine wp_goto (pc := 107) 42 dX11_afternoon_107 (by decide) ?_
                      first
                      | refine wp_ls ?_ (ih (i + 1) (by omega) (by omega) _ K O hD2)
                        have ea : ap tx (i + 1) = ap tx i + 1 + nd (hr tx 60 (ap tx i)) := rfl
                        rw [ea]
                        repeat' (first | exact LE_0 | refine LE_s rfl ?_ | refine LE_s (I_c (by first | omega | (simp only [sm]; omega))) ?_ | refine LE_s (J_c (by first | omega | exact Int.pow_succ _ _ | exact (Int.pow_succ _ _).symm | exact (Int.pow_zero _).symm | (simp only [sm]; omega))) ?_ | refine LE_n ?_)
                      | refine wp_ls ?_ (noon_42 (wr := .int (I (-1))) (p9 := ((ap tx i : Nat) : Int)) (j9 := (i : Int) + 1) (by omega) (by omega) hI2 hv hk hlt (by omega) K O)
                        repeat' (first | exact LE_0 | refine LE_s rfl ?_ | refine LE_s (I_c (by first | omega | (simp only [sm]; omega))) ?_ | refine LE_s (J_c (by first | omega | exact Int.pow_succ _ _ | exact (Int.pow_succ _ _).symm | exact (Int.pow_zero _).symm | (simp only [sm]; omega))) ?_ | refine LE_n ?_)
theorem sp_D_afternoon (K : DA hp D r s Tr z Z T U tx rw rt hs ss KT) (hI : TI T N) (hH : HS T) (hb : T 7 0 < 1900000000) (hl : byl tx) : Sp g MX11_afternoon (rm 7 0 0) [.ref D] hp (Eff (.int (I (noA (stl rt) tx T N))) (fun hp2 => DX hp2 D (noT (stl rt) tx T N) (noU (stl rt) tx T N U) [] (noR (stl rt) tx T N rw) rt hs ss KT ∧ SO hp hp2 D (D + 171))) := by
  have hlen : tx.length ≤ 80 := by obtain ⟨S, r0, r1, q, _⟩ := K.te; exact q
  have hvr : -1 ≤ afv tx ∧ afv tx ≤ 80 := by
    obtain ⟨hR, h30, hend⟩ := af_all tx
    have hap := ap_ge (afn tx) hR
    unfold afv
    split
    · omega
    · by_cases q : abd tx (ap tx (afn tx)) = -1
      · omega
      · have := abd_r q
        omega
  refine Sp_mk rfl (Nat.le_of_ble_eq_true rfl) ?_
  show wp g _ _ _ 0 0 0 [some (.ref D), none, none, none, none, none] [] hp
  have O := SO.rf (hp := hp) (lo := D) (hi := D + 171)
  refine wp_aload_n (pc := 0) dX11_afternoon_0 rfl ?_
  refine wd_Vp (pc := 1) dX11_afternoon_1 cl_X11_227 (sp_D_wrongInActs hl K) rfl rfl K.o (by rfl) (by decide) (Nat.le_of_ble_eq_true rfl) ?_
  refine wp_istore_n (pc := 4) dX11_afternoon_4 (by decide) ?_
  refine wp_iload_n (pc := 5) dX11_afternoon_5 rfl ?_
  refine wp_iconst (pc := 6) dX11_afternoon_6 ?_
  refine wp_icmp_eq (pc := 7) 21 dX11_afternoon_7 (by decide) (by first | omega | exact TI.i5 (by assumption) | exact TI.i3 (by assumption) | exact TI.i2 (by assumption) | exact TI.i1 (by assumption) | exact TI.i0 (by assumption) | exact TI.i4 (by assumption) | exact TI.i6 (by assumption) | exact TI.i7 (by assumption)) (by first | omega | exact TI.i5 (by assumption) | exact TI.i3 (by assumption) | exact TI.i2 (by assumption) | exact TI.i1 (by assumption) | exact TI.i0 (by assumption) | exact TI.i4 (by assumption) | exact TI.i6 (by assumption) | exact TI.i7 (by assumption)) (fun c7 => ?_) (fun c7 => ?_)
  ·
    refine wp_aload_n (pc := 21) dX11_afternoon_21 rfl ?_
    refine wp_getf (pc := 22) dX11_afternoon_22 gf_X11_43 K.ob (by rfl) ?_
    refine wp_aload_n (pc := 25) dX11_afternoon_25 rfl ?_
    refine wp_getf (pc := 26) dX11_afternoon_26 gf_X11_26 K.ob (by rfl) ?_
    refine wd_Vn (pc := 29) dX11_afternoon_29 cl_X11_193 (sp_L_note K.pa K.to (by omega)) rfl rfl K.pa.o (by rfl) (by decide) (Nat.le_of_ble_eq_true rfl) (fun hp29 e29 => ?_)
    obtain ⟨h29, o29⟩ := e29
    replace O := O.inn o29 (by omega) (by omega)
    replace K := K.uPa h29 o29
    refine wp_iconst (pc := 32) dX11_afternoon_32 ?_
    refine wp_istore_n (pc := 33) dX11_afternoon_33 (by decide) ?_
    refine wp_iconst (pc := 34) dX11_afternoon_34 ?_
    refine wp_istore_n (pc := 35) dX11_afternoon_35 (by decide) ?_
    refine wp_iconst (pc := 36) dX11_afternoon_36 ?_
    refine wp_istore (pc := 37) dX11_afternoon_37 (by decide) ?_
    refine wp_iconst (pc := 39) dX11_afternoon_39 ?_
    refine wp_istore (pc := 40) dX11_afternoon_40 (by decide) ?_
    refine wp_ls ?_ (lp_D_noon hI hH hb hl c7 (afn tx + 1) 0 (by omega) (by omega) _ K O (fun r q => by omega))
    repeat' (first | exact LE_0 | refine LE_s rfl ?_ | refine LE_s (I_c (by first | omega | (simp only [sm]; omega))) ?_ | refine LE_s (J_c (by first | omega | exact Int.pow_succ _ _ | exact (Int.pow_succ _ _).symm | exact (Int.pow_zero _).symm | (simp only [sm]; omega))) ?_ | refine LE_n ?_)
  ·
    have e1 : noA (stl rt) tx T N = -1 - afv tx := if_neg c7
    have e2 : noT (stl rt) tx T N = T := if_neg c7
    have e3 : noU (stl rt) tx T N U = U := if_neg (fun q => c7 q.1)
    have e4 : noR (stl rt) tx T N rw = rw := if_neg c7
    rw [e1, e2, e3, e4] -- go
    refine wp_aload_n (pc := 10) dX11_afternoon_10 rfl ?_
    refine wp_getf (pc := 11) dX11_afternoon_11 gf_X11_12 K.ob (by rfl) ?_
    refine wd_Vn (pc := 14) dX11_afternoon_14 cl_X11_124 (sp_Text_clear K.te) rfl rfl K.te.o (by rfl) (by decide) (Nat.le_of_ble_eq_true rfl) (fun hp14 e14 => ?_)
    obtain ⟨h14, o14⟩ := e14
    replace O := O.inn o14 (by omega) (by omega)
    replace K := K.uTe h14 o14
    refine wp_iconst (pc := 17) dX11_afternoon_17 ?_
    refine wp_iload_n (pc := 18) dX11_afternoon_18 rfl ?_
    refine wp_isub (pc := 19) dX11_afternoon_19 ?_
    exact wp_ir (pc := 20) dX11_afternoon_20 rfl (by decide) (by decide) (by first | rfl | omega) ⟨⟨_, _, _, _, _, K⟩, O⟩
end D9

