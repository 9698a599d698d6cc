/-! the reference: the bank, eulogies at rest -/
section MT_
variable {g : GT} {hp hp0 : Hp} {q N n a b s k p : Nat} {V V2 V3 : Nat → Int} {A A2 A3 : Nat → Int → Int} {rd rl : Value} {i j x v c y z w th o d : Int} {T T2 : Nat → Int → Int} {l t cs tx rw rw2 rt : List Int} {G f F D : Int → Int} {U U2 : List (Nat → Int → Int)} {hs : List (Int × Int)} {ss : List (Int × Int × Int)} {KT : Nat → Option (Nat → Int → Int)} {L L2 : List Nat}
/-- the least take with c coins, by who may still take k (1: who is to take, 2: the other one) -/
def Bk (x : Int) (c w : Nat) : Int := ltk (tkw x (c - 1)) c (2 * ((w % 2 : Nat) : Int) + ((w / 2 : Nat) : Int)) x
theorem ltk_in {W : Int → Int} (hc : 1 ≤ c ∧ c ≤ 99) (hx : 2 ≤ x ∧ x ≤ 9) : 0 ≤ ltk W c o x ∧ ltk W c o x ≤ 99 := by
  unfold ltk mi
  (repeat' split) <;> omega
theorem tkw_at (x : Int) {c o : Nat} (ho : o < 4) (hc : 1 ≤ c) : ∀ n, c ≤ n → tkw x n ((c : Int) * 4 + o) = if 0 < ltk (tkw x (c - 1)) c o x then 1 else 0
  | 0, h => by omega
  | n + 1, h => by
    show (if (c : Int) * 4 + o < 4 * ((n : Int) + 1) then tkw x n ((c : Int) * 4 + o) else if 0 < ltk (tkw x n) ((n : Int) + 1) ((c : Int) * 4 + o - 4 * ((n : Int) + 1)) x then 1 else 0) = _
    by_cases z : c = n + 1
    · subst z
      rw [if_neg (by omega), show ((n + 1 : Nat) : Int) * 4 + (o : Int) - 4 * ((n : Int) + 1) = (o : Int) by omega]
      rfl
    · rw [if_pos (by omega)]
      exact tkw_at x ho hc n (by omega)
theorem tkw_0 (x : Int) {o : Nat} (ho : o < 4) : ∀ n, tkw x n ((0 : Int) * 4 + o) = 1
  | 0 => rfl
  | n + 1 => by
    show (if (0 : Int) * 4 + o < 4 * ((n : Int) + 1) then _ else _) = _
    rw [if_pos (by omega)]
    exact tkw_0 x ho n
/-- the reference's row, filled below c coins -/
def BR (x : Int) (F : Int → Int) (c : Nat) : Prop := ∀ c' w : Nat, 1 ≤ c' → c' < c → w < 4 → F (4 * (c' : Int) + w) = Bk x c' w
theorem won_los {c m w : Nat} (hx : 2 ≤ x ∧ x ≤ 9) (hc : c ≤ 99) (hF : BR x F c) (hm : m < c) (hw : w < 4) : (0 < (m : Int) ∧ F (4 * (m : Int) + w) = 0) ↔ los (tkw x (c - 1)) m (2 * ((w % 2 : Nat) : Int) + ((w / 2 : Nat) : Int)) := by
  have e : 2 * ((w % 2 : Nat) : Int) + ((w / 2 : Nat) : Int) = ((2 * (w % 2) + w / 2 : Nat) : Int) := by omega
  unfold los
  rw [e]
  by_cases z : m = 0
  · subst z
    have h0 := tkw_0 x (o := 2 * (w % 2) + w / 2) (by omega) (c - 1)
    constructor
    · intro h; omega
    · intro h
      have h3 := h.2.2
      have h4 : tkw x (c - 1) ((0 : Int) * 4 + ((2 * (w % 2) + w / 2 : Nat) : Int)) = 0 := h3
      omega
  · have h1 := tkw_at x (c := m) (o := 2 * (w % 2) + w / 2) (by omega) (by omega) (c - 1) (by omega)
    have h2 := hF m w (by omega) hm hw
    have hb : Bk x m w = ltk (tkw x (m - 1)) m ((2 * (w % 2) + w / 2 : Nat) : Int) x := by unfold Bk; rw [e]
    have h3 := ltk_in (W := tkw x (m - 1)) (c := (m : Int)) (o := ((2 * (w % 2) + w / 2 : Nat) : Int)) (by omega) hx
    rw [h2, hb, h1]
    constructor
    · intro h
      exact ⟨by omega, by omega, if_neg (by omega)⟩
    · intro h
      refine ⟨by omega, ?_⟩
      have h4 := h.2.2
      by_cases y : 0 < ltk (tkw x (m - 1)) m ((2 * (w % 2) + w / 2 : Nat) : Int) x
      · rw [if_pos y] at h4; omega
      · omega
theorem sp_Ref_isWon (K : ModAt hp q V A rd rl) (h20 : A 20 = F) (hF : BR x F b) (hx : 2 ≤ x ∧ x ≤ 9) (hb : b ≤ 99) (hn : n < b) (rz : 0 ≤ z ∧ z ≤ 1) (rw' : 0 ≤ w ∧ w ≤ 1) : Sp g MX12_isWon (rm 0 0 0) [.ref q, .int (I (n : Int)), .int (I z), .int (I w)] hp (Pur (.int (B (0 < (n : Int) ∧ F (4 * (n : Int) + w + 2 * z) = 0))) hp) := by
  refine Sp_mk rfl (Nat.le_of_ble_eq_true rfl) ?_
  show wp g _ _ _ 0 0 0 [some (.ref q), some (.int (I (n : Int))), some (.int (I z)), some (.int (I w))] [] hp
  have O := SO.rf (hp := hp) (lo := q) (hi := q + 25)
  refine wp_iload_n (pc := 0) dX12_isWon_0 rfl ?_
  refine wp_if_le (pc := 1) 25 dX12_isWon_1 (by decide) (by first | omega | exact TI.i5 (by assumption) | exact TI.i3 (by assumption) | exact TI.i2 (by assumption) | exact TI.i1 (by assumption) | exact TI.i0 (by assumption) | exact TI.i4 (by assumption) | exact TI.i6 (by assumption) | exact TI.i7 (by assumption)) (fun c1 => ?_) (fun c1 => ?_)
  ·
    refine wp_iconst (pc := 25) dX12_isWon_25 ?_
    first | exact wp_z1 (pc := 26) dX12_isWon_26 rfl (by decide) (by decide) (by omega) (by first | exact ⟨K, O⟩ | rfl) | exact wp_z0 (pc := 26) dX12_isWon_26 rfl (by decide) (by decide) (by omega) (by first | exact ⟨K, O⟩ | rfl) | exact wp_zb (pc := 26) dX12_isWon_26 rfl (by decide) (by decide) Iff.rfl (by first | exact ⟨K, O⟩ | rfl)
  ·
    refine wp_aload_n (pc := 4) dX12_isWon_4 rfl ?_
    refine wm_get dX12_isWon_5 gf_X12_69 K (by rfl) ?_
    refine wp_iconst (pc := 8) dX12_isWon_8 ?_
    refine wp_iload_n (pc := 9) dX12_isWon_9 rfl ?_
    refine wp_imul (pc := 10) dX12_isWon_10 ?_
    refine wp_iload_n (pc := 11) dX12_isWon_11 rfl ?_
    refine wp_iadd (pc := 12) dX12_isWon_12 ?_
    refine wp_iconst (pc := 13) dX12_isWon_13 ?_
    refine wp_iload_n (pc := 14) dX12_isWon_14 rfl ?_
    refine wp_imul (pc := 15) dX12_isWon_15 ?_
    refine wp_iadd (pc := 16) dX12_isWon_16 ?_
    refine wm_iald dX12_isWon_17 K (by first | rfl | assumption) (by first | decide | omega) (by first | decide | omega) (by decide) (by omega) (by omega) (by repeat (first | assumption | exact upA_eq | (apply upA_ne; first | decide | omega) | (apply SA_at; assumption; first | decide | (simp; omega)) | exact rfl)) (by first | exact flat5 (by omega) (by omega) | exact flat3 (by omega) (by omega) | exact flat2 (by omega) (by omega) | exact flat6 (by omega) (by omega) | exact flat4 (by omega) (by omega) | exact flat1 (by omega) (by omega) | exact flat0 (by omega) (by omega) | exact flat7 | exact rfl) ?_
    first | refine wp_ifb_ne (pc := 18) 25 dX12_isWon_18 (by decide) (fun c18 => ?_) (fun c18 => ?_) | refine wp_if_ne (pc := 18) 25 dX12_isWon_18 (by decide) (by have h1 := hF n (w + 2 * z).toNat (by omega) hn (by omega); rw [show 4 * (n : Int) + (((w + 2 * z).toNat : Nat) : Int) = 4 * (n : Int) + w + 2 * z by omega] at h1; have h2 := ltk_in (W := tkw x (n - 1)) (c := (n : Int)) (o := 2 * (((w + 2 * z).toNat % 2 : Nat) : Int) + (((w + 2 * z).toNat / 2 : Nat) : Int)) (by omega) hx; unfold Bk at h1; omega) (fun c18 => ?_) (fun c18 => ?_)
    ·
      refine wp_iconst (pc := 25) dX12_isWon_25 ?_
      first | exact wp_z1 (pc := 26) dX12_isWon_26 rfl (by decide) (by decide) (by omega) (by first | exact ⟨K, O⟩ | rfl) | exact wp_z0 (pc := 26) dX12_isWon_26 rfl (by decide) (by decide) (by omega) (by first | exact ⟨K, O⟩ | rfl) | exact wp_zb (pc := 26) dX12_isWon_26 rfl (by decide) (by decide) Iff.rfl (by first | exact ⟨K, O⟩ | rfl)
    ·
      refine wp_iconst (pc := 21) dX12_isWon_21 ?_
      refine wp_goto (pc := 22) 26 dX12_isWon_22 (by decide) ?_
      first | exact wp_z1 (pc := 26) dX12_isWon_26 rfl (by decide) (by decide) (by omega) (by first | exact ⟨K, O⟩ | rfl) | exact wp_z0 (pc := 26) dX12_isWon_26 rfl (by decide) (by decide) (by omega) (by first | exact ⟨K, O⟩ | rfl) | exact wp_zb (pc := 26) dX12_isWon_26 rfl (by decide) (by decide) Iff.rfl (by first | exact ⟨K, O⟩ | rfl)
abbrev btW (F : Int → Int) (m w z : Int) : Prop := 0 < m ∧ F (4 * m + w + 2 * z) = 0
theorem bt_75 {h e : Int} {u1 u2 u3 : Int} (rh : 0 ≤ h ∧ h ≤ 99) (re : e = 0 ∨ e = 1) (hx : 2 ≤ x ∧ x ≤ 9) : wp g MX12_bestTake (rm 1 0 0) (Pur (.int (I (if e = 1 ∧ (h = 0 ∨ x < h) then x else h))) hp) 0 0 75 [some (.ref q), some (.int (I u1)), some (.int (I u2)), some (.int (I u3)), some (.int (I x)), some (.int (I h)), none, some (.int (I e))] [] hp := by
  refine wp_iload (pc := 75) dX12_bestTake_75 rfl ?_
  first | refine wp_ifb_eq (pc := 77) 97 dX12_bestTake_77 (by decide) (fun c77 => ?_) (fun c77 => ?_) | refine wp_if_eq (pc := 77) 97 dX12_bestTake_77 (by decide) (by first | omega | exact TI.i5 (by assumption) | exact TI.i3 (by assumption) | exact TI.i2 (by assumption) | exact TI.i1 (by assumption) | exact TI.i0 (by assumption) | exact TI.i4 (by assumption) | exact TI.i6 (by assumption) | exact TI.i7 (by assumption)) (fun c77 => ?_) (fun c77 => ?_)
  ·
    refine wp_iload (pc := 97) dX12_bestTake_97 rfl ?_
    exact wp_ir (pc := 99) dX12_bestTake_99 rfl (by decide) (by decide) (by (repeat' split) <;> omega) (by first | exact ⟨K, O⟩ | rfl)
  ·
    refine wp_iload (pc := 80) dX12_bestTake_80 rfl ?_
    first | refine wp_ifb_eq (pc := 82) 92 dX12_bestTake_82 (by decide) (fun c82 => ?_) (fun c82 => ?_) | refine wp_if_eq (pc := 82) 92 dX12_bestTake_82 (by decide) (by first | omega | exact TI.i5 (by assumption) | exact TI.i3 (by assumption) | exact TI.i2 (by assumption) | exact TI.i1 (by assumption) | exact TI.i0 (by assumption) | exact TI.i4 (by assumption) | exact TI.i6 (by assumption) | exact TI.i7 (by assumption)) (fun c82 => ?_) (fun c82 => ?_)
    ·
      refine wp_iload (pc := 92) dX12_bestTake_92 rfl ?_
      refine wp_goto (pc := 94) 99 dX12_bestTake_94 (by decide) ?_
      exact wp_ir (pc := 99) dX12_bestTake_99 rfl (by decide) (by decide) (by (repeat' split) <;> omega) (by first | exact ⟨K, O⟩ | rfl)
    ·
      refine wp_iload (pc := 85) dX12_bestTake_85 rfl ?_
      refine wp_iload (pc := 87) dX12_bestTake_87 rfl ?_
      refine wp_icmp_ge (pc := 89) 97 dX12_bestTake_89 (by decide) (by first | omega | exact TI.i5 (by assumption) | exact TI.i3 (by assumption) | exact TI.i2 (by assumption) | exact TI.i1 (by assumption) | exact TI.i0 (by assumption) | exact TI.i4 (by assumption) | exact TI.i6 (by assumption) | exact TI.i7 (by assumption)) (by first | omega | exact TI.i5 (by assumption) | exact TI.i3 (by assumption) | exact TI.i2 (by assumption) | exact TI.i1 (by assumption) | exact TI.i0 (by assumption) | exact TI.i4 (by assumption) | exact TI.i6 (by assumption) | exact TI.i7 (by assumption)) (fun c89 => ?_) (fun c89 => ?_)
      ·
        refine wp_iload (pc := 97) dX12_bestTake_97 rfl ?_
        exact wp_ir (pc := 99) dX12_bestTake_99 rfl (by decide) (by decide) (by (repeat' split) <;> omega) (by first | exact ⟨K, O⟩ | rfl)
      ·
        refine wp_iload (pc := 92) dX12_bestTake_92 rfl ?_
        refine wp_goto (pc := 94) 99 dX12_bestTake_94 (by decide) ?_
        exact wp_ir (pc := 99) dX12_bestTake_99 rfl (by decide) (by decide) (by (repeat' split) <;> omega) (by first | exact ⟨K, O⟩ | rfl)
theorem bt_44 {h : Int} (K : ModAt hp q V A rd rl) (h20 : A 20 = F) (hF : BR x F n) (rh : 0 ≤ h ∧ h ≤ 99) (hx : 2 ≤ x ∧ x ≤ 9) (hn : 1 ≤ n ∧ n ≤ 99) (rz : 0 ≤ z ∧ z ≤ 1) (rw' : 0 ≤ w ∧ w ≤ 1) : wp g MX12_bestTake (rm 1 0 0) (Pur (.int (I (if (z = 1 ∧ x ≤ n ∧ btW F ((n : Int) - x) w 0) ∧ (h = 0 ∨ x < h) then x else h))) hp) 0 0 44 [some (.ref q), some (.int (I (n : Int))), some (.int (I z)), some (.int (I w)), some (.int (I x)), some (.int (I h)), none, none] [] hp := by
  have key : ∀ e : Int, (e = 1 ↔ (z = 1 ∧ x ≤ n ∧ btW F ((n : Int) - x) w 0)) → (if (z = 1 ∧ x ≤ n ∧ btW F ((n : Int) - x) w 0) ∧ (h = 0 ∨ x < h) then x else h) = (if e = 1 ∧ (h = 0 ∨ x < h) then x else h) := fun e he => by simp only [he]
  refine wp_iload_n (pc := 44) dX12_bestTake_44 rfl ?_
  refine wp_iconst (pc := 45) dX12_bestTake_45 ?_
  refine wp_icmp_ne (pc := 46) 72 dX12_bestTake_46 (by decide) (by first | omega | exact TI.i5 (by assumption) | exact TI.i3 (by assumption) | exact TI.i2 (by assumption) | exact TI.i1 (by assumption) | exact TI.i0 (by assumption) | exact TI.i4 (by assumption) | exact TI.i6 (by assumption) | exact TI.i7 (by assumption)) (by first | omega | exact TI.i5 (by assumption) | exact TI.i3 (by assumption) | exact TI.i2 (by assumption) | exact TI.i1 (by assumption) | exact TI.i0 (by assumption) | exact TI.i4 (by assumption) | exact TI.i6 (by assumption) | exact TI.i7 (by assumption)) (fun c46 => ?_) (fun c46 => ?_)
  ·
    rw [key 0 ⟨fun y => by omega, fun y => absurd y.1 c46⟩] -- go
    refine wp_iconst (pc := 72) dX12_bestTake_72 ?_
    refine wp_istore (pc := 73) dX12_bestTake_73 (by decide) ?_
    refine wp_ls ?_ (bt_75 (q := q) (u1 := (n : Int)) (u2 := z) (u3 := w) (h := h) rh (by omega) hx)
    repeat' (first | exact LE_0 | refine LE_s rfl ?_ | refine LE_s (I_c (by first | omega | (simp only [sm]; omega))) ?_ | refine LE_s (J_c (by first | omega | exact Int.pow_succ _ _ | exact (Int.pow_succ _ _).symm | exact (Int.pow_zero _).symm | (simp only [sm]; omega))) ?_ | refine LE_n ?_)
  ·
    refine wp_iload_n (pc := 49) dX12_bestTake_49 rfl ?_
    refine wp_iload (pc := 50) dX12_bestTake_50 rfl ?_
    refine wp_icmp_lt (pc := 52) 72 dX12_bestTake_52 (by decide) (by first | omega | exact TI.i5 (by assumption) | exact TI.i3 (by assumption) | exact TI.i2 (by assumption) | exact TI.i1 (by assumption) | exact TI.i0 (by assumption) | exact TI.i4 (by assumption) | exact TI.i6 (by assumption) | exact TI.i7 (by assumption)) (by first | omega | exact TI.i5 (by assumption) | exact TI.i3 (by assumption) | exact TI.i2 (by assumption) | exact TI.i1 (by assumption) | exact TI.i0 (by assumption) | exact TI.i4 (by assumption) | exact TI.i6 (by assumption) | exact TI.i7 (by assumption)) (fun c52 => ?_) (fun c52 => ?_)
    ·
      rw [key 0 ⟨fun y => by omega, fun y => by omega⟩] -- go
      refine wp_iconst (pc := 72) dX12_bestTake_72 ?_
      refine wp_istore (pc := 73) dX12_bestTake_73 (by decide) ?_
      refine wp_ls ?_ (bt_75 (q := q) (u1 := (n : Int)) (u2 := z) (u3 := w) (h := h) rh (by omega) hx)
      repeat' (first | exact LE_0 | refine LE_s rfl ?_ | refine LE_s (I_c (by first | omega | (simp only [sm]; omega))) ?_ | refine LE_s (J_c (by first | omega | exact Int.pow_succ _ _ | exact (Int.pow_succ _ _).symm | exact (Int.pow_zero _).symm | (simp only [sm]; omega))) ?_ | refine LE_n ?_)
    ·
      refine wp_aload_n (pc := 55) dX12_bestTake_55 rfl ?_
      refine wp_iload_n (pc := 56) dX12_bestTake_56 rfl ?_
      refine wp_iload (pc := 57) dX12_bestTake_57 rfl ?_
      refine wp_isub (pc := 59) dX12_bestTake_59 ?_
      refine wp_topE (show (n : Int) - x = ((n - x.toNat : Nat) : Int) by omega) ?_
      refine wp_iconst (pc := 60) dX12_bestTake_60 ?_
      refine wp_iload_n (pc := 61) dX12_bestTake_61 rfl ?_
      refine wp_Vp (pc := 62) dX12_bestTake_62 cl_X12_343 (sp_Ref_isWon (n := n - x.toNat) (b := n) K h20 hF hx (by omega) (by omega) (by omega) (by omega)) rfl rfl K.1 (by rfl) (by decide) (Nat.le_of_ble_eq_true rfl) ?_
      first | refine wp_ifb_eq (pc := 65) 72 dX12_bestTake_65 (by decide) (fun c65 => ?_) (fun c65 => ?_) | refine wp_if_eq (pc := 65) 72 dX12_bestTake_65 (by decide) (by first | omega | exact TI.i5 (by assumption) | exact TI.i3 (by assumption) | exact TI.i2 (by assumption) | exact TI.i1 (by assumption) | exact TI.i0 (by assumption) | exact TI.i4 (by assumption) | exact TI.i6 (by assumption) | exact TI.i7 (by assumption)) (fun c65 => ?_) (fun c65 => ?_)
      ·
        rw [key 0 ⟨fun y => by omega, fun y => absurd (by have := y.2.2; unfold btW at this; rw [show ((n - x.toNat : Nat) : Int) = (n : Int) - x by omega]; exact this) c65⟩] -- go
        refine wp_iconst (pc := 72) dX12_bestTake_72 ?_
        refine wp_istore (pc := 73) dX12_bestTake_73 (by decide) ?_
        refine wp_ls ?_ (bt_75 (q := q) (u1 := (n : Int)) (u2 := z) (u3 := w) (h := h) rh (by omega) hx)
        repeat' (first | exact LE_0 | refine LE_s rfl ?_ | refine LE_s (I_c (by first | omega | (simp only [sm]; omega))) ?_ | refine LE_s (J_c (by first | omega | exact Int.pow_succ _ _ | exact (Int.pow_succ _ _).symm | exact (Int.pow_zero _).symm | (simp only [sm]; omega))) ?_ | refine LE_n ?_)
      ·
        rw [key 1 ⟨fun _ => ⟨by omega, by omega, by rw [show ((n - x.toNat : Nat) : Int) = (n : Int) - x by omega] at c65; exact c65⟩, fun _ => rfl⟩] -- go
        refine wp_iconst (pc := 68) dX12_bestTake_68 ?_
        refine wp_goto (pc := 69) 73 dX12_bestTake_69 (by decide) ?_
        refine wp_istore (pc := 73) dX12_bestTake_73 (by decide) ?_
        refine wp_ls ?_ (bt_75 (q := q) (u1 := (n : Int)) (u2 := z) (u3 := w) (h := h) rh (by omega) hx)
        repeat' (first | exact LE_0 | refine LE_s rfl ?_ | refine LE_s (I_c (by first | omega | (simp only [sm]; omega))) ?_ | refine LE_s (J_c (by first | omega | exact Int.pow_succ _ _ | exact (Int.pow_succ _ _).symm | exact (Int.pow_zero _).symm | (simp only [sm]; omega))) ?_ | refine LE_n ?_)
def btF (F : Int → Int) (n x z w : Int) : Int := if btW F (n - 1) w z then 1 else if (z = 1 ∧ x ≤ n ∧ btW F (n - x) w 0) ∧ ((if 0 < n / 2 ∧ btW F (n - n / 2) w z then n / 2 else 0) = 0 ∨ x < (if 0 < n / 2 ∧ btW F (n - n / 2) w z then n / 2 else 0)) then x else (if 0 < n / 2 ∧ btW F (n - n / 2) w z then n / 2 else 0)
theorem sp_Ref_bt0 (K : ModAt hp q V A rd rl) (h20 : A 20 = F) (hF : BR x F n) (hx : 2 ≤ x ∧ x ≤ 9) (hn : 1 ≤ n ∧ n ≤ 99) (rz : 0 ≤ z ∧ z ≤ 1) (rw' : 0 ≤ w ∧ w ≤ 1) : Sp g MX12_bestTake (rm 1 0 0) [.ref q, .int (I (n : Int)), .int (I z), .int (I w), .int (I x)] hp (Pur (.int (I (btF F n x z w))) hp) := by
  refine Sp_mk rfl (Nat.le_of_ble_eq_true rfl) ?_
  show wp g _ _ _ 0 0 0 [some (.ref q), some (.int (I (n : Int))), some (.int (I z)), some (.int (I w)), some (.int (I x)), none, none, none] [] hp
  have O := SO.rf (hp := hp) (lo := q) (hi := q + 25)
  refine wp_iconst (pc := 0) dX12_bestTake_0 ?_
  refine wp_istore (pc := 1) dX12_bestTake_1 (by decide) ?_
  refine wp_aload_n (pc := 3) dX12_bestTake_3 rfl ?_
  refine wp_iload_n (pc := 4) dX12_bestTake_4 rfl ?_
  refine wp_iconst (pc := 5) dX12_bestTake_5 ?_
  refine wp_isub (pc := 6) dX12_bestTake_6 ?_
  refine wp_topE (show (n : Int) - 1 = ((n - 1 : Nat) : Int) by omega) ?_
  refine wp_iload_n (pc := 7) dX12_bestTake_7 rfl ?_
  refine wp_iload_n (pc := 8) dX12_bestTake_8 rfl ?_
  refine wp_Vp (pc := 9) dX12_bestTake_9 cl_X12_343 (sp_Ref_isWon (n := n - 1) (b := n) K h20 hF hx (by omega) (by omega) (by omega) (by omega)) rfl rfl K.1 (by rfl) (by decide) (Nat.le_of_ble_eq_true rfl) ?_
  first | refine wp_ifb_eq (pc := 12) 17 dX12_bestTake_12 (by decide) (fun c12 => ?_) (fun c12 => ?_) | refine wp_if_eq (pc := 12) 17 dX12_bestTake_12 (by decide) (by first | omega | exact TI.i5 (by assumption) | exact TI.i3 (by assumption) | exact TI.i2 (by assumption) | exact TI.i1 (by assumption) | exact TI.i0 (by assumption) | exact TI.i4 (by assumption) | exact TI.i6 (by assumption) | exact TI.i7 (by assumption)) (fun c12 => ?_) (fun c12 => ?_)
  ·
    have e1 : btF F n x z w = if (z = 1 ∧ x ≤ n ∧ btW F (n - x) w 0) ∧ ((if 0 < (n : Int) / 2 ∧ btW F (n - (n : Int) / 2) w z then (n : Int) / 2 else 0) = 0 ∨ x < (if 0 < (n : Int) / 2 ∧ btW F (n - (n : Int) / 2) w z then (n : Int) / 2 else 0)) then x else (if 0 < (n : Int) / 2 ∧ btW F (n - (n : Int) / 2) w z then (n : Int) / 2 else 0) := if_neg (by rw [show ((n - 1 : Nat) : Int) = (n : Int) - 1 by omega] at c12; exact c12)
    rw [e1] -- go
    refine wp_iload_n (pc := 17) dX12_bestTake_17 rfl ?_
    refine wp_iconst (pc := 18) dX12_bestTake_18 ?_
    refine wp_idiv (pc := 19) dX12_bestTake_19 (by decide) (I_div (by omega) (by omega) (by omega) (by omega)) ?_
    refine wp_istore (pc := 20) dX12_bestTake_20 (by decide) ?_
    refine wp_iload (pc := 22) dX12_bestTake_22 rfl ?_
    refine wp_if_le (pc := 24) 44 dX12_bestTake_24 (by decide) (by first | omega | exact TI.i5 (by assumption) | exact TI.i3 (by assumption) | exact TI.i2 (by assumption) | exact TI.i1 (by assumption) | exact TI.i0 (by assumption) | exact TI.i4 (by assumption) | exact TI.i6 (by assumption) | exact TI.i7 (by assumption)) (fun c24 => ?_) (fun c24 => ?_)
    ·
      have e2 : (if 0 < (n : Int) / 2 ∧ btW F (n - (n : Int) / 2) w z then (n : Int) / 2 else 0) = 0 := if_neg (by omega)
      rw [e2] -- go
      first
      | refine wp_ls ?_ (bt_44 (h := 0) K h20 hF (by decide) hx hn rz rw')
        repeat' (first | exact LE_0 | refine LE_s rfl ?_ | refine LE_s (I_c (by first | omega | (simp only [sm]; omega))) ?_ | refine LE_s (J_c (by first | omega | exact Int.pow_succ _ _ | exact (Int.pow_succ _ _).symm | exact (Int.pow_zero _).symm | (simp only [sm]; omega))) ?_ | refine LE_n ?_)
      | refine wp_ls ?_ (bt_44 (h := (n : Int) / 2) K h20 hF (by omega) hx hn rz rw')
        repeat' (first | exact LE_0 | refine LE_s rfl ?_ | refine LE_s (I_c (by first | omega | (simp only [sm]; omega))) ?_ | refine LE_s (J_c (by first | omega | exact Int.pow_succ _ _ | exact (Int.pow_succ _ _).symm | exact (Int.pow_zero _).symm | (simp only [sm]; omega))) ?_ | refine LE_n ?_)
    ·
      refine wp_aload_n (pc := 27) dX12_bestTake_27 rfl ?_
      refine wp_iload_n (pc := 28) dX12_bestTake_28 rfl ?_
      refine wp_iload (pc := 29) dX12_bestTake_29 rfl ?_
      refine wp_isub (pc := 31) dX12_bestTake_31 ?_
      refine wp_topE (show (n : Int) - (n : Int) / 2 = ((n - n / 2 : Nat) : Int) by omega) ?_
      refine wp_iload_n (pc := 32) dX12_bestTake_32 rfl ?_
      refine wp_iload_n (pc := 33) dX12_bestTake_33 rfl ?_
      refine wp_Vp (pc := 34) dX12_bestTake_34 cl_X12_343 (sp_Ref_isWon (n := n - n / 2) (b := n) K h20 hF hx (by omega) (by omega) (by omega) (by omega)) rfl rfl K.1 (by rfl) (by decide) (Nat.le_of_ble_eq_true rfl) ?_
      first | refine wp_ifb_eq (pc := 37) 44 dX12_bestTake_37 (by decide) (fun c37 => ?_) (fun c37 => ?_) | refine wp_if_eq (pc := 37) 44 dX12_bestTake_37 (by decide) (by first | omega | exact TI.i5 (by assumption) | exact TI.i3 (by assumption) | exact TI.i2 (by assumption) | exact TI.i1 (by assumption) | exact TI.i0 (by assumption) | exact TI.i4 (by assumption) | exact TI.i6 (by assumption) | exact TI.i7 (by assumption)) (fun c37 => ?_) (fun c37 => ?_)
      ·
        have e2 : (if 0 < (n : Int) / 2 ∧ btW F (n - (n : Int) / 2) w z then (n : Int) / 2 else 0) = 0 := if_neg (fun y => c37 (by rw [show ((n - n / 2 : Nat) : Int) = (n : Int) - (n : Int) / 2 by omega]; exact y.2))
        rw [e2] -- go
        first
        | refine wp_ls ?_ (bt_44 (h := 0) K h20 hF (by decide) hx hn rz rw')
          repeat' (first | exact LE_0 | refine LE_s rfl ?_ | refine LE_s (I_c (by first | omega | (simp only [sm]; omega))) ?_ | refine LE_s (J_c (by first | omega | exact Int.pow_succ _ _ | exact (Int.pow_succ _ _).symm | exact (Int.pow_zero _).symm | (simp only [sm]; omega))) ?_ | refine LE_n ?_)
        | refine wp_ls ?_ (bt_44 (h := (n : Int) / 2) K h20 hF (by omega) hx hn rz rw')
          repeat' (first | exact LE_0 | refine LE_s rfl ?_ | refine LE_s (I_c (by first | omega | (simp only [sm]; omega))) ?_ | refine LE_s (J_c (by first | omega | exact Int.pow_succ _ _ | exact (Int.pow_succ _ _).symm | exact (Int.pow_zero _).symm | (simp only [sm]; omega))) ?_ | refine LE_n ?_)
      ·
        have e2 : (if 0 < (n : Int) / 2 ∧ btW F (n - (n : Int) / 2) w z then (n : Int) / 2 else 0) = (n : Int) / 2 := if_pos ⟨by omega, by rw [show ((n - n / 2 : Nat) : Int) = (n : Int) - (n : Int) / 2 by omega] at c37; exact c37⟩
        rw [e2] -- go
        refine wp_iload (pc := 40) dX12_bestTake_40 rfl ?_
        refine wp_istore (pc := 42) dX12_bestTake_42 (by decide) ?_
        first
        | refine wp_ls ?_ (bt_44 (h := 0) K h20 hF (by decide) hx hn rz rw')
          repeat' (first | exact LE_0 | refine LE_s rfl ?_ | refine LE_s (I_c (by first | omega | (simp only [sm]; omega))) ?_ | refine LE_s (J_c (by first | omega | exact Int.pow_succ _ _ | exact (Int.pow_succ _ _).symm | exact (Int.pow_zero _).symm | (simp only [sm]; omega))) ?_ | refine LE_n ?_)
        | refine wp_ls ?_ (bt_44 (h := (n : Int) / 2) K h20 hF (by omega) hx hn rz rw')
          repeat' (first | exact LE_0 | refine LE_s rfl ?_ | refine LE_s (I_c (by first | omega | (simp only [sm]; omega))) ?_ | refine LE_s (J_c (by first | omega | exact Int.pow_succ _ _ | exact (Int.pow_succ _ _).symm | exact (Int.pow_zero _).symm | (simp only [sm]; omega))) ?_ | refine LE_n ?_)
  ·
    have e1 : btF F n x z w = 1 := if_pos (by rw [show ((n - 1 : Nat) : Int) = (n : Int) - 1 by omega] at c12; exact c12)
    rw [e1] -- go
    refine wp_iconst (pc := 15) dX12_bestTake_15 ?_
    exact wp_ir (pc := 16) dX12_bestTake_16 rfl (by decide) (by decide) (by first | rfl | omega) (by first | exact ⟨K, O⟩ | rfl)
theorem btF_Bk (hF : BR x F n) (hx : 2 ≤ x ∧ x ≤ 9) (hn : 1 ≤ n ∧ n ≤ 99) (hk : k < 4) : btF F n x ((k % 2 : Nat) : Int) ((k / 2 : Nat) : Int) = Bk x n k := by
  have w1 := won_los (F := F) (m := n - 1) (w := k / 2 + 2 * (k % 2)) hx (by omega) hF (by omega) (by omega)
  have w2 : 0 < (n : Int) / 2 → _ := fun h => won_los (F := F) (m := n - n / 2) (w := k / 2 + 2 * (k % 2)) hx (by omega) hF (by omega) (by omega)
  have w3 : x ≤ n → _ := fun h => won_los (F := F) (m := n - x.toNat) (w := k / 2) hx (by omega) hF (by omega) (by omega)
  have ei : ∀ m : Nat, 4 * (m : Int) + ((k / 2 + 2 * (k % 2) : Nat) : Int) = 4 * (m : Int) + ((k / 2 : Nat) : Int) + 2 * ((k % 2 : Nat) : Int) := fun m => by omega
  have ei3 : ∀ m : Nat, 4 * (m : Int) + ((k / 2 : Nat) : Int) = 4 * (m : Int) + ((k / 2 : Nat) : Int) + 2 * 0 := fun m => by omega
  have hk4 : k = 0 ∨ k = 1 ∨ k = 2 ∨ k = 3 := by omega
  have eo : 2 * (((k / 2 + 2 * (k % 2)) % 2 : Nat) : Int) + (((k / 2 + 2 * (k % 2)) / 2 : Nat) : Int) = (2 * ((k % 2 : Nat) : Int) + ((k / 2 : Nat) : Int)) % 2 * 2 + (2 * ((k % 2 : Nat) : Int) + ((k / 2 : Nat) : Int)) / 2 := by rcases hk4 with rfl | rfl | rfl | rfl <;> rfl
  have eo3 : 2 * (((k / 2) % 2 : Nat) : Int) + (((k / 2) / 2 : Nat) : Int) = (2 * ((k % 2 : Nat) : Int) + ((k / 2 : Nat) : Int)) % 2 * 2 := by rcases hk4 with rfl | rfl | rfl | rfl <;> rfl
  have em : ((k % 2 : Nat) : Int) = 1 ↔ 2 ≤ 2 * ((k % 2 : Nat) : Int) + ((k / 2 : Nat) : Int) := by rcases hk4 with rfl | rfl | rfl | rfl <;> decide
  rw [ei, eo, show ((n - 1 : Nat) : Int) = (n : Int) - 1 by omega] at w1
  have v1 : btW F ((n : Int) - 1) ((k / 2 : Nat) : Int) ((k % 2 : Nat) : Int) ↔ los (tkw x (n - 1)) ((n : Int) - 1) ((2 * ((k % 2 : Nat) : Int) + ((k / 2 : Nat) : Int)) % 2 * 2 + (2 * ((k % 2 : Nat) : Int) + ((k / 2 : Nat) : Int)) / 2) := w1
  have v2 : (0 < (n : Int) / 2 ∧ btW F ((n : Int) - (n : Int) / 2) ((k / 2 : Nat) : Int) ((k % 2 : Nat) : Int)) ↔ (0 < (n : Int) / 2 ∧ los (tkw x (n - 1)) ((n : Int) - (n : Int) / 2) ((2 * ((k % 2 : Nat) : Int) + ((k / 2 : Nat) : Int)) % 2 * 2 + (2 * ((k % 2 : Nat) : Int) + ((k / 2 : Nat) : Int)) / 2)) := by
    constructor
    · intro h; have := w2 h.1; rw [ei, eo, show ((n - n / 2 : Nat) : Int) = (n : Int) - (n : Int) / 2 by omega] at this; exact ⟨h.1, this.mp h.2⟩
    · intro h; have := w2 h.1; rw [ei, eo, show ((n - n / 2 : Nat) : Int) = (n : Int) - (n : Int) / 2 by omega] at this; exact ⟨h.1, this.mpr h.2⟩
  have v3 : (((k % 2 : Nat) : Int) = 1 ∧ x ≤ n ∧ btW F ((n : Int) - x) ((k / 2 : Nat) : Int) 0) ↔ (2 ≤ 2 * ((k % 2 : Nat) : Int) + ((k / 2 : Nat) : Int) ∧ x ≤ n ∧ los (tkw x (n - 1)) ((n : Int) - x) ((2 * ((k % 2 : Nat) : Int) + ((k / 2 : Nat) : Int)) % 2 * 2)) := by
    rw [em]
    constructor
    · intro h; have := w3 h.2.1; rw [ei3, eo3, show ((n - x.toNat : Nat) : Int) = (n : Int) - x by omega] at this; exact ⟨h.1, h.2.1, this.mp h.2.2⟩
    · intro h; have := w3 h.2.1; rw [ei3, eo3, show ((n - x.toNat : Nat) : Int) = (n : Int) - x by omega] at this; exact ⟨h.1, h.2.1, this.mpr h.2.2⟩
  unfold btF Bk ltk
  simp only [v1, v2, v3]
  clear w1 w2 w3 v1 v2 v3
  by_cases z1 : los (tkw x (n - 1)) ((n : Int) - 1) ((2 * ((k % 2 : Nat) : Int) + ((k / 2 : Nat) : Int)) % 2 * 2 + (2 * ((k % 2 : Nat) : Int) + ((k / 2 : Nat) : Int)) / 2)
  · rw [if_pos z1, if_pos z1]
  · rw [if_neg z1, if_neg z1]
    by_cases z2 : 0 < (n : Int) / 2 ∧ los (tkw x (n - 1)) ((n : Int) - (n : Int) / 2) ((2 * ((k % 2 : Nat) : Int) + ((k / 2 : Nat) : Int)) % 2 * 2 + (2 * ((k % 2 : Nat) : Int) + ((k / 2 : Nat) : Int)) / 2)
    · by_cases z3 : 2 ≤ 2 * ((k % 2 : Nat) : Int) + ((k / 2 : Nat) : Int) ∧ x ≤ n ∧ los (tkw x (n - 1)) ((n : Int) - x) ((2 * ((k % 2 : Nat) : Int) + ((k / 2 : Nat) : Int)) % 2 * 2)
      · simp only [if_pos z2]
        rw [if_pos (show (0 < (n : Int) / 2 ∧ _) ∧ _ from ⟨z2, z3⟩)]
        unfold mi
        by_cases z4 : x < (n : Int) / 2
        · rw [if_pos ⟨z3, .inr z4⟩, if_pos z4]
        · rw [if_neg (fun y => by omega), if_neg z4]
      · simp only [if_pos z2]
        rw [if_neg (fun y => z3 y.1), if_neg (show ¬ ((0 < (n : Int) / 2 ∧ _) ∧ _) from fun y => z3 y.2)]
    · simp only [if_neg z2]
      rw [if_neg (show ¬ ((0 < (n : Int) / 2 ∧ _) ∧ _) from fun y => z2 y.1)]
      by_cases z3 : 2 ≤ 2 * ((k % 2 : Nat) : Int) + ((k / 2 : Nat) : Int) ∧ x ≤ n ∧ los (tkw x (n - 1)) ((n : Int) - x) ((2 * ((k % 2 : Nat) : Int) + ((k / 2 : Nat) : Int)) % 2 * 2)
      · rw [if_pos ⟨z3, .inl trivial⟩, if_pos z3]
      · rw [if_neg (fun y => z3 y.1), if_neg z3]
theorem lp_bk2 (hx : 2 ≤ x ∧ x ≤ 9) (hn : 1 ≤ n ∧ n ≤ 99) {u : Int} {Q : Option Value → Hp → Prop} (Kn : ∀ hp3 F, ModAt hp3 q V (upA A 20 F) rd rl → SO hp hp3 q (q + 25) → BR x F (n + 1) → wp g MX12_bank (rm 2 0 0) Q 0 0 81 [some (.ref q), some (.int (I u)), some (.int (I x)), some (.int (I (n : Int))), none] [] hp3) : ∀ (m i : Nat), 4 < i + m → i ≤ 4 → ∀ (hp2 : Hp) (F : Int → Int) (K : ModAt hp2 q V (upA A 20 F) rd rl) (O : SO hp hp2 q (q + 25)) (hF : BR x F n) (hF2 : ∀ w : Nat, w < i → F (4 * (n : Int) + w) = Bk x n w), wp g MX12_bank (rm 2 0 0) Q 0 0 44 [some (.ref q), some (.int (I u)), some (.int (I x)), some (.int (I (n : Int))), some (.int (I (i : Int)))] [] hp2 := by
  intro m
  induction m with
  | zero => intro i h1 h2; exact absurd h1 (by omega)
  | succ m ih =>
    intro i h1 h2 hp2 F K O hF hF2
    refine wp_iload (pc := 44) dX12_bank_44 rfl ?_
    refine wp_iconst (pc := 46) dX12_bank_46 ?_
    refine wp_icmp_ge (pc := 47) 81 dX12_bank_47 (by decide) (by first | omega | exact TI.i5 (by assumption) | exact TI.i3 (by assumption) | exact TI.i2 (by assumption) | exact TI.i1 (by assumption) | exact TI.i0 (by assumption) | exact TI.i4 (by assumption) | exact TI.i6 (by assumption) | exact TI.i7 (by assumption)) (by first | omega | exact TI.i5 (by assumption) | exact TI.i3 (by assumption) | exact TI.i2 (by assumption) | exact TI.i1 (by assumption) | exact TI.i0 (by assumption) | exact TI.i4 (by assumption) | exact TI.i6 (by assumption) | exact TI.i7 (by assumption)) (fun c47 => ?_) (fun c47 => ?_)
    ·
      have e : i = 4 := by omega
      subst e
      refine wp_ls ?_ (Kn hp2 F K O (fun c' w h1 h2 h3 => ?_))
      · repeat' (first | exact LE_0 | refine LE_s rfl ?_ | refine LE_s (I_c (by first | omega | (simp only [sm]; omega))) ?_ | refine LE_s (J_c (by first | omega | exact Int.pow_succ _ _ | exact (Int.pow_succ _ _).symm | exact (Int.pow_zero _).symm | (simp only [sm]; omega))) ?_ | refine LE_n ?_)
      · by_cases z : c' = n
        · rw [z]; exact hF2 w h3
        · exact hF c' w h1 (by omega) h3
    ·
      have hbs : (I (i : Int) &&& I 1) = I ((i % 2 : Nat) : Int) ∧ (I (i : Int) >>> (I 1 &&& 31)) = I ((i / 2 : Nat) : Int) := by
        have h : ∀ i : Fin 4, (I ((i : Nat) : Int) &&& I 1) = I (((i : Nat) % 2 : Nat) : Int) ∧ (I ((i : Nat) : Int) >>> (I 1 &&& 31)) = I (((i : Nat) / 2 : Nat) : Int) := by decide +kernel
        exact h ⟨i, by omega⟩
      have heq := btF_Bk (k := i) hF hx hn (by omega) -- go
      refine wp_aload_n (pc := 50) dX12_bank_50 rfl ?_
      refine wm_get dX12_bank_51 gf_X12_69 K (by rfl) ?_
      refine wp_iconst (pc := 54) dX12_bank_54 ?_
      refine wp_iload_n (pc := 55) dX12_bank_55 rfl ?_
      refine wp_imul (pc := 56) dX12_bank_56 ?_
      refine wp_iload (pc := 57) dX12_bank_57 rfl ?_
      refine wp_iadd (pc := 59) dX12_bank_59 ?_
      refine wp_aload_n (pc := 60) dX12_bank_60 rfl ?_
      refine wp_iload_n (pc := 61) dX12_bank_61 rfl ?_
      refine wp_iload (pc := 62) dX12_bank_62 rfl ?_
      refine wp_iconst (pc := 64) dX12_bank_64 ?_
      refine wp_iand (pc := 65) dX12_bank_65 hbs.1 ?_
      refine wp_iload (pc := 66) dX12_bank_66 rfl ?_
      refine wp_iconst (pc := 68) dX12_bank_68 ?_
      refine wp_ishr (pc := 69) dX12_bank_69 hbs.2 ?_
      refine wp_iload_n (pc := 70) dX12_bank_70 rfl ?_
      refine wp_Vp (pc := 71) dX12_bank_71 cl_X12_346 (sp_Ref_bt0 K upA_eq hF hx hn (by omega) (by omega)) rfl rfl K.1 (by rfl) (by decide) (Nat.le_of_ble_eq_true rfl) ?_
      refine wp_topE heq ?_
      refine wm_iast dX12_bank_74 K O (by rfl) (by decide) (by decide) (by decide) (by omega) (by omega) upA_eq rfl (fun hp K O => ?_)
      rw [upA_upA] at K
      refine wp_iinc (pc := 75) dX12_bank_75 rfl (by decide) ?_
      refine wp_goto (pc := 78) 44 dX12_bank_78 (by decide) ?_
      refine wp_ls ?_ (ih (i + 1) (by omega) (by omega) _ _ K O (fun c' w z1 z2 z3 => ?_) (fun w hw => ?_))
      · repeat' (first | exact LE_0 | refine LE_s rfl ?_ | refine LE_s (I_c (by first | omega | (simp only [sm]; omega))) ?_ | refine LE_s (J_c (by first | omega | exact Int.pow_succ _ _ | exact (Int.pow_succ _ _).symm | exact (Int.pow_zero _).symm | (simp only [sm]; omega))) ?_ | refine LE_n ?_)
      · rw [updI_ne (by omega)]; exact hF c' w z1 z2 z3
      · by_cases z : w = i
        · rw [z]; exact updI_eq
        · rw [updI_ne (by omega)]; exact hF2 w (by omega)
theorem lp_bk1 (hx : 2 ≤ x ∧ x ≤ 9) (hn : 1 ≤ n ∧ n ≤ 99) {Q : Option Value → Hp → Prop} (Kn : ∀ hp3 F, ModAt hp3 q V (upA A 20 F) rd rl → SO hp hp3 q (q + 25) → BR x F (n + 1) → wp g MX12_bank (rm 2 0 0) Q 0 0 87 [some (.ref q), some (.int (I (n : Int))), some (.int (I x)), none, none] [] hp3) : ∀ (m i : Nat), n < i + m → i ≤ n → ∀ (hp2 : Hp) (F : Int → Int) (K : ModAt hp2 q V (upA A 20 F) rd rl) (O : SO hp hp2 q (q + 25)) (hF : BR x F (i + 1)), wp g MX12_bank (rm 2 0 0) Q 0 0 36 [some (.ref q), some (.int (I (n : Int))), some (.int (I x)), some (.int (I ((i + 1 : Nat) : Int))), none] [] hp2 := by
  intro m
  induction m with
  | zero => intro i h1 h2; exact absurd h1 (by omega)
  | succ m ih =>
    intro i h1 h2 hp2 F K O hF
    refine wp_iload_n (pc := 36) dX12_bank_36 rfl ?_
    refine wp_iload_n (pc := 37) dX12_bank_37 rfl ?_
    refine wp_icmp_gt (pc := 38) 87 dX12_bank_38 (by decide) (by first | omega | exact TI.i5 (by assumption) | exact TI.i3 (by assumption) | exact TI.i2 (by assumption) | exact TI.i1 (by assumption) | exact TI.i0 (by assumption) | exact TI.i4 (by assumption) | exact TI.i6 (by assumption) | exact TI.i7 (by assumption)) (by first | omega | exact TI.i5 (by assumption) | exact TI.i3 (by assumption) | exact TI.i2 (by assumption) | exact TI.i1 (by assumption) | exact TI.i0 (by assumption) | exact TI.i4 (by assumption) | exact TI.i6 (by assumption) | exact TI.i7 (by assumption)) (fun c38 => ?_) (fun c38 => ?_)
    ·
      have e : i = n := by omega
      subst e
      refine wp_ls ?_ (Kn hp2 F K O hF)
      repeat' (first | exact LE_0 | refine LE_s rfl ?_ | refine LE_s (I_c (by first | omega | (simp only [sm]; omega))) ?_ | refine LE_s (J_c (by first | omega | exact Int.pow_succ _ _ | exact (Int.pow_succ _ _).symm | exact (Int.pow_zero _).symm | (simp only [sm]; omega))) ?_ | refine LE_n ?_)
    ·
      refine wp_iconst (pc := 41) dX12_bank_41 ?_
      refine wp_istore (pc := 42) dX12_bank_42 (by decide) ?_
      refine wp_ls ?_ (lp_bk2 (n := i + 1) (u := (n : Int)) hx (by omega) (fun hp3 F3 K3 O3 h3 => ?_) 5 0 (by omega) (by omega) hp2 F K O hF (fun w hw => by omega))
      · repeat' (first | exact LE_0 | refine LE_s rfl ?_ | refine LE_s (I_c (by first | omega | (simp only [sm]; omega))) ?_ | refine LE_s (J_c (by first | omega | exact Int.pow_succ _ _ | exact (Int.pow_succ _ _).symm | exact (Int.pow_zero _).symm | (simp only [sm]; omega))) ?_ | refine LE_n ?_)
      · refine wp_iinc (pc := 81) dX12_bank_81 rfl (by decide) ?_
        refine wp_goto (pc := 84) 36 dX12_bank_84 (by decide) ?_
        refine wp_ls ?_ (ih (i + 1) (by omega) (by omega) hp3 F3 K3 O3 h3)
        repeat' (first | exact LE_0 | refine LE_s rfl ?_ | refine LE_s (I_c (by first | omega | (simp only [sm]; omega))) ?_ | refine LE_s (J_c (by first | omega | exact Int.pow_succ _ _ | exact (Int.pow_succ _ _).symm | exact (Int.pow_zero _).symm | (simp only [sm]; omega))) ?_ | refine LE_n ?_)
abbrev bkO (x y : Int) : Prop := 0 ≤ x ∧ x ≤ 99 ∧ 2 ≤ y ∧ y ≤ 9
def bkV (x y : Int) : Int := ltk (tkw y (x.toNat - 1)) x 3 y
theorem sp_Ref_bank (hM : MAt hp q th N T U tx rw rt hs ss KT) (rx : InR x) (ry : InR y) : Sp g MX12_bank (rm 2 0 0) [.ref q, .int (I x), .int (I y)] hp (Eff (.int (I (if bkO x y then (if x = 0 then -2 else if bkV x y = 0 then 0 else 1) else -1))) (fun hp2 => MAt hp2 q 0 N T U tx (if bkO x y ∧ ¬ x = 0 then (if bkV x y = 0 then [] else [bkV x y, if bkV x y = 1 ∨ bkV x y = x / 2 then 0 else 1]) else rw) rt hs ss KT ∧ SO hp hp2 q (q + 25))) := by
  refine Sp_mk rfl (Nat.le_of_ble_eq_true rfl) ?_
  show wp g _ _ _ 0 0 0 [some (.ref q), some (.int (I x)), some (.int (I y)), none, none] [] hp
  have O := SO.rf (hp := hp) (lo := q) (hi := q + 25)
  obtain ⟨V, A, rd, K, hth, M⟩ := hM
  have hu := M.ru (q := q)
  have M2 := M
  obtain ⟨m1, mA, mt, mr, mu, mU, mh, ms, mk⟩ := M2
  refine wp_aload_n (pc := 0) dX12_bank_0 rfl ?_
  refine wp_iconst (pc := 1) dX12_bank_1 ?_
  refine wm_put dX12_bank_2 pf_X12_85 K O (by decide) mset_6 rfl rfl (fun hp K O => ?_)
  refine wp_iload_n (pc := 5) dX12_bank_5 rfl ?_
  refine wp_iconst (pc := 6) dX12_bank_6 ?_
  refine wp_bipush (pc := 7) (y := 99) dX12_bank_7 (by decide) ?_
  refine wp_Sp (pc := 9) dX12_bank_9 cl_X12_95 (sp_Ref_in (by first | assumption | omega | (repeat (first | assumption | exact pv10 | exact pv11 | (apply pv_o; decide; decide) | exact upN_eq | (apply upN_ne; decide) | (apply SV_at; assumption; decide) | exact upA_eq | (apply upA_ne; first | decide | omega) | (apply SA_at; assumption; first | decide | (simp; omega)) | exact rfl))) (by first | assumption | omega | (repeat (first | assumption | exact pv10 | exact pv11 | (apply pv_o; decide; decide) | exact upN_eq | (apply upN_ne; decide) | (apply SV_at; assumption; decide) | exact upA_eq | (apply upA_ne; first | decide | omega) | (apply SA_at; assumption; first | decide | (simp; omega)) | exact rfl))) (by first | assumption | omega | (repeat (first | assumption | exact pv10 | exact pv11 | (apply pv_o; decide; decide) | exact upN_eq | (apply upN_ne; decide) | (apply SV_at; assumption; decide) | exact upA_eq | (apply upA_ne; first | decide | omega) | (apply SA_at; assumption; first | decide | (simp; omega)) | exact rfl)))) rfl rfl (by decide) (Nat.le_of_ble_eq_true rfl) ?_
  first | refine wp_ifb_eq (pc := 12) 25 dX12_bank_12 (by decide) (fun c12 => ?_) (fun c12 => ?_) | refine wp_if_eq (pc := 12) 25 dX12_bank_12 (by decide) (by first | omega | exact TI.i5 (by assumption) | exact TI.i3 (by assumption) | exact TI.i2 (by assumption) | exact TI.i1 (by assumption) | exact TI.i0 (by assumption) | exact TI.i4 (by assumption) | exact TI.i6 (by assumption) | exact TI.i7 (by assumption)) (fun c12 => ?_) (fun c12 => ?_)
  ·
    rw [if_neg (show ¬ bkO x y by omega), if_neg (show ¬ (bkO x y ∧ ¬ x = 0) by omega)] -- go
    refine wp_iconst (pc := 25) dX12_bank_25 ?_
    exact wp_ir (pc := 26) dX12_bank_26 rfl (by decide) (by decide) (by first | rfl | omega) ⟨⟨_, _, _, K, (by repeat (first | assumption | exact pv10 | exact pv11 | (apply pv_o; decide; decide) | exact upN_eq | (apply upN_ne; decide) | (apply SV_at; assumption; decide) | exact rfl)), M.qu (by repeat (first | exact SV.rf | assumption | (apply SV.up1; decide) | (apply SV.tr2; assumption; decide))) (by repeat (first | exact SA.rf | assumption | (apply SA.up1; decide) | (apply SA.tr2; assumption; decide))) (by first | assumption | exact Mrw.z (by repeat (first | assumption | exact pv10 | exact pv11 | (apply pv_o; decide; decide) | exact upN_eq | (apply upN_ne; decide) | (apply SV_at; assumption; decide) | exact rfl)) | exact Mrw.tr (by assumption) (by repeat (first | assumption | exact pv10 | exact pv11 | (apply pv_o; decide; decide) | exact upN_eq | (apply upN_ne; decide) | (apply SV_at; assumption; decide) | exact rfl)) (by repeat (first | assumption | exact upA_eq | (apply upA_ne; first | decide | omega) | (apply SA_at; assumption; first | decide | (simp; omega)) | exact rfl)))⟩, O⟩
  ·
    first
    | (exfalso; omega)
    | skip
      refine wp_iload_n (pc := 15) dX12_bank_15 rfl ?_
      refine wp_iconst (pc := 16) dX12_bank_16 ?_
      refine wp_bipush (pc := 17) (y := 9) dX12_bank_17 (by decide) ?_
      refine wp_Sp (pc := 19) dX12_bank_19 cl_X12_95 (sp_Ref_in (by first | assumption | omega | (repeat (first | assumption | exact pv10 | exact pv11 | (apply pv_o; decide; decide) | exact upN_eq | (apply upN_ne; decide) | (apply SV_at; assumption; decide) | exact upA_eq | (apply upA_ne; first | decide | omega) | (apply SA_at; assumption; first | decide | (simp; omega)) | exact rfl))) (by first | assumption | omega | (repeat (first | assumption | exact pv10 | exact pv11 | (apply pv_o; decide; decide) | exact upN_eq | (apply upN_ne; decide) | (apply SV_at; assumption; decide) | exact upA_eq | (apply upA_ne; first | decide | omega) | (apply SA_at; assumption; first | decide | (simp; omega)) | exact rfl))) (by first | assumption | omega | (repeat (first | assumption | exact pv10 | exact pv11 | (apply pv_o; decide; decide) | exact upN_eq | (apply upN_ne; decide) | (apply SV_at; assumption; decide) | exact upA_eq | (apply upA_ne; first | decide | omega) | (apply SA_at; assumption; first | decide | (simp; omega)) | exact rfl)))) rfl rfl (by decide) (Nat.le_of_ble_eq_true rfl) ?_
      first | refine wp_ifb_ne (pc := 22) 27 dX12_bank_22 (by decide) (fun c22 => ?_) (fun c22 => ?_) | refine wp_if_ne (pc := 22) 27 dX12_bank_22 (by decide) (by first | omega | exact TI.i5 (by assumption) | exact TI.i3 (by assumption) | exact TI.i2 (by assumption) | exact TI.i1 (by assumption) | exact TI.i0 (by assumption) | exact TI.i4 (by assumption) | exact TI.i6 (by assumption) | exact TI.i7 (by assumption)) (fun c22 => ?_) (fun c22 => ?_)
      ·
        rw [if_pos (show bkO x y by omega)] -- go
        refine wp_iload_n (pc := 27) dX12_bank_27 rfl ?_
        first | refine wp_ifb_ne (pc := 28) 34 dX12_bank_28 (by decide) (fun c28 => ?_) (fun c28 => ?_) | refine wp_if_ne (pc := 28) 34 dX12_bank_28 (by decide) (by first | omega | exact TI.i5 (by assumption) | exact TI.i3 (by assumption) | exact TI.i2 (by assumption) | exact TI.i1 (by assumption) | exact TI.i0 (by assumption) | exact TI.i4 (by assumption) | exact TI.i6 (by assumption) | exact TI.i7 (by assumption)) (fun c28 => ?_) (fun c28 => ?_)
        ·
          rw [if_neg c28, if_pos (show (bkO x y ∧ ¬ x = 0) by omega)]
          obtain ⟨n, rfl⟩ := Int.eq_ofNat_of_zero_le (show 0 ≤ x by omega)
          have hbn : bkV (n : Int) y = Bk y n 3 := rfl
          have hbr := ltk_in (W := tkw y (n - 1)) (c := (n : Int)) (o := 3) (x := y) (by omega) (by omega)
          have hbr2 : 0 ≤ bkV (n : Int) y ∧ bkV (n : Int) y ≤ 99 := hbr -- go
          refine wp_iconst (pc := 34) dX12_bank_34 ?_
          refine wp_istore_n (pc := 35) dX12_bank_35 (by decide) ?_
          refine wp_ls ?_ (lp_bk1 (n := n) (A := A) (V := upN V 6 0) (rd := rd) (by omega) (by omega) (fun hp3 F K O hF => ?_) (n + 1) 0 (by omega) (by omega) _ (A 20) (by rw [upA_id rfl]; exact K) O (fun c' w z1 z2 z3 => by omega))
          · repeat' (first | exact LE_0 | refine LE_s rfl ?_ | refine LE_s (I_c (by first | omega | (simp only [sm]; omega))) ?_ | refine LE_s (J_c (by first | omega | exact Int.pow_succ _ _ | exact (Int.pow_succ _ _).symm | exact (Int.pow_zero _).symm | (simp only [sm]; omega))) ?_ | refine LE_n ?_)
          ·
            refine wp_aload_n (pc := 87) dX12_bank_87 rfl ?_
            refine wm_get dX12_bank_88 gf_X12_69 K (by rfl) ?_
            refine wp_iconst (pc := 91) dX12_bank_91 ?_
            refine wp_iload_n (pc := 92) dX12_bank_92 rfl ?_
            refine wp_imul (pc := 93) dX12_bank_93 ?_
            refine wp_iconst (pc := 94) dX12_bank_94 ?_
            refine wp_iadd (pc := 95) dX12_bank_95 ?_
            refine wm_iald dX12_bank_96 K (by rfl) (by decide) (by decide) (by decide) (by omega) (by omega) upA_eq (show F (4 * (n : Int) + 3) = bkV (n : Int) y from hF n 3 (by omega) (by omega) (by decide)) ?_
            refine wp_istore_n (pc := 97) dX12_bank_97 (by decide) ?_
            refine wp_aload_n (pc := 98) dX12_bank_98 rfl ?_
            refine wp_iconst (pc := 99) dX12_bank_99 ?_
            refine wm_put dX12_bank_100 pf_X12_89 K O (by decide) mset_5 rfl rfl (fun hp K O => ?_)
            refine wp_iload_n (pc := 103) dX12_bank_103 rfl ?_
            first | refine wp_ifb_ne (pc := 104) 109 dX12_bank_104 (by decide) (fun c104 => ?_) (fun c104 => ?_) | refine wp_if_ne (pc := 104) 109 dX12_bank_104 (by decide) (by first | omega | exact TI.i5 (by assumption) | exact TI.i3 (by assumption) | exact TI.i2 (by assumption) | exact TI.i1 (by assumption) | exact TI.i0 (by assumption) | exact TI.i4 (by assumption) | exact TI.i6 (by assumption) | exact TI.i7 (by assumption)) (fun c104 => ?_) (fun c104 => ?_)
            ·
              rw [if_neg c104, if_neg c104] -- go
              refine wp_aload_n (pc := 109) dX12_bank_109 rfl ?_
              refine wp_iload_n (pc := 110) dX12_bank_110 rfl ?_
              refine wp_i2l (pc := 111) dX12_bank_111 (by first | omega | exact TI.i5 (by assumption) | exact TI.i3 (by assumption) | exact TI.i2 (by assumption) | exact TI.i1 (by assumption) | exact TI.i0 (by assumption) | exact TI.i4 (by assumption) | exact TI.i6 (by assumption) | exact TI.i7 (by assumption)) ?_
              refine wp_Vn (pc := 112) dX12_bank_112 cl_X12_253 (sp_Ref_tellR K (by first | assumption | exact Mrw.z (by repeat (first | assumption | exact pv10 | exact pv11 | (apply pv_o; decide; decide) | exact upN_eq | (apply upN_ne; decide) | (apply SV_at; assumption; decide) | exact rfl))) (by first | decide | (simp; omega) | simp | omega)) rfl rfl K.1 (by rfl) (by decide) (Nat.le_of_ble_eq_true rfl) (fun hp112 e112 => ?_)
              obtain ⟨⟨V112, A112, K, sV112, sA112, hR112⟩, O1⟩ := e112; replace O := SO.tr O O1
              refine wp_aload_n (pc := 115) dX12_bank_115 rfl ?_
              refine wp_iload_n (pc := 116) dX12_bank_116 rfl ?_
              refine wp_iconst (pc := 117) dX12_bank_117 ?_
              refine wp_icmp_eq (pc := 118) 128 dX12_bank_118 (by decide) (by first | omega | exact TI.i5 (by assumption) | exact TI.i3 (by assumption) | exact TI.i2 (by assumption) | exact TI.i1 (by assumption) | exact TI.i0 (by assumption) | exact TI.i4 (by assumption) | exact TI.i6 (by assumption) | exact TI.i7 (by assumption)) (by first | omega | exact TI.i5 (by assumption) | exact TI.i3 (by assumption) | exact TI.i2 (by assumption) | exact TI.i1 (by assumption) | exact TI.i0 (by assumption) | exact TI.i4 (by assumption) | exact TI.i6 (by assumption) | exact TI.i7 (by assumption)) (fun c118 => ?_) (fun c118 => ?_)
              ·
                rw [if_pos (show bkV (n : Int) y = 1 ∨ bkV (n : Int) y = (n : Int) / 2 from .inl c118)] -- go
                refine wp_lcst (pc := 128) (y := 0) dX12_bank_128 rfl ?_
                refine wp_goto (pc := 129) 133 dX12_bank_129 (by decide) ?_
                refine wp_Vn (pc := 133) dX12_bank_133 cl_X12_253 (sp_Ref_tellR K (by first | assumption | exact Mrw.z (by repeat (first | assumption | exact pv10 | exact pv11 | (apply pv_o; decide; decide) | exact upN_eq | (apply upN_ne; decide) | (apply SV_at; assumption; decide) | exact rfl))) (by first | decide | (simp; omega) | simp | omega)) rfl rfl K.1 (by rfl) (by decide) (Nat.le_of_ble_eq_true rfl) (fun hp133 e133 => ?_)
                obtain ⟨⟨V133, A133, K, sV133, sA133, hR133⟩, O1⟩ := e133; replace O := SO.tr O O1
                refine wp_iconst (pc := 136) dX12_bank_136 ?_
                exact wp_ir (pc := 137) dX12_bank_137 rfl (by decide) (by decide) (by first | rfl | omega) ⟨⟨_, _, _, K, (by repeat (first | assumption | exact pv10 | exact pv11 | (apply pv_o; decide; decide) | exact upN_eq | (apply upN_ne; decide) | (apply SV_at; assumption; decide) | exact rfl)), M.qu (by repeat (first | exact SV.rf | assumption | (apply SV.up1; decide) | (apply SV.tr2; assumption; decide))) (by repeat (first | exact SA.rf | assumption | (apply SA.up1; decide) | (apply SA.tr2; assumption; decide))) (by first | assumption | exact Mrw.z (by repeat (first | assumption | exact pv10 | exact pv11 | (apply pv_o; decide; decide) | exact upN_eq | (apply upN_ne; decide) | (apply SV_at; assumption; decide) | exact rfl)) | exact Mrw.tr (by assumption) (by repeat (first | assumption | exact pv10 | exact pv11 | (apply pv_o; decide; decide) | exact upN_eq | (apply upN_ne; decide) | (apply SV_at; assumption; decide) | exact rfl)) (by repeat (first | assumption | exact upA_eq | (apply upA_ne; first | decide | omega) | (apply SA_at; assumption; first | decide | (simp; omega)) | exact rfl)))⟩, O⟩
              ·
                first
                | (exfalso; omega)
                | skip
                  refine wp_iload_n (pc := 121) dX12_bank_121 rfl ?_
                  refine wp_iload_n (pc := 122) dX12_bank_122 rfl ?_
                  refine wp_iconst (pc := 123) dX12_bank_123 ?_
                  refine wp_idiv (pc := 124) dX12_bank_124 (by decide) (I_div (by omega) (by omega) (by omega) (by omega)) ?_
                  refine wp_icmp_ne (pc := 125) 132 dX12_bank_125 (by decide) (by first | omega | exact TI.i5 (by assumption) | exact TI.i3 (by assumption) | exact TI.i2 (by assumption) | exact TI.i1 (by assumption) | exact TI.i0 (by assumption) | exact TI.i4 (by assumption) | exact TI.i6 (by assumption) | exact TI.i7 (by assumption)) (by first | omega | exact TI.i5 (by assumption) | exact TI.i3 (by assumption) | exact TI.i2 (by assumption) | exact TI.i1 (by assumption) | exact TI.i0 (by assumption) | exact TI.i4 (by assumption) | exact TI.i6 (by assumption) | exact TI.i7 (by assumption)) (fun c125 => ?_) (fun c125 => ?_)
                  ·
                    rw [if_neg (show ¬ (bkV (n : Int) y = 1 ∨ bkV (n : Int) y = (n : Int) / 2) from fun z => z.elim c118 c125)] -- go
                    refine wp_lcst (pc := 132) (y := 1) dX12_bank_132 rfl ?_
                    refine wp_Vn (pc := 133) dX12_bank_133 cl_X12_253 (sp_Ref_tellR K (by first | assumption | exact Mrw.z (by repeat (first | assumption | exact pv10 | exact pv11 | (apply pv_o; decide; decide) | exact upN_eq | (apply upN_ne; decide) | (apply SV_at; assumption; decide) | exact rfl))) (by first | decide | (simp; omega) | simp | omega)) rfl rfl K.1 (by rfl) (by decide) (Nat.le_of_ble_eq_true rfl) (fun hp133 e133 => ?_)
                    obtain ⟨⟨V133, A133, K, sV133, sA133, hR133⟩, O1⟩ := e133; replace O := SO.tr O O1
                    refine wp_iconst (pc := 136) dX12_bank_136 ?_
                    exact wp_ir (pc := 137) dX12_bank_137 rfl (by decide) (by decide) (by first | rfl | omega) ⟨⟨_, _, _, K, (by repeat (first | assumption | exact pv10 | exact pv11 | (apply pv_o; decide; decide) | exact upN_eq | (apply upN_ne; decide) | (apply SV_at; assumption; decide) | exact rfl)), M.qu (by repeat (first | exact SV.rf | assumption | (apply SV.up1; decide) | (apply SV.tr2; assumption; decide))) (by repeat (first | exact SA.rf | assumption | (apply SA.up1; decide) | (apply SA.tr2; assumption; decide))) (by first | assumption | exact Mrw.z (by repeat (first | assumption | exact pv10 | exact pv11 | (apply pv_o; decide; decide) | exact upN_eq | (apply upN_ne; decide) | (apply SV_at; assumption; decide) | exact rfl)) | exact Mrw.tr (by assumption) (by repeat (first | assumption | exact pv10 | exact pv11 | (apply pv_o; decide; decide) | exact upN_eq | (apply upN_ne; decide) | (apply SV_at; assumption; decide) | exact rfl)) (by repeat (first | assumption | exact upA_eq | (apply upA_ne; first | decide | omega) | (apply SA_at; assumption; first | decide | (simp; omega)) | exact rfl)))⟩, O⟩
                  ·
                    rw [if_pos (show bkV (n : Int) y = 1 ∨ bkV (n : Int) y = (n : Int) / 2 from .inr c125)] -- go
                    refine wp_lcst (pc := 128) (y := 0) dX12_bank_128 rfl ?_
                    refine wp_goto (pc := 129) 133 dX12_bank_129 (by decide) ?_
                    refine wp_Vn (pc := 133) dX12_bank_133 cl_X12_253 (sp_Ref_tellR K (by first | assumption | exact Mrw.z (by repeat (first | assumption | exact pv10 | exact pv11 | (apply pv_o; decide; decide) | exact upN_eq | (apply upN_ne; decide) | (apply SV_at; assumption; decide) | exact rfl))) (by first | decide | (simp; omega) | simp | omega)) rfl rfl K.1 (by rfl) (by decide) (Nat.le_of_ble_eq_true rfl) (fun hp133 e133 => ?_)
                    obtain ⟨⟨V133, A133, K, sV133, sA133, hR133⟩, O1⟩ := e133; replace O := SO.tr O O1
                    refine wp_iconst (pc := 136) dX12_bank_136 ?_
                    exact wp_ir (pc := 137) dX12_bank_137 rfl (by decide) (by decide) (by first | rfl | omega) ⟨⟨_, _, _, K, (by repeat (first | assumption | exact pv10 | exact pv11 | (apply pv_o; decide; decide) | exact upN_eq | (apply upN_ne; decide) | (apply SV_at; assumption; decide) | exact rfl)), M.qu (by repeat (first | exact SV.rf | assumption | (apply SV.up1; decide) | (apply SV.tr2; assumption; decide))) (by repeat (first | exact SA.rf | assumption | (apply SA.up1; decide) | (apply SA.tr2; assumption; decide))) (by first | assumption | exact Mrw.z (by repeat (first | assumption | exact pv10 | exact pv11 | (apply pv_o; decide; decide) | exact upN_eq | (apply upN_ne; decide) | (apply SV_at; assumption; decide) | exact rfl)) | exact Mrw.tr (by assumption) (by repeat (first | assumption | exact pv10 | exact pv11 | (apply pv_o; decide; decide) | exact upN_eq | (apply upN_ne; decide) | (apply SV_at; assumption; decide) | exact rfl)) (by repeat (first | assumption | exact upA_eq | (apply upA_ne; first | decide | omega) | (apply SA_at; assumption; first | decide | (simp; omega)) | exact rfl)))⟩, O⟩
            ·
              rw [if_pos c104, if_pos c104] -- go
              refine wp_iconst (pc := 107) dX12_bank_107 ?_
              exact wp_ir (pc := 108) dX12_bank_108 rfl (by decide) (by decide) (by first | rfl | omega) ⟨⟨_, _, _, K, (by repeat (first | assumption | exact pv10 | exact pv11 | (apply pv_o; decide; decide) | exact upN_eq | (apply upN_ne; decide) | (apply SV_at; assumption; decide) | exact rfl)), M.qu (by repeat (first | exact SV.rf | assumption | (apply SV.up1; decide) | (apply SV.tr2; assumption; decide))) (by repeat (first | exact SA.rf | assumption | (apply SA.up1; decide) | (apply SA.tr2; assumption; decide))) (by first | assumption | exact Mrw.z (by repeat (first | assumption | exact pv10 | exact pv11 | (apply pv_o; decide; decide) | exact upN_eq | (apply upN_ne; decide) | (apply SV_at; assumption; decide) | exact rfl)) | exact Mrw.tr (by assumption) (by repeat (first | assumption | exact pv10 | exact pv11 | (apply pv_o; decide; decide) | exact upN_eq | (apply upN_ne; decide) | (apply SV_at; assumption; decide) | exact rfl)) (by repeat (first | assumption | exact upA_eq | (apply upA_ne; first | decide | omega) | (apply SA_at; assumption; first | decide | (simp; omega)) | exact rfl)))⟩, O⟩
        ·
          rw [if_pos c28, if_neg (show ¬ (bkO x y ∧ ¬ x = 0) by omega)] -- go
          refine wp_bipush (pc := 31) (y := (-2)) dX12_bank_31 (by decide) ?_
          exact wp_ir (pc := 33) dX12_bank_33 rfl (by decide) (by decide) (by first | rfl | omega) ⟨⟨_, _, _, K, (by repeat (first | assumption | exact pv10 | exact pv11 | (apply pv_o; decide; decide) | exact upN_eq | (apply upN_ne; decide) | (apply SV_at; assumption; decide) | exact rfl)), M.qu (by repeat (first | exact SV.rf | assumption | (apply SV.up1; decide) | (apply SV.tr2; assumption; decide))) (by repeat (first | exact SA.rf | assumption | (apply SA.up1; decide) | (apply SA.tr2; assumption; decide))) (by first | assumption | exact Mrw.z (by repeat (first | assumption | exact pv10 | exact pv11 | (apply pv_o; decide; decide) | exact upN_eq | (apply upN_ne; decide) | (apply SV_at; assumption; decide) | exact rfl)) | exact Mrw.tr (by assumption) (by repeat (first | assumption | exact pv10 | exact pv11 | (apply pv_o; decide; decide) | exact upN_eq | (apply upN_ne; decide) | (apply SV_at; assumption; decide) | exact rfl)) (by repeat (first | assumption | exact upA_eq | (apply upA_ne; first | decide | omega) | (apply SA_at; assumption; first | decide | (simp; omega)) | exact rfl)))⟩, O⟩
      ·
        rw [if_neg (show ¬ bkO x y by omega), if_neg (show ¬ (bkO x y ∧ ¬ x = 0) by omega)] -- go
        refine wp_iconst (pc := 25) dX12_bank_25 ?_
        exact wp_ir (pc := 26) dX12_bank_26 rfl (by decide) (by decide) (by first | rfl | omega) ⟨⟨_, _, _, K, (by repeat (first | assumption | exact pv10 | exact pv11 | (apply pv_o; decide; decide) | exact upN_eq | (apply upN_ne; decide) | (apply SV_at; assumption; decide) | exact rfl)), M.qu (by repeat (first | exact SV.rf | assumption | (apply SV.up1; decide) | (apply SV.tr2; assumption; decide))) (by repeat (first | exact SA.rf | assumption | (apply SA.up1; decide) | (apply SA.tr2; assumption; decide))) (by first | assumption | exact Mrw.z (by repeat (first | assumption | exact pv10 | exact pv11 | (apply pv_o; decide; decide) | exact upN_eq | (apply upN_ne; decide) | (apply SV_at; assumption; decide) | exact rfl)) | exact Mrw.tr (by assumption) (by repeat (first | assumption | exact pv10 | exact pv11 | (apply pv_o; decide; decide) | exact upN_eq | (apply upN_ne; decide) | (apply SV_at; assumption; decide) | exact rfl)) (by repeat (first | assumption | exact upA_eq | (apply upA_ne; first | decide | omega) | (apply SA_at; assumption; first | decide | (simp; omega)) | exact rfl)))⟩, O⟩
/-! eulogies at rest -/
theorem sp_Ref_gets (rx : 0 ≤ x ∧ x ≤ 9) (ry : 0 ≤ y ∧ y ≤ 9) (rv : 0 ≤ v ∧ v ≤ 20) (rc : 0 ≤ c ∧ c ≤ 5) : Sp g MX12_gets (rm 0 0 0) [.int (I x), .int (I y), .int (I v), .int (I c)] hp (Pur (.int (I (gan x y v c))) hp) := by
  refine Sp_mk rfl (Nat.le_of_ble_eq_true rfl) ?_
  show wp g _ _ _ 0 0 0 [some (.int (I x)), some (.int (I y)), some (.int (I v)), some (.int (I c)), none] [] hp
  refine wp_iload_n (pc := 0) dX12_gets_0 rfl ?_
  refine wp_iload_n (pc := 1) dX12_gets_1 rfl ?_
  refine wp_iconst (pc := 2) dX12_gets_2 ?_
  refine wp_iadd (pc := 3) dX12_gets_3 ?_
  refine wp_icmp_lt (pc := 4) 11 dX12_gets_4 (by decide) (by first | omega | exact TI.i5 (by assumption) | exact TI.i3 (by assumption) | exact TI.i2 (by assumption) | exact TI.i1 (by assumption) | exact TI.i0 (by assumption) | exact TI.i4 (by assumption) | exact TI.i6 (by assumption) | exact TI.i7 (by assumption)) (by first | omega | exact TI.i5 (by assumption) | exact TI.i3 (by assumption) | exact TI.i2 (by assumption) | exact TI.i1 (by assumption) | exact TI.i0 (by assumption) | exact TI.i4 (by assumption) | exact TI.i6 (by assumption) | exact TI.i7 (by assumption)) (fun c4 => ?_) (fun c4 => ?_)
  ·
    first
    | (exfalso; omega)
    | skip
      refine wp_iconst (pc := 11) dX12_gets_11 ?_
      refine wp_istore (pc := 12) dX12_gets_12 (by decide) ?_
      refine wp_iload_n (pc := 14) dX12_gets_14 rfl ?_
      refine wp_iload_n (pc := 15) dX12_gets_15 rfl ?_
      refine wp_icmp_le (pc := 16) 23 dX12_gets_16 (by decide) (by first | omega | exact TI.i5 (by assumption) | exact TI.i3 (by assumption) | exact TI.i2 (by assumption) | exact TI.i1 (by assumption) | exact TI.i0 (by assumption) | exact TI.i4 (by assumption) | exact TI.i6 (by assumption) | exact TI.i7 (by assumption)) (by first | omega | exact TI.i5 (by assumption) | exact TI.i3 (by assumption) | exact TI.i2 (by assumption) | exact TI.i1 (by assumption) | exact TI.i0 (by assumption) | exact TI.i4 (by assumption) | exact TI.i6 (by assumption) | exact TI.i7 (by assumption)) (fun c16 => ?_) (fun c16 => ?_)
      ·
        first
        | (exfalso; omega)
        | skip
          refine wp_iload_n (pc := 23) dX12_gets_23 rfl ?_
          refine wp_iload_n (pc := 24) dX12_gets_24 rfl ?_
          refine wp_icmp_ne (pc := 25) 34 dX12_gets_25 (by decide) (by first | omega | exact TI.i5 (by assumption) | exact TI.i3 (by assumption) | exact TI.i2 (by assumption) | exact TI.i1 (by assumption) | exact TI.i0 (by assumption) | exact TI.i4 (by assumption) | exact TI.i6 (by assumption) | exact TI.i7 (by assumption)) (by first | omega | exact TI.i5 (by assumption) | exact TI.i3 (by assumption) | exact TI.i2 (by assumption) | exact TI.i1 (by assumption) | exact TI.i0 (by assumption) | exact TI.i4 (by assumption) | exact TI.i6 (by assumption) | exact TI.i7 (by assumption)) (fun c25 => ?_) (fun c25 => ?_)
          ·
            first
            | (exfalso; omega)
            | skip
              refine wp_iconst (pc := 34) dX12_gets_34 ?_
              refine wp_iload_n (pc := 35) dX12_gets_35 rfl ?_
              refine wp_iload (pc := 36) dX12_gets_36 rfl ?_
              refine wp_isub (pc := 38) dX12_gets_38 ?_
              refine wp_iload_n (pc := 39) dX12_gets_39 rfl ?_
              refine wp_imul (pc := 40) dX12_gets_40 ?_
              refine wp_isub (pc := 41) dX12_gets_41 ?_
              exact wp_ir (pc := 42) dX12_gets_42 rfl (by decide) (by decide) (by unfold gan; (repeat' split) <;> first | rfl | omega) (by first | exact ⟨K, O⟩ | rfl)
          ·
            first
            | (exfalso; omega)
            | skip
              refine wp_iload_n (pc := 28) dX12_gets_28 rfl ?_
              refine wp_iconst (pc := 29) dX12_gets_29 ?_
              refine wp_idiv (pc := 30) dX12_gets_30 (by decide) (I_div (by omega) (by omega) (by omega) (by omega)) ?_
              refine wp_goto (pc := 31) 35 dX12_gets_31 (by decide) ?_
              refine wp_iload_n (pc := 35) dX12_gets_35 rfl ?_
              refine wp_iload (pc := 36) dX12_gets_36 rfl ?_
              refine wp_isub (pc := 38) dX12_gets_38 ?_
              refine wp_iload_n (pc := 39) dX12_gets_39 rfl ?_
              refine wp_imul (pc := 40) dX12_gets_40 ?_
              refine wp_isub (pc := 41) dX12_gets_41 ?_
              exact wp_ir (pc := 42) dX12_gets_42 rfl (by decide) (by decide) (by unfold gan; (repeat' split) <;> first | rfl | omega) (by first | exact ⟨K, O⟩ | rfl)
      ·
        first
        | (exfalso; omega)
        | skip
          refine wp_iload_n (pc := 19) dX12_gets_19 rfl ?_
          refine wp_goto (pc := 20) 35 dX12_gets_20 (by decide) ?_
          refine wp_iload_n (pc := 35) dX12_gets_35 rfl ?_
          refine wp_iload (pc := 36) dX12_gets_36 rfl ?_
          refine wp_isub (pc := 38) dX12_gets_38 ?_
          refine wp_iload_n (pc := 39) dX12_gets_39 rfl ?_
          refine wp_imul (pc := 40) dX12_gets_40 ?_
          refine wp_isub (pc := 41) dX12_gets_41 ?_
          exact wp_ir (pc := 42) dX12_gets_42 rfl (by decide) (by decide) (by unfold gan; (repeat' split) <;> first | rfl | omega) (by first | exact ⟨K, O⟩ | rfl)
  ·
    first
    | (exfalso; omega)
    | skip
      refine wp_iconst (pc := 7) dX12_gets_7 ?_
      refine wp_goto (pc := 8) 12 dX12_gets_8 (by decide) ?_
      refine wp_istore (pc := 12) dX12_gets_12 (by decide) ?_
      refine wp_iload_n (pc := 14) dX12_gets_14 rfl ?_
      refine wp_iload_n (pc := 15) dX12_gets_15 rfl ?_
      refine wp_icmp_le (pc := 16) 23 dX12_gets_16 (by decide) (by first | omega | exact TI.i5 (by assumption) | exact TI.i3 (by assumption) | exact TI.i2 (by assumption) | exact TI.i1 (by assumption) | exact TI.i0 (by assumption) | exact TI.i4 (by assumption) | exact TI.i6 (by assumption) | exact TI.i7 (by assumption)) (by first | omega | exact TI.i5 (by assumption) | exact TI.i3 (by assumption) | exact TI.i2 (by assumption) | exact TI.i1 (by assumption) | exact TI.i0 (by assumption) | exact TI.i4 (by assumption) | exact TI.i6 (by assumption) | exact TI.i7 (by assumption)) (fun c16 => ?_) (fun c16 => ?_)
      ·
        first
        | (exfalso; omega)
        | skip
          refine wp_iload_n (pc := 23) dX12_gets_23 rfl ?_
          refine wp_iload_n (pc := 24) dX12_gets_24 rfl ?_
          refine wp_icmp_ne (pc := 25) 34 dX12_gets_25 (by decide) (by first | omega | exact TI.i5 (by assumption) | exact TI.i3 (by assumption) | exact TI.i2 (by assumption) | exact TI.i1 (by assumption) | exact TI.i0 (by assumption) | exact TI.i4 (by assumption) | exact TI.i6 (by assumption) | exact TI.i7 (by assumption)) (by first | omega | exact TI.i5 (by assumption) | exact TI.i3 (by assumption) | exact TI.i2 (by assumption) | exact TI.i1 (by assumption) | exact TI.i0 (by assumption) | exact TI.i4 (by assumption) | exact TI.i6 (by assumption) | exact TI.i7 (by assumption)) (fun c25 => ?_) (fun c25 => ?_)
          ·
            first
            | (exfalso; omega)
            | skip
              refine wp_iconst (pc := 34) dX12_gets_34 ?_
              refine wp_iload_n (pc := 35) dX12_gets_35 rfl ?_
              refine wp_iload (pc := 36) dX12_gets_36 rfl ?_
              refine wp_isub (pc := 38) dX12_gets_38 ?_
              refine wp_iload_n (pc := 39) dX12_gets_39 rfl ?_
              refine wp_imul (pc := 40) dX12_gets_40 ?_
              refine wp_isub (pc := 41) dX12_gets_41 ?_
              exact wp_ir (pc := 42) dX12_gets_42 rfl (by decide) (by decide) (by unfold gan; (repeat' split) <;> first | rfl | omega) (by first | exact ⟨K, O⟩ | rfl)
          ·
            first
            | (exfalso; omega)
            | skip
              refine wp_iload_n (pc := 28) dX12_gets_28 rfl ?_
              refine wp_iconst (pc := 29) dX12_gets_29 ?_
              refine wp_idiv (pc := 30) dX12_gets_30 (by decide) (I_div (by omega) (by omega) (by omega) (by omega)) ?_
              refine wp_goto (pc := 31) 35 dX12_gets_31 (by decide) ?_
              refine wp_iload_n (pc := 35) dX12_gets_35 rfl ?_
              refine wp_iload (pc := 36) dX12_gets_36 rfl ?_
              refine wp_isub (pc := 38) dX12_gets_38 ?_
              refine wp_iload_n (pc := 39) dX12_gets_39 rfl ?_
              refine wp_imul (pc := 40) dX12_gets_40 ?_
              refine wp_isub (pc := 41) dX12_gets_41 ?_
              exact wp_ir (pc := 42) dX12_gets_42 rfl (by decide) (by decide) (by unfold gan; (repeat' split) <;> first | rfl | omega) (by first | exact ⟨K, O⟩ | rfl)
      ·
        first
        | (exfalso; omega)
        | skip
          refine wp_iload_n (pc := 19) dX12_gets_19 rfl ?_
          refine wp_goto (pc := 20) 35 dX12_gets_20 (by decide) ?_
          refine wp_iload_n (pc := 35) dX12_gets_35 rfl ?_
          refine wp_iload (pc := 36) dX12_gets_36 rfl ?_
          refine wp_isub (pc := 38) dX12_gets_38 ?_
          refine wp_iload_n (pc := 39) dX12_gets_39 rfl ?_
          refine wp_imul (pc := 40) dX12_gets_40 ?_
          refine wp_isub (pc := 41) dX12_gets_41 ?_
          exact wp_ir (pc := 42) dX12_gets_42 rfl (by decide) (by decide) (by unfold gan; (repeat' split) <;> first | rfl | omega) (by first | exact ⟨K, O⟩ | rfl)
theorem bmx_ge {v c y : Int} : ∀ n z : Nat, z ≤ n → gan (z : Int) y v c ≤ bmx v c y n
  | 0, z, h => by rw [show z = 0 by omega]; exact Int.le_refl _
  | n + 1, z, h => by
    show _ ≤ mx (bmx v c y n) (gan ((n : Int) + 1) y v c)
    unfold mx
    by_cases e : z = n + 1
    · subst e
      have : gan ((n + 1 : Nat) : Int) y v c = gan ((n : Int) + 1) y v c := rfl
      split <;> omega
    · have := bmx_ge (v := v) (c := c) (y := y) n z (by omega)
      split <;> omega
theorem bmx_at {v c y : Int} : ∀ n : Nat, ∃ z : Nat, z ≤ n ∧ bmx v c y n = gan (z : Int) y v c
  | 0 => ⟨0, Nat.le_refl _, rfl⟩
  | n + 1 => by
    obtain ⟨z, hz, e⟩ := bmx_at (v := v) (c := c) (y := y) n
    show ∃ z : Nat, z ≤ n + 1 ∧ mx (bmx v c y n) (gan ((n : Int) + 1) y v c) = _
    unfold mx
    split
    · exact ⟨n + 1, Nat.le_refl _, rfl⟩
    · exact ⟨z, by omega, e⟩
abbrev bstP (x y v c : Int) : Prop := gan x y v c = bmx v c y 9
theorem bst_no {z : Nat} (hz : z ≤ 9) (h : gan x y v c < gan (z : Int) y v c) : ¬ bstP x y v c := fun e => by
  have := bmx_ge (v := v) (c := c) (y := y) 9 z hz
  unfold bstP at e
  omega
theorem bst_yes {k : Nat} (hx : (k : Int) = x) (hk : k ≤ 9) (h : ∀ z : Nat, z < 10 → gan (z : Int) y v c ≤ gan x y v c) : bstP x y v c := by
  obtain ⟨z, hz, e⟩ := bmx_at (v := v) (c := c) (y := y) 9
  have h1 := h z (by omega)
  have h2 := bmx_ge (v := v) (c := c) (y := y) 9 k hk
  rw [hx] at h2
  show _ = _
  omega
theorem lp_Ref_isBest (hk : k ≤ 9) (ry : 0 ≤ y ∧ y ≤ 9) (rv : 0 ≤ v ∧ v ≤ 20) (rc : 0 ≤ c ∧ c ≤ 5) : ∀ (m i : Nat), 10 < i + m → i ≤ 10 → ∀ (hl : ∀ z : Nat, z < i → gan (z : Int) y v c ≤ gan (k : Int) y v c), wp g MX12_isBest (rm 1 0 0) (Pur (.int (B (bstP (k : Int) y v c))) hp) 0 0 3 [some (.int (I (k : Int))), some (.int (I y)), some (.int (I v)), some (.int (I c)), some (.int (I (i : Int)))] [] hp := by
  intro m
  induction m with
  | zero => intro i h1 h2; exact absurd h1 (by omega)
  | succ m ih =>
    intro i h1 h2 hl
    have g1 := gan_in (x := (k : Int)) (y := y) (by omega) ry rv rc
    refine wp_iload (pc := 3) dX12_isBest_3 rfl ?_
    refine wp_bipush (pc := 5) (y := 9) dX12_isBest_5 (by decide) ?_
    refine wp_icmp_gt (pc := 7) 36 dX12_isBest_7 (by decide) (by first | omega | exact TI.i5 (by assumption) | exact TI.i3 (by assumption) | exact TI.i2 (by assumption) | exact TI.i1 (by assumption) | exact TI.i0 (by assumption) | exact TI.i4 (by assumption) | exact TI.i6 (by assumption) | exact TI.i7 (by assumption)) (by first | omega | exact TI.i5 (by assumption) | exact TI.i3 (by assumption) | exact TI.i2 (by assumption) | exact TI.i1 (by assumption) | exact TI.i0 (by assumption) | exact TI.i4 (by assumption) | exact TI.i6 (by assumption) | exact TI.i7 (by assumption)) (fun c7 => ?_) (fun c7 => ?_)
    ·
      have e : i = 10 := by omega
      subst e
      have hz := bst_yes (x := (k : Int)) (k := k) rfl hk hl -- go
      refine wp_iconst (pc := 36) dX12_isBest_36 ?_
      first | exact wp_z1 (pc := 37) dX12_isBest_37 rfl (by decide) (by decide) hz (by first | exact ⟨K, O⟩ | rfl) | exact wp_z0 (pc := 37) dX12_isBest_37 rfl (by decide) (by decide) hz (by first | exact ⟨K, O⟩ | rfl) | exact wp_zb (pc := 37) dX12_isBest_37 rfl (by decide) (by decide) Iff.rfl (by first | exact ⟨K, O⟩ | rfl)
    ·
      have g2 := gan_in (x := (i : Int)) (y := y) (by omega) ry rv rc
      skip -- go
      refine wp_iload (pc := 10) dX12_isBest_10 rfl ?_
      refine wp_iload_n (pc := 12) dX12_isBest_12 rfl ?_
      refine wp_iload_n (pc := 13) dX12_isBest_13 rfl ?_
      refine wp_iload_n (pc := 14) dX12_isBest_14 rfl ?_
      refine wp_Sp (pc := 15) dX12_isBest_15 cl_X12_364 (sp_Ref_gets (by omega) ry rv rc) rfl rfl (by decide) (Nat.le_of_ble_eq_true rfl) ?_
      refine wp_iload_n (pc := 18) dX12_isBest_18 rfl ?_
      refine wp_iload_n (pc := 19) dX12_isBest_19 rfl ?_
      refine wp_iload_n (pc := 20) dX12_isBest_20 rfl ?_
      refine wp_iload_n (pc := 21) dX12_isBest_21 rfl ?_
      refine wp_Sp (pc := 22) dX12_isBest_22 cl_X12_364 (sp_Ref_gets (by omega) ry rv rc) rfl rfl (by decide) (Nat.le_of_ble_eq_true rfl) ?_
      refine wp_icmp_le (pc := 25) 30 dX12_isBest_25 (by decide) (by first | omega | exact TI.i5 (by assumption) | exact TI.i3 (by assumption) | exact TI.i2 (by assumption) | exact TI.i1 (by assumption) | exact TI.i0 (by assumption) | exact TI.i4 (by assumption) | exact TI.i6 (by assumption) | exact TI.i7 (by assumption)) (by first | omega | exact TI.i5 (by assumption) | exact TI.i3 (by assumption) | exact TI.i2 (by assumption) | exact TI.i1 (by assumption) | exact TI.i0 (by assumption) | exact TI.i4 (by assumption) | exact TI.i6 (by assumption) | exact TI.i7 (by assumption)) (fun c25 => ?_) (fun c25 => ?_)
      ·
        refine wp_iinc (pc := 30) dX12_isBest_30 rfl (by decide) ?_
        refine wp_goto (pc := 33) 3 dX12_isBest_33 (by decide) ?_
        refine wp_ls ?_ (ih (i + 1) (by omega) (by omega) (fun z hz => if e : z = i then by rw [e]; exact c25 else hl z (by omega)))
        repeat' (first | exact LE_0 | refine LE_s rfl ?_ | refine LE_s (I_c (by first | omega | (simp only [sm]; omega))) ?_ | refine LE_s (J_c (by first | omega | exact Int.pow_succ _ _ | exact (Int.pow_succ _ _).symm | exact (Int.pow_zero _).symm | (simp only [sm]; omega))) ?_ | refine LE_n ?_)
      ·
        have hz := bst_no (z := i) (x := (k : Int)) (y := y) (v := v) (c := c) (by omega) (by omega)
        skip -- go
        refine wp_iconst (pc := 28) dX12_isBest_28 ?_
        first | exact wp_z1 (pc := 29) dX12_isBest_29 rfl (by decide) (by decide) hz (by first | exact ⟨K, O⟩ | rfl) | exact wp_z0 (pc := 29) dX12_isBest_29 rfl (by decide) (by decide) hz (by first | exact ⟨K, O⟩ | rfl) | exact wp_zb (pc := 29) dX12_isBest_29 rfl (by decide) (by decide) Iff.rfl (by first | exact ⟨K, O⟩ | rfl)
theorem sp_Ref_isBest (hk : k ≤ 9) (ry : 0 ≤ y ∧ y ≤ 9) (rv : 0 ≤ v ∧ v ≤ 20) (rc : 0 ≤ c ∧ c ≤ 5) : Sp g MX12_isBest (rm 1 0 0) [.int (I (k : Int)), .int (I y), .int (I v), .int (I c)] hp (Pur (.int (B (bstP (k : Int) y v c))) hp) := by
  refine Sp_mk rfl (Nat.le_of_ble_eq_true rfl) ?_
  show wp g _ _ _ 0 0 0 [some (.int (I (k : Int))), some (.int (I y)), some (.int (I v)), some (.int (I c)), none] [] hp
  refine wp_iconst (pc := 0) dX12_isBest_0 ?_
  refine wp_istore (pc := 1) dX12_isBest_1 (by decide) ?_
  refine wp_ls ?_ (lp_Ref_isBest hk ry rv rc 11 0 (by omega) (by omega) (fun z hz => by omega))
  repeat' (first | exact LE_0 | refine LE_s rfl ?_ | refine LE_s (I_c (by first | omega | (simp only [sm]; omega))) ?_ | refine LE_s (J_c (by first | omega | exact Int.pow_succ _ _ | exact (Int.pow_succ _ _).symm | exact (Int.pow_zero _).symm | (simp only [sm]; omega))) ?_ | refine LE_n ?_)
theorem rst_iff {x y : Nat} (hy : y < 10) : rst v c (10 * x + y) = true ↔ (bstP (x : Int) (y : Int) v c ∧ bstP (y : Int) (x : Int) v c) := by
  unfold rst
  rw [decide_eq_true_iff, show (10 * x + y) / 10 = x by omega, show (10 * x + y) % 10 = y by omega]
end MT_

