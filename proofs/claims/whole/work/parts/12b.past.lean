/-! Past: thirteen towns in a ring -/
section PA
variable {g : GT} {hp hp2 : Hp} {P h N nx sz : Nat} {T : Nat → Int → Int} {W : Nat → Nat → Int → Int} {a b n : Int}
def PastAt (hp : Hp) (P : Nat) (W : Nat → Nat → Int → Int) (nx sz : Nat) : Prop :=
  hp.2 P = some (.inr (.inr (5, [.ref (P + 1), .int (I (nx : Int)), .int (I (sz : Int))]))) ∧ (∃ F : Nat → Option Nat, hp.2 (P + 1) = some (.inr (.inl ("DeadTillSix$Town", 13, F))) ∧ ∀ i, i < 13 → F i = some (P + 2 + 8 * i)) ∧ (∀ i, i < 13 → TownAt hp (P + 2 + 8 * i) (W i)) ∧ nx < 13 ∧ sz ≤ 12
theorem PastAt.off (hP : PastAt hp P W nx sz) (hS : ∀ x, P ≤ x → x < P + 106 → hp2.2 x = hp.2 x) : PastAt hp2 P W nx sz := by
  obtain ⟨p0, ⟨F, p1, pF⟩, pT, hn, hs⟩ := hP
  exact ⟨(hS _ (by omega) (by omega)).trans p0, ⟨F, (hS _ (by omega) (by omega)).trans p1, pF⟩, fun i hi => (pT i hi).off fun x h1 h2 => hS x (by omega) (by omega), hn, hs⟩
theorem PastAt.fr (h : PastAt hp P W nx sz) {lo hi : Nat} (hS : SO hp hp2 lo hi) (hd : hi ≤ P ∨ P + 106 ≤ lo) : PastAt hp2 P W nx sz := h.off fun x _ _ => hS.2 x (by omega)
def upW (W : Nat → Nat → Int → Int) (i : Nat) (T : Nat → Int → Int) : Nat → Nat → Int → Int := fun x => if x = i then T else W x
theorem sp_Past_size (hP : PastAt hp P W nx sz) : Sp g MX5_size (rm 0 0 0) [.ref P] hp (Pur (.int (I (sz : Int))) hp) := by
  obtain ⟨p0, ⟨F, p1, pF⟩, pT, hn, hs⟩ := hP
  refine Sp_mk rfl (Nat.le_of_ble_eq_true rfl) ?_
  show wp g _ _ _ 0 0 0 [some (.ref P)] [] hp
  refine wp_aload_n (pc := 0) dX5_size_0 rfl ?_
  refine wp_getf (pc := 1) dX5_size_1 gf_X5_16 (by repeat (first | assumption | exact hset_eq | refine hset_at (by omega) ?_)) (by rfl) ?_
  exact wp_ir (pc := 4) dX5_size_4 rfl (by decide) (by decide) (by first | rfl | omega) rfl
theorem sp_Past_forgetAll (hP : PastAt hp P W nx sz) : Sp g MX5_forgetAll (rm 0 0 0) [.ref P] hp (Vod (fun hp2 => PastAt hp2 P W nx 0 ∧ SO hp hp2 P (P + 106))) := by
  obtain ⟨p0, ⟨F, p1, pF⟩, pT, hn, hs⟩ := hP
  refine Sp_mk rfl (Nat.le_of_ble_eq_true rfl) ?_
  show wp g _ _ _ 0 0 0 [some (.ref P)] [] hp
  refine wp_aload_n (pc := 0) dX5_forgetAll_0 rfl ?_
  refine wp_iconst (pc := 1) dX5_forgetAll_1 ?_
  refine wp_putf (pc := 2) dX5_forgetAll_2 pf_X5_16 (by repeat (first | assumption | exact hset_eq | refine hset_at (by omega) ?_)) (by first | decide | exact Nat.lt_of_sub_pos (by decide) | simp) rfl rfl (by first | decide | intro h; cases h) ?_
  exact wp_vr (pc := 5) dX5_forgetAll_5 rfl (by decide) (by decide) ⟨⟨hset_eq, ⟨F, hset_at (by omega) p1, pF⟩, fun i hi => (pT i hi).off fun x h1 h2 => hset_ne (by omega), hn, by omega⟩, (by repeat (first | exact SO.rf | assumption | refine SO.set ?_ (by omega) (by omega)))⟩
theorem sp_Past_note (hP : PastAt hp P W nx sz) (hT : TownAt hp h T) (hd : h + 8 ≤ P ∨ P + 106 ≤ h) : Sp g MX5_note (rm 2 0 0) [.ref P, .ref h] hp (Vod (fun hp2 => PastAt hp2 P (upW W nx T) nx sz ∧ SO hp hp2 P (P + 106))) := by
  have hP' := hP
  obtain ⟨p0, ⟨F, p1, pF⟩, pT, hn, hs⟩ := hP
  have hTn := pT nx hn
  refine Sp_mk rfl (Nat.le_of_ble_eq_true rfl) ?_
  show wp g _ _ _ 0 0 0 [some (.ref P), some (.ref h), none] [] hp
  refine wp_aload_n (pc := 0) dX5_note_0 rfl ?_
  refine wp_getf (pc := 1) dX5_note_1 gf_X5_11 (by repeat (first | assumption | exact hset_eq | refine hset_at (by omega) ?_)) (by rfl) ?_
  refine wp_aload_n (pc := 4) dX5_note_4 rfl ?_
  refine wp_getf (pc := 5) dX5_note_5 gf_X5_20 (by repeat (first | assumption | exact hset_eq | refine hset_at (by omega) ?_)) (by rfl) ?_
  refine wp_aald (pc := 8) dX5_note_8 p1 (by omega) (by omega) (by decide) (by rw [Int.toNat_natCast]; exact pF nx hn) ?_
  refine wp_astore_n (pc := 9) dX5_note_9 (by decide) ?_
  refine wp_aload_n (pc := 10) dX5_note_10 rfl ?_
  refine wp_ifnull (pc := 11) dX5_note_11 ?_
  refine wp_aload_n (pc := 14) dX5_note_14 rfl ?_
  refine wp_aload_n (pc := 15) dX5_note_15 rfl ?_
  refine wp_Vn (pc := 16) dX5_note_16 cl_X5_23 (sp_Town_copy hTn hT (by omega)) rfl rfl hTn.1 (by rfl) (by decide) (Nat.le_of_ble_eq_true rfl) (fun hp16 e16 => ?_)
  refine wp_vr dX5_note_19 rfl (by decide) (by decide) ⟨⟨(e16.2.2 _ (by omega)).trans p0, ⟨F, (e16.2.2 _ (by omega)).trans p1, pF⟩, fun i hi => ?_, hn, hs⟩, e16.2.wide (by omega) (by omega)⟩
  unfold upW
  by_cases e : i = nx
  · rw [if_pos e, e]; exact e16.1
  · rw [if_neg e]; exact (pT i hi).fr e16.2 (by omega)
theorem sp_Past_keepNoted (hP : PastAt hp P W nx sz) : Sp g MX5_keepNoted (rm 1 0 0) [.ref P] hp (Vod (fun hp2 => PastAt hp2 P W ((nx + 1) % 13) (min 12 (sz + 1)) ∧ SO hp hp2 P (P + 106))) := by
  obtain ⟨p0, ⟨F, p1, pF⟩, pT, hn, hs⟩ := hP
  refine Sp_mk rfl (Nat.le_of_ble_eq_true rfl) ?_
  show wp g _ _ _ 0 0 0 [some (.ref P)] [] hp
  refine wp_aload_n (pc := 0) dX5_keepNoted_0 rfl ?_
  refine wp_aload_n (pc := 1) dX5_keepNoted_1 rfl ?_
  refine wp_getf (pc := 2) dX5_keepNoted_2 gf_X5_20 (by repeat (first | assumption | exact hset_eq | refine hset_at (by omega) ?_)) (by rfl) ?_
  refine wp_iconst (pc := 5) dX5_keepNoted_5 ?_
  refine wp_iadd (pc := 6) dX5_keepNoted_6 ?_
  refine wp_bipush (pc := 7) (y := 13) dX5_keepNoted_7 (by decide) ?_
  refine wp_irem (pc := 9) dX5_keepNoted_9 (by decide) (I_rem (by omega) (by omega) (by omega) (by omega)) ?_
  refine wp_putf (pc := 10) dX5_keepNoted_10 pf_X5_20 (by repeat (first | assumption | exact hset_eq | refine hset_at (by omega) ?_)) (by first | decide | exact Nat.lt_of_sub_pos (by decide) | simp) rfl rfl (by first | decide | intro h; cases h) ?_
  refine wp_aload_n (pc := 13) dX5_keepNoted_13 rfl ?_
  refine wp_bipush (pc := 14) (y := 12) dX5_keepNoted_14 (by decide) ?_
  refine wp_aload_n (pc := 16) dX5_keepNoted_16 rfl ?_
  refine wp_getf (pc := 17) dX5_keepNoted_17 gf_X5_16 (by repeat (first | assumption | exact hset_eq | refine hset_at (by omega) ?_)) (by rfl) ?_
  refine wp_iconst (pc := 20) dX5_keepNoted_20 ?_
  refine wp_iadd (pc := 21) dX5_keepNoted_21 ?_
  refine wp_min (pc := 22) dX5_keepNoted_22 ml_X5_27 ma_min_s ma_ini ma_min_c (by decide) (by decide) (by decide) (by decide) (Nat.le_of_ble_eq_true rfl) (by omega) (by omega) ?_
  refine wp_putf (pc := 25) dX5_keepNoted_25 pf_X5_16 (by repeat (first | assumption | exact hset_eq | refine hset_at (by omega) ?_)) (by first | decide | exact Nat.lt_of_sub_pos (by decide) | simp) rfl rfl (by first | decide | intro h; cases h) ?_
  have e1 : ((nx : Int) + 1) % 13 = (((nx + 1) % 13 : Nat) : Int) := by omega
  have e2 : mi 12 ((sz : Int) + 1) = ((min 12 (sz + 1) : Nat) : Int) := by unfold mi; split <;> omega
  rw [e1, e2]
  exact wp_vr (pc := 28) dX5_keepNoted_28 rfl (by decide) (by decide) ⟨⟨hset_eq, ⟨F, (by repeat (first | assumption | exact hset_eq | refine hset_at (by omega) ?_)), pF⟩, fun i hi => (pT i hi).off fun x h1 h2 => (hset_ne (by omega)).trans (hset_ne (by omega)), by omega, by omega⟩, (by repeat (first | exact SO.rf | assumption | refine SO.set ?_ (by omega) (by omega)))⟩
theorem sp_Past_back0 (hP : PastAt hp P W nx 0) : Sp g MX5_back (rm 2 0 0) [.ref P, .ref h] hp (Pur (.int (B False)) hp) := by
  obtain ⟨p0, ⟨F, p1, pF⟩, pT, hn, hs⟩ := hP
  refine Sp_mk rfl (Nat.le_of_ble_eq_true rfl) ?_
  show wp g _ _ _ 0 0 0 [some (.ref P), some (.ref h), none] [] hp
  refine wp_aload_n (pc := 0) dX5_back_0 rfl ?_
  refine wp_getf (pc := 1) dX5_back_1 gf_X5_16 (by repeat (first | assumption | exact hset_eq | refine hset_at (by omega) ?_)) (by rfl) ?_
  first | refine wp_ifb_ne (pc := 4) 9 dX5_back_4 (by decide) (fun c4 => ?_) (fun c4 => ?_) | refine wp_if_ne (pc := 4) 9 dX5_back_4 (by decide) (by omega) (fun c4 => ?_) (fun c4 => ?_)
  ·
    omega
  ·
    refine wp_iconst (pc := 7) dX5_back_7 ?_
    exact wp_z0 dX5_back_8 rfl (by decide) (by decide) id rfl
theorem sp_Past_back (hP : PastAt hp P W nx (sz + 1)) (hT : TownAt hp h T) (hd : h + 8 ≤ P ∨ P + 106 ≤ h) : Sp g MX5_back (rm 2 0 0) [.ref P, .ref h] hp (Eff (.int (B True)) (fun hp2 => PastAt hp2 P W ((nx + 12) % 13) sz ∧ TownAt hp2 h (W ((nx + 12) % 13)) ∧ (∀ x, (x < P ∨ P + 106 ≤ x) → (x < h ∨ h + 8 ≤ x) → hp2.2 x = hp.2 x) ∧ hp2.1 = hp.1)) := by
  have hP' := hP
  obtain ⟨p0, ⟨F, p1, pF⟩, pT, hn, hs⟩ := hP
  have hx : (nx + 12) % 13 < 13 := Nat.mod_lt _ (by decide)
  refine Sp_mk rfl (Nat.le_of_ble_eq_true rfl) ?_
  show wp g _ _ _ 0 0 0 [some (.ref P), some (.ref h), none] [] hp
  refine wp_aload_n (pc := 0) dX5_back_0 rfl ?_
  refine wp_getf (pc := 1) dX5_back_1 gf_X5_16 (by repeat (first | assumption | exact hset_eq | refine hset_at (by omega) ?_)) (by rfl) ?_
  first | refine wp_ifb_ne (pc := 4) 9 dX5_back_4 (by decide) (fun c4 => ?_) (fun c4 => ?_) | refine wp_if_ne (pc := 4) 9 dX5_back_4 (by decide) (by omega) (fun c4 => ?_) (fun c4 => ?_)
  ·
    refine wp_aload_n (pc := 9) dX5_back_9 rfl ?_
    refine wp_aload_n (pc := 10) dX5_back_10 rfl ?_
    refine wp_getf (pc := 11) dX5_back_11 gf_X5_20 (by repeat (first | assumption | exact hset_eq | refine hset_at (by omega) ?_)) (by rfl) ?_
    refine wp_bipush (pc := 14) (y := 13) dX5_back_14 (by decide) ?_
    refine wp_iadd (pc := 16) dX5_back_16 ?_
    refine wp_iconst (pc := 17) dX5_back_17 ?_
    refine wp_isub (pc := 18) dX5_back_18 ?_
    refine wp_bipush (pc := 19) (y := 13) dX5_back_19 (by decide) ?_
    refine wp_irem (pc := 21) dX5_back_21 (by decide) (I_rem (by omega) (by omega) (by omega) (by omega)) ?_
    refine wp_putf (pc := 22) dX5_back_22 pf_X5_20 (by repeat (first | assumption | exact hset_eq | refine hset_at (by omega) ?_)) (by first | decide | exact Nat.lt_of_sub_pos (by decide) | simp) rfl rfl (by first | decide | intro h; cases h) ?_
    refine wp_aload_n (pc := 25) dX5_back_25 rfl ?_
    refine wp_dup (pc := 26) dX5_back_26 rfl ?_
    refine wp_getf (pc := 27) dX5_back_27 gf_X5_16 (by repeat (first | assumption | exact hset_eq | refine hset_at (by omega) ?_)) (by rfl) ?_
    refine wp_iconst (pc := 30) dX5_back_30 ?_
    refine wp_isub (pc := 31) dX5_back_31 ?_
    refine wp_putf (pc := 32) dX5_back_32 pf_X5_16 (by repeat (first | assumption | exact hset_eq | refine hset_at (by omega) ?_)) (by first | decide | exact Nat.lt_of_sub_pos (by decide) | simp) rfl rfl (by first | decide | intro h; cases h) ?_
    refine wp_aload_n (pc := 35) dX5_back_35 rfl ?_
    refine wp_getf (pc := 36) dX5_back_36 gf_X5_11 (by repeat (first | assumption | exact hset_eq | refine hset_at (by omega) ?_)) (by rfl) ?_
    refine wp_aload_n (pc := 39) dX5_back_39 rfl ?_
    refine wp_getf (pc := 40) dX5_back_40 gf_X5_20 (by repeat (first | assumption | exact hset_eq | refine hset_at (by omega) ?_)) (by rfl) ?_
    refine wp_aald (pc := 43) dX5_back_43 (by repeat (first | assumption | exact hset_eq | refine hset_at (by omega) ?_)) (by omega) (by omega) (by decide) (by rw [show (((nx : Int) + 13 - 1) % 13).toNat = (nx + 12) % 13 by omega]; exact pF _ hx) ?_
    refine wp_astore_n (pc := 44) dX5_back_44 (by decide) ?_
    refine wp_aload_n (pc := 45) dX5_back_45 rfl ?_
    refine wp_ifnull (pc := 46) dX5_back_46 ?_
    refine wp_aload_n (pc := 49) dX5_back_49 rfl ?_
    refine wp_aload_n (pc := 50) dX5_back_50 rfl ?_
    refine wp_Vn (pc := 51) dX5_back_51 cl_X5_23 (sp_Town_copy (hT.off (hp2 := hset (hset hp P _) P _) fun x h1 h2 => (hset_ne (by omega)).trans (hset_ne (by omega))) ((pT _ hx).off (hp2 := hset (hset hp P _) P _) fun x h1 h2 => (hset_ne (by omega)).trans (hset_ne (by omega))) (by omega)) rfl rfl (by have := hT.1; exact hset_at (by omega) (hset_at (by omega) this)) (by rfl) (by decide) (Nat.le_of_ble_eq_true rfl) (fun hp51 e51 => ?_)
    refine wp_iconst (pc := 54) dX5_back_54 ?_
    have k1 : ((nx : Int) + 13 - 1) % 13 = (((nx + 12) % 13 : Nat) : Int) := by omega
    obtain ⟨k2, k3⟩ := e51
    refine wp_z1 dX5_back_55 rfl (by decide) (by decide) trivial ⟨⟨(k3.2 _ (by omega)).trans ?_, ⟨F, (k3.2 _ (by omega)).trans (hset_at (by omega) (hset_at (by omega) p1)), pF⟩, fun i hi => (pT i hi).off fun x h1 h2 => (k3.2 _ (by omega)).trans ((hset_ne (by omega)).trans (hset_ne (by omega))), hx, by omega⟩, k2, fun x h1 h2 => (k3.2 _ (by omega)).trans ((hset_ne (by omega)).trans (hset_ne (by omega))), k3.1⟩
    refine hset_eq.trans ?_
    rw [k1, show ((sz + 1 : Nat) : Int) - 1 = (sz : Int) by omega]
    rfl
  ·
    omega
end PA

