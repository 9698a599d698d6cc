/-! the reference: its state by the state of both -/
section MH
variable {g : GT} {hp hp0 : Hp} {q N n a b s k p D : Nat} {V V2 V3 : Nat → Int} {A A2 A3 : Nat → Int → Int} {rd rl : Value} {i j x v c y : Int} {T T2 : Nat → Int → Int} {l t cs tx rw rt : List Int} {W G f : Int → Int} {U : List (Nat → Int → Int)} {hs : List (Int × Int)} {ss : List (Int × Int × Int)} {KT : Nat → Option (Nat → Int → Int)} {L L2 : List Nat}
theorem SV.up1 (hk : k ∈ L) (h : SV L V V2) : SV L V (upN V2 k x) := h.up hk
theorem SA.up1 (hk : k ∈ L) (h : SA L A A2) : SA L A (upA A2 k f) := h.up hk
theorem SV.tr2 (h2 : SV L2 V2 V3) (b : ∀ k ∈ L2, k ∈ L) (h : SV L V V2) : SV L V V3 := fun k hk => (h2 k fun z => hk (b k z)).trans (h k hk)
theorem SA.tr2 (h2 : SA L2 A2 A3) (b : ∀ k ∈ L2, k ∈ L) (h : SA L A A2) : SA L A A3 := fun k hk => (h2 k fun z => hk (b k z)).trans (h k hk)
theorem RuA.cc (h : RuA A V q rl t) (h15 : V2 15 = V 15) (h5 : A2 5 = A 5) (h6 : A2 6 = A 6) : RuA A2 V2 q rl t := by
  obtain ⟨j, hj, hrl, e15, hB, hv⟩ := h
  refine ⟨j, hj, hrl, h15.trans e15, ?_, hv⟩
  rcases hj with rfl | rfl
  · rw [h5]; exact hB
  · rw [h6]; exact hB
def T0 : Nat → Int → Int := fun _ _ => 0
def Mtx (V : Nat → Int) (A : Nat → Int → Int) (tx : List Int) : Prop := V 3 = (tx.length : Int) ∧ tx.length ≤ 80 ∧ BA (A 2) tx
def Mrw (V : Nat → Int) (A : Nat → Int → Int) (rw : List Int) : Prop := V 5 = (rw.length : Int) ∧ ∀ i : Nat, i < rw.length → A 3 (i : Int) = rw.getD i 0
def Mrt (V : Nat → Int) (A : Nat → Int → Int) (rt : List Int) : Prop := V 15 = (rt.length : Int) ∧ BA (A 5) rt ∧ rdv rt = -1
def MU (V : Nat → Int) (A : Nat → Int → Int) (U : List (Nat → Int → Int)) : Prop := V 19 = (U.length : Int) ∧ U.length ≤ 12 ∧ ∀ i : Nat, i < U.length → ∀ x : Int, 0 ≤ x → x < 103 → A 8 (103 * ((U.length - 1 - i : Nat) : Int) + x) = flat (U.getD i T0) x
def Mhs (V : Nat → Int) (A : Nat → Int → Int) (hs : List (Int × Int)) : Prop := V 28 = (hs.length : Int) ∧ hs.length ≤ 12 ∧ ∀ i : Nat, i < hs.length → A 15 (i : Int) = (hs.getD i (0, 0)).1 ∧ A 16 (i : Int) = (hs.getD i (0, 0)).2
def Mss (V : Nat → Int) (A : Nat → Int → Int) (ss : List (Int × Int × Int)) : Prop := V 32 = (ss.length : Int) ∧ ss.length ≤ 12 ∧ ∀ i : Nat, i < ss.length → A 17 (i : Int) = (ss.getD i (0, 0, 0)).1 ∧ A 18 (i : Int) = (ss.getD i (0, 0, 0)).2.1 ∧ A 19 (i : Int) = (ss.getD i (0, 0, 0)).2.2
def MK1 (V : Nat → Int) (A : Nat → Int → Int) (N i : Nat) (o : Option (Nat → Int → Int)) : Prop := match o with
  | none => A 23 (i : Int) = 0
  | some T => A 23 (i : Int) = 1 ∧ (∀ x : Int, 0 ≤ x → x < 103 → A 22 (103 * (i : Int) + x) = flat T x) ∧ 0 ≤ A 24 (i : Int) ∧ A 24 (i : Int) ≤ V 36 ∧ (A 24 (i : Int) = V 36 ↔ T 8 0 = (N : Int)) ∧ T 8 0 ≤ (N : Int)
def MK (V : Nat → Int) (A : Nat → Int → Int) (N : Nat) (KT : Nat → Option (Nat → Int → Int)) : Prop := 0 ≤ V 36 ∧ V 36 ≤ N ∧ MK1 V A N 0 (KT 0) ∧ MK1 V A N 1 (KT 1)
/-- everything that counts, of the reference's numbers and arrays -/
def MX (V : Nat → Int) (A : Nat → Int → Int) (N : Nat) (T : Nat → Int → Int) (U : List (Nat → Int → Int)) (tx rw rt : List Int) (hs : List (Int × Int)) (ss : List (Int × Int × Int)) (KT : Nat → Option (Nat → Int → Int)) : Prop := V 1 = (N : Int) ∧ A 1 = flat T ∧ Mtx V A tx ∧ Mrw V A rw ∧ Mrt V A rt ∧ MU V A U ∧ Mhs V A hs ∧ Mss V A ss ∧ MK V A N KT
def MAt (hp : Hp) (q : Nat) (th : Int) (N : Nat) (T : Nat → Int → Int) (U : List (Nat → Int → Int)) (tx rw rt : List Int) (hs : List (Int × Int)) (ss : List (Int × Int × Int)) (KT : Nat → Option (Nat → Int → Int)) : Prop := ∃ V A rd, ModAt hp q V A rd (.ref (q + 5)) ∧ V 6 = th ∧ MX V A N T U tx rw rt hs ss KT
theorem Mtx.tr (h : Mtx V A tx) (h3 : V2 3 = V 3) (h2 : A2 2 = A 2) : Mtx V2 A2 tx := ⟨h3.trans h.1, h.2.1, by rw [h2]; exact h.2.2⟩
theorem Mrw.tr (h : Mrw V A rw) (h5 : V2 5 = V 5) (h3 : A2 3 = A 3) : Mrw V2 A2 rw := ⟨h5.trans h.1, by rw [h3]; exact h.2⟩
theorem Mrt.tr (h : Mrt V A rt) (h15 : V2 15 = V 15) (h5 : A2 5 = A 5) : Mrt V2 A2 rt := ⟨h15.trans h.1, by rw [h5]; exact h.2⟩
theorem MU.tr (h : MU V A U) (h19 : V2 19 = V 19) (h8 : A2 8 = A 8) : MU V2 A2 U := ⟨h19.trans h.1, h.2.1, by rw [h8]; exact h.2.2⟩
theorem Mhs.tr (h : Mhs V A hs) (h28 : V2 28 = V 28) (h15 : A2 15 = A 15) (h16 : A2 16 = A 16) : Mhs V2 A2 hs := ⟨h28.trans h.1, h.2.1, by rw [h15, h16]; exact h.2.2⟩
theorem Mss.tr (h : Mss V A ss) (h32 : V2 32 = V 32) (h17 : A2 17 = A 17) (h18 : A2 18 = A 18) (h19 : A2 19 = A 19) : Mss V2 A2 ss := ⟨h32.trans h.1, h.2.1, by rw [h17, h18, h19]; exact h.2.2⟩
theorem MK1.tr {o : Option (Nat → Int → Int)} {i : Nat} (h : MK1 V A N i o) (h36 : V2 36 = V 36) (h22 : A2 22 = A 22) (h23 : A2 23 = A 23) (h24 : A2 24 = A 24) : MK1 V2 A2 N i o := by
  match o, h with
  | none, h => show A2 23 _ = 0; rw [h23]; exact h
  | some T, h =>
    show _ ∧ _ ∧ _ ∧ _ ∧ _ ∧ _
    rw [h36, h22, h23, h24]
    exact h
theorem MK.tr (h : MK V A N KT) (h36 : V2 36 = V 36) (h22 : A2 22 = A 22) (h23 : A2 23 = A 23) (h24 : A2 24 = A 24) : MK V2 A2 N KT := ⟨by rw [h36]; exact h.1, by rw [h36]; exact h.2.1, h.2.2.1.tr h36 h22 h23 h24, h.2.2.2.tr h36 h22 h23 h24⟩
theorem Mrw.z (h : V 5 = 0) : Mrw V A [] := ⟨h, fun i hi => by cases hi⟩
/-- what a question may change -/
abbrev qV : List Nat := [5, 6, 8, 9, 10, 11, 16, 35]
abbrev qA : List Nat := [3, 4, 7, 9, 10, 11, 12, 13, 14, 20, 21]
theorem MX.qu (h : MX V A N T U tx rw rt hs ss KT) (sV : SV qV V V2) (sA : SA qA A A2) {rw2 : List Int} (hr : Mrw V2 A2 rw2) : MX V2 A2 N T U tx rw2 rt hs ss KT := by
  obtain ⟨m1, mA, mt, mr, mu, mU, mh, ms, mk⟩ := h
  have v : ∀ k, k ∉ qV → V2 k = V k := sV
  have w : ∀ k, k ∉ qA → A2 k = A k := sA
  exact ⟨(v 1 (by decide)).trans m1, (w 1 (by decide)).trans mA, mt.tr (v 3 (by decide)) (w 2 (by decide)), hr, mu.tr (v 15 (by decide)) (w 5 (by decide)), mU.tr (v 19 (by decide)) (w 8 (by decide)), mh.tr (v 28 (by decide)) (w 15 (by decide)) (w 16 (by decide)), ms.tr (v 32 (by decide)) (w 17 (by decide)) (w 18 (by decide)) (w 19 (by decide)), mk.tr (v 36 (by decide)) (w 22 (by decide)) (w 23 (by decide)) (w 24 (by decide))⟩
theorem MX.ru (h : MX V A N T U tx rw rt hs ss KT) : RuA A V q (.ref (q + 5)) rt := ⟨5, .inl rfl, rfl, h.2.2.2.2.1.1, h.2.2.2.2.1.2.1, h.2.2.2.2.1.2.2⟩
theorem Mrw.ad (h : Mrw V A rw) (h5 : V2 5 = (rw.length : Int) + 1) (h3 : A2 3 = updI (A 3) (rw.length : Int) x) : Mrw V2 A2 (rw ++ [x]) := by
  refine ⟨by rw [h5, List.length_append]; rfl, fun i hi => ?_⟩
  rw [h3]
  rw [List.length_append] at hi
  have hi' : i < rw.length + 1 := hi
  by_cases z : i = rw.length
  · subst z
    rw [updI_eq]
    simp
  · rw [updI_ne (by omega), h.2 i (by omega)]
    simp [List.getElem?_append_left (show i < rw.length by omega)]
theorem sp_Ref_tellR (K : ModAt hp q V A rd rl) (hR : Mrw V A rw) (hn : rw.length < 16) : Sp g MX12_tell (rm 0 0 0) [.ref q, .long (J x)] hp (Vod (fun hp2 => (∃ V2 A2, ModAt hp2 q V2 A2 rd rl ∧ SV [5] V V2 ∧ SA [3] A A2 ∧ Mrw V2 A2 (rw ++ [x])) ∧ SO hp hp2 q (q + 25))) := by
  exact Sp_post (sp_Ref_tell K hR.1 hn) (fun v hp3 hv => ⟨hv.1, ⟨⟨_, _, hv.2.1, (SV.rf).up (by decide), (SA.rf).up (by decide), hR.ad upN_eq upA_eq⟩, hv.2.2⟩⟩)
def ofs (f : Int → Int) (k x : Int) : Int := f (x - k)
theorem lp_Ref_lay {M' : Nat} (ha : mty a = (.int, 103)) (ha1 : 1 ≤ a ∧ a ≤ 24) (hb : mty b = (.int, M')) (hb1 : 1 ≤ b ∧ b ≤ 24) (hk : k + 103 ≤ M') (hM : M' < 10000) (hab : a ≠ b) (hA : A a = f) : ∀ (m i : Nat), 103 < i + m → i ≤ 103 → ∀ (hp2 : Hp) (K : ModAt hp2 q V (upA A b (btw (A b) (ofs f k) k ((k : Int) + i))) rd rl) (O : SO hp hp2 q (q + 25)), wp g MX12_lay (rm 0 0 0) (Vod (fun hp3 => ModAt hp3 q V (upA A b (btw (A b) (ofs f k) k ((k : Int) + 103))) rd rl ∧ SO hp hp3 q (q + 25))) 0 0 2 [some (.ref (q + a)), some (.ref (q + b)), some (.int (I (k : Int))), some (.int (I (i : Int)))] [] hp2 := by
  intro m
  induction m with
  | zero => intro i h1 h2; exact absurd h1 (by omega)
  | succ m ih =>
    intro i h1 h2 hp2 K O
    refine wp_iload_n (pc := 2) dX12_lay_2 rfl ?_
    refine wp_bipush (pc := 3) (y := 103) dX12_lay_3 (by decide) ?_
    refine wp_icmp_ge (pc := 5) 22 dX12_lay_5 (by decide) (by first | omega | exact TI.i5 (by assumption) | exact TI.i3 (by assumption) | exact TI.i2 (by assumption) | exact TI.i1 (by assumption) | exact TI.i0 (by assumption) | exact TI.i4 (by assumption) | exact TI.i6 (by assumption) | exact TI.i7 (by assumption)) (by first | omega | exact TI.i5 (by assumption) | exact TI.i3 (by assumption) | exact TI.i2 (by assumption) | exact TI.i1 (by assumption) | exact TI.i0 (by assumption) | exact TI.i4 (by assumption) | exact TI.i6 (by assumption) | exact TI.i7 (by assumption)) (fun c5 => ?_) (fun c5 => ?_)
    ·
      have e : i = 103 := by omega
      subst e -- go
      exact wp_vr (pc := 22) dX12_lay_22 rfl (by decide) (by decide) (by first | exact ⟨K, O⟩ | rfl)
    ·
      refine wp_aload_n (pc := 8) dX12_lay_8 rfl ?_
      refine wp_iload_n (pc := 9) dX12_lay_9 rfl ?_
      refine wp_iload_n (pc := 10) dX12_lay_10 rfl ?_
      refine wp_iadd (pc := 11) dX12_lay_11 ?_
      refine wp_aload_n (pc := 12) dX12_lay_12 rfl ?_
      refine wp_iload_n (pc := 13) dX12_lay_13 rfl ?_
      refine wm_iald dX12_lay_14 K ha (by omega) (by omega) (by decide) (by omega) (by omega) (upA_ne hab hA) rfl ?_
      refine wm_iast dX12_lay_15 K O hb (by omega) (by omega) (by omega) (by omega) (by omega) upA_eq (btw_upd (f := A b) (f' := ofs f k) (a := (k : Int)) (b := (k : Int) + i) (by omega) (by unfold ofs; congr 1; omega)) (fun hp K O => ?_)
      rw [upA_upA, Int.add_assoc] at K
      refine wp_iinc (pc := 16) dX12_lay_16 rfl (by decide) ?_
      refine wp_goto (pc := 19) 2 dX12_lay_19 (by decide) ?_
      refine wp_ls ?_ (ih (i + 1) (by omega) (by omega) _ K O)
      repeat' (first | exact LE_0 | refine LE_s rfl ?_ | refine LE_s (I_c (by first | omega | (simp only [sm]; omega))) ?_ | refine LE_s (J_c (by first | omega | exact Int.pow_succ _ _ | exact (Int.pow_succ _ _).symm | exact (Int.pow_zero _).symm | (simp only [sm]; omega))) ?_ | refine LE_n ?_)
theorem sp_Ref_layK {M' : Nat} (K : ModAt hp q V A rd rl) (ha : mty a = (.int, 103)) (ha1 : 1 ≤ a ∧ a ≤ 24) (hb : mty b = (.int, M')) (hb1 : 1 ≤ b ∧ b ≤ 24) (hk : k + 103 ≤ M') (hM : M' < 10000) (hab : a ≠ b) (hA : A a = f) : Sp g MX12_lay (rm 0 0 0) [.ref (q + a), .ref (q + b), .int (I (k : Int))] hp (Vod (fun hp2 => ModAt hp2 q V (upA A b (btw (A b) (ofs f k) k ((k : Int) + 103))) rd rl ∧ SO hp hp2 q (q + 25))) := by
  refine Sp_mk rfl (Nat.le_of_ble_eq_true rfl) ?_
  show wp g _ _ _ 0 0 0 [some (.ref (q + a)), some (.ref (q + b)), some (.int (I (k : Int))), none] [] hp
  have O := SO.rf (hp := hp) (lo := q) (hi := q + 25)
  refine wp_iconst (pc := 0) dX12_lay_0 ?_
  refine wp_istore_n (pc := 1) dX12_lay_1 (by decide) ?_
  refine wp_ls ?_ (lp_Ref_lay ha ha1 hb hb1 hk hM hab hA 104 0 (by omega) (by omega) hp (by rw [show (k : Int) + ((0 : Nat) : Int) = k by omega, btw_0, upA_id rfl]; exact K) SO.rf)
  repeat' (first | exact LE_0 | refine LE_s rfl ?_ | refine LE_s (I_c (by first | omega | (simp only [sm]; omega))) ?_ | refine LE_s (J_c (by first | omega | exact Int.pow_succ _ _ | exact (Int.pow_succ _ _).symm | exact (Int.pow_zero _).symm | (simp only [sm]; omega))) ?_ | refine LE_n ?_)
/-- laid over a whole row -/
theorem Sp_hp {M : MI} {R : Room} {as : List Value} {Q Q' : Option Value → Hp → Prop} (S : Sp g M R as hp Q') (h : ∀ v hp', Q' v hp' → ∃ hp2, (∀ s H, Rep g s hp' H → Rep g s hp2 H) ∧ Q v hp2) : Sp g M R as hp Q := by
  intro p e ha hc hk s m args below hf hap hP hT
  obtain ⟨t, o, h1, h2, h3, ⟨⟨v, hp', e1, e2, e3⟩, h5⟩⟩ := S p e ha hc hk s m args below hf hap hP hT
  obtain ⟨hp2, f1, f2⟩ := h _ _ e2
  exact ⟨t, o, h1, h2, h3, ⟨⟨v, hp2, e1, f2, f1 _ _ e3⟩, h5⟩⟩
theorem ModAt.re (K : ModAt hp q V A rd rl) (O : SO hp0 hp q (q + 25)) {ty : FieldType} (ht : mty k = (ty, N)) (h1 : 1 ≤ k) (h2 : k ≤ 24) (e : ∀ i : Int, 0 ≤ i → i < N → A k i = f i) : ∃ hp2, (∀ s H, Rep g s hp H → Rep g s hp2 H) ∧ ModAt hp2 q V (upA A k f) rd rl ∧ SO hp0 hp2 q (q + 25) := by
  refine ⟨hset hp (q + k) (.inl (ty, N, f)), fun s H P => ?_, K.sto ht h1 h2 rfl rfl, O.set (by omega) (by omega)⟩
  have ho := mty_e ht K h1 h2 rfl
  obtain ⟨h2, cA, g1, g2⟩ := P.2.2 _ _ ho
  exact P.set ho rfl (fun _ _ => rfl) ⟨cA, by rw [g1]; exact congrArg some (arr_same e), g2⟩
theorem sp_Ref_lay (K : ModAt hp q V A rd rl) (ha : mty a = (.int, 103)) (ha1 : 1 ≤ a ∧ a ≤ 24) (hb : mty b = (.int, 103)) (hb1 : 1 ≤ b ∧ b ≤ 24) (hab : a ≠ b) (hA : A a = f) : Sp g MX12_lay (rm 0 0 0) [.ref (q + a), .ref (q + b), .int (I 0)] hp (Vod (fun hp2 => ModAt hp2 q V (upA A b f) rd rl ∧ SO hp hp2 q (q + 25))) := by
  refine Sp_hp (sp_Ref_layK (k := 0) K ha ha1 hb hb1 (by decide) (by decide) hab hA) (fun v hp3 hv => ?_)
  obtain ⟨hv, K3, O3⟩ := hv
  obtain ⟨hp4, r4, K4, O4⟩ := K3.re (g := g) (k := b) (f := f) O3 hb hb1.1 hb1.2 (fun i z1 z2 => by rw [upA_eq]; unfold btw ofs; rw [if_pos (by omega)]; congr 1; omega)
  rw [upA_upA] at K4
  exact ⟨hp4, r4, hv, K4, O4⟩
def shf (F : Int → Int) (i x : Int) : Int := if 0 ≤ x ∧ x < i then F (x + 103) else F x
theorem rem_st {F : Int → Int} {i : Nat} : updI (shf F (i : Int)) (i : Int) (F ((i : Int) + 103)) = shf F ((i + 1 : Nat) : Int) := by
  funext x
  unfold updI shf
  by_cases z : x = (i : Int)
  · rw [if_pos z, if_pos (by omega), z]
  · rw [if_neg z]
    by_cases y : 0 ≤ x ∧ x < (i : Int)
    · rw [if_pos y, if_pos (by omega)]
    · rw [if_neg y, if_neg (by omega)]
theorem MU.push (hU : MU V A U) (hl : U.length < 12) (h19 : V2 19 = (U.length : Int) + 1) (h8 : A2 8 = btw (A 8) (ofs (flat T) ((103 * U.length : Nat) : Int)) ((103 * U.length : Nat) : Int) (((103 * U.length : Nat) : Int) + 103)) : MU V2 A2 ((T :: U).take 12) := by
  rw [List.take_of_length_le (show (T :: U).length ≤ 12 by simp; omega)]
  refine ⟨by rw [h19]; rfl, by simp; omega, fun i hi x z1 z2 => ?_⟩
  rw [h8]
  unfold btw ofs
  have hi2 : i < U.length + 1 := hi
  have hlen : (T :: U).length = U.length + 1 := rfl
  rw [hlen]
  match i, hi2 with
  | 0, _ =>
    rw [if_pos (by omega), show (103 : Int) * ((U.length + 1 - 1 - 0 : Nat) : Int) + x - ((103 * U.length : Nat) : Int) = x by omega]
    rfl
  | i + 1, hi2 =>
    rw [if_neg (by omega)]
    have := hU.2.2 i (by omega) x z1 z2
    rw [show U.length + 1 - 1 - (i + 1) = U.length - 1 - i by omega, this]
    rfl
theorem rem_49 (K : ModAt hp q V A rd rl) (O : SO hp0 hp q (q + 25)) (hl : U.length < 12) (hU : MU V A U) (ha : mty a = (.int, 103)) (ha1 : 1 ≤ a ∧ a ≤ 24) (ha8 : a ≠ 8) (hA : A a = flat T) : wp g MX12_remember (rm 1 0 0) (Vod (fun hp2 => (∃ V2 A2, ModAt hp2 q V2 A2 rd rl ∧ SV [19] V V2 ∧ SA [8] A A2 ∧ MU V2 A2 ((T :: U).take 12)) ∧ SO hp0 hp2 q (q + 25))) 0 0 49 [some (.ref q), some (.ref (q + a)), none] [] hp := by
  have hu1 := hU.1
  refine wp_aload_n (pc := 49) dX12_remember_49 rfl ?_
  refine wp_aload_n (pc := 50) dX12_remember_50 rfl ?_
  refine wm_get dX12_remember_51 gf_X12_33 K (by rfl) ?_
  refine wp_bipush (pc := 54) (y := 103) dX12_remember_54 (by decide) ?_
  refine wp_aload_n (pc := 56) dX12_remember_56 rfl ?_
  refine wm_gets dX12_remember_57 gf_X12_155 K (by rfl) (by repeat (first | assumption | exact pv10 | exact pv11 | (apply pv_o; decide; decide) | exact upN_eq | (apply upN_ne; decide) | (apply SV_at; assumption; decide) | exact rfl)) ?_
  refine wp_imul (pc := 60) dX12_remember_60 ?_
  refine wp_topE (show (103 : Int) * (U.length : Int) = ((103 * U.length : Nat) : Int) by omega) ?_
  refine wp_Sn (pc := 61) dX12_remember_61 cl_X12_223 (sp_Ref_layK (k := 103 * U.length) (b := 8) K ha ha1 (by rfl) (by decide) (by omega) (by decide) ha8 hA) rfl rfl (by decide) (Nat.le_of_ble_eq_true rfl) (fun hp61 e61 => ?_)
  obtain ⟨K, O1⟩ := e61
  replace O := SO.tr O O1
  refine wp_aload_n (pc := 64) dX12_remember_64 rfl ?_
  refine wp_dup (pc := 65) dX12_remember_65 rfl ?_
  refine wm_gets dX12_remember_66 gf_X12_155 K (by rfl) (by repeat (first | assumption | exact pv10 | exact pv11 | (apply pv_o; decide; decide) | exact upN_eq | (apply upN_ne; decide) | (apply SV_at; assumption; decide) | exact rfl)) ?_
  refine wp_iconst (pc := 69) dX12_remember_69 ?_
  refine wp_iadd (pc := 70) dX12_remember_70 ?_
  refine wm_put dX12_remember_71 pf_X12_155 K O (by decide) mset_19 rfl rfl (fun hp K O => ?_)
  exact wp_vr (pc := 74) dX12_remember_74 rfl (by decide) (by decide) ⟨⟨_, _, K, (SV.rf).up (by decide), (SA.rf).up (by decide), hU.push hl upN_eq upA_eq⟩, O⟩
theorem rem_39 (K : ModAt hp q V (upA A 8 (shf (A 8) 1133)) rd rl) (O : SO hp0 hp q (q + 25)) (hl : U.length = 12) (hU : MU V A U) (ha : mty a = (.int, 103)) (ha1 : 1 ≤ a ∧ a ≤ 24) (ha8 : a ≠ 8) (hA : A a = flat T) : wp g MX12_remember (rm 1 0 0) (Vod (fun hp2 => (∃ V2 A2, ModAt hp2 q V2 A2 rd rl ∧ SV [19] V V2 ∧ SA [8] A A2 ∧ MU V2 A2 ((T :: U).take 12)) ∧ SO hp0 hp2 q (q + 25))) 0 0 39 [some (.ref q), some (.ref (q + a)), none] [] hp := by
  have hu1 := hU.1
  have hU2 : MU (upN V 19 ((U.length : Int) - 1)) (upA A 8 (shf (A 8) 1133)) (U.take 11) := by
    have hlt : (U.take 11).length = 11 := by rw [List.length_take]; omega
    refine ⟨by rw [upN_eq, hlt]; omega, by omega, fun i hi x z1 z2 => ?_⟩
    rw [upA_eq, hlt]
    unfold shf
    rw [hlt] at hi
    have := hU.2.2 i (by omega) x z1 z2
    rw [if_pos (by omega), show (103 : Int) * ((11 - 1 - i : Nat) : Int) + x + 103 = 103 * ((U.length - 1 - i : Nat) : Int) + x by omega, this]
    simp [List.getElem?_take, show i < 11 by omega]
  have et : (T :: U.take 11).take 12 = (T :: U).take 12 := by
    show T :: (U.take 11).take 11 = T :: U.take 11
    rw [List.take_take]
    rfl
  refine wp_aload_n (pc := 39) dX12_remember_39 rfl ?_
  refine wp_dup (pc := 40) dX12_remember_40 rfl ?_
  refine wm_gets dX12_remember_41 gf_X12_155 K (by rfl) (by repeat (first | assumption | exact pv10 | exact pv11 | (apply pv_o; decide; decide) | exact upN_eq | (apply upN_ne; decide) | (apply SV_at; assumption; decide) | exact rfl)) ?_
  refine wp_iconst (pc := 44) dX12_remember_44 ?_
  refine wp_isub (pc := 45) dX12_remember_45 ?_
  refine wm_put dX12_remember_46 pf_X12_155 K O (by decide) mset_19 rfl rfl (fun hp K O => ?_)
  refine wp_post (fun v hp3 hv => ?_) (rem_49 (T := T) K O (by rw [List.length_take]; omega) hU2 ha ha1 ha8 (upA_ne ha8 hA))
  obtain ⟨hv, ⟨V3, A3, K3, s1, s2, u3⟩, O3⟩ := hv
  rw [et] at u3
  exact ⟨hv, ⟨V3, A3, K3, SV.tr2 s1 (by decide) ((SV.rf).up (by decide)), SA.tr2 s2 (by decide) ((SA.rf).up (by decide)), u3⟩, O3⟩
theorem lp_rem {Q : Option Value → Hp → Prop} {z : Nat} (Kn : ∀ hp3, ModAt hp3 q V (upA A 8 (shf (A 8) 1133)) rd rl → SO hp hp3 q (q + 25) → wp g MX12_remember (rm 1 0 0) Q 0 0 39 [some (.ref q), some (.ref z), none] [] hp3) : ∀ (m i : Nat), 1133 < i + m → i ≤ 1133 → ∀ (hp2 : Hp) (K : ModAt hp2 q V (upA A 8 (shf (A 8) (i : Int))) rd rl) (O : SO hp hp2 q (q + 25)), wp g MX12_remember (rm 1 0 0) Q 0 0 11 [some (.ref q), some (.ref z), some (.int (I (i : Int)))] [] hp2 := by
  intro m
  induction m with
  | zero => intro i h1 h2; exact absurd h1 (by omega)
  | succ m ih =>
    intro i h1 h2 hp2 K O
    refine wp_iload_n (pc := 11) dX12_remember_11 rfl ?_
    refine wp_sipush (pc := 12) (y := 1133) dX12_remember_12 (by decide) ?_
    refine wp_icmp_ge (pc := 15) 39 dX12_remember_15 (by decide) (by first | omega | exact TI.i5 (by assumption) | exact TI.i3 (by assumption) | exact TI.i2 (by assumption) | exact TI.i1 (by assumption) | exact TI.i0 (by assumption) | exact TI.i4 (by assumption) | exact TI.i6 (by assumption) | exact TI.i7 (by assumption)) (by first | omega | exact TI.i5 (by assumption) | exact TI.i3 (by assumption) | exact TI.i2 (by assumption) | exact TI.i1 (by assumption) | exact TI.i0 (by assumption) | exact TI.i4 (by assumption) | exact TI.i6 (by assumption) | exact TI.i7 (by assumption)) (fun c15 => ?_) (fun c15 => ?_)
    ·
      have e : i = 1133 := by omega
      subst e
      refine wp_ls ?_ (Kn hp2 K O)
      repeat' (first | exact LE_0 | refine LE_s rfl ?_ | refine LE_s (I_c (by first | omega | (simp only [sm]; omega))) ?_ | refine LE_s (J_c (by first | omega | exact Int.pow_succ _ _ | exact (Int.pow_succ _ _).symm | exact (Int.pow_zero _).symm | (simp only [sm]; omega))) ?_ | refine LE_n ?_)
    ·
      refine wp_aload_n (pc := 18) dX12_remember_18 rfl ?_
      refine wm_get dX12_remember_19 gf_X12_33 K (by rfl) ?_
      refine wp_iload_n (pc := 22) dX12_remember_22 rfl ?_
      refine wp_aload_n (pc := 23) dX12_remember_23 rfl ?_
      refine wm_get dX12_remember_24 gf_X12_33 K (by rfl) ?_
      refine wp_iload_n (pc := 27) dX12_remember_27 rfl ?_
      refine wp_bipush (pc := 28) (y := 103) dX12_remember_28 (by decide) ?_
      refine wp_iadd (pc := 30) dX12_remember_30 ?_
      refine wm_iald dX12_remember_31 K (by first | rfl | assumption) (by first | decide | omega) (by first | decide | omega) (by decide) (by omega) (by omega) upA_eq (show shf (A 8) (i : Int) ((i : Int) + 103) = A 8 ((i : Int) + 103) from if_neg (by omega)) ?_
      refine wm_iast (v := A 8 ((i : Int) + 103)) dX12_remember_32 K O (by rfl) (by decide) (by decide) (by decide) (by omega) (by omega) upA_eq rem_st (fun hp K O => ?_)
      rw [upA_upA] at K
      refine wp_iinc (pc := 33) dX12_remember_33 rfl (by decide) ?_
      refine wp_goto (pc := 36) 11 dX12_remember_36 (by decide) ?_
      refine wp_ls ?_ (ih (i + 1) (by omega) (by omega) _ K O)
      repeat' (first | exact LE_0 | refine LE_s rfl ?_ | refine LE_s (I_c (by first | omega | (simp only [sm]; omega))) ?_ | refine LE_s (J_c (by first | omega | exact Int.pow_succ _ _ | exact (Int.pow_succ _ _).symm | exact (Int.pow_zero _).symm | (simp only [sm]; omega))) ?_ | refine LE_n ?_)
theorem sp_Ref_remember (K : ModAt hp q V A rd rl) (hU : MU V A U) (ha : mty a = (.int, 103)) (ha1 : 1 ≤ a ∧ a ≤ 24) (ha8 : a ≠ 8) (hA : A a = flat T) : Sp g MX12_remember (rm 1 0 0) [.ref q, .ref (q + a)] hp (Vod (fun hp2 => (∃ V2 A2, ModAt hp2 q V2 A2 rd rl ∧ SV [19] V V2 ∧ SA [8] A A2 ∧ MU V2 A2 ((T :: U).take 12)) ∧ SO hp hp2 q (q + 25))) := by
  have hu1 := hU.1
  have hu2 := hU.2.1
  refine Sp_mk rfl (Nat.le_of_ble_eq_true rfl) ?_
  show wp g _ _ _ 0 0 0 [some (.ref q), some (.ref (q + a)), none] [] hp
  have O := SO.rf (hp := hp) (lo := q) (hi := q + 25)
  refine wp_aload_n (pc := 0) dX12_remember_0 rfl ?_
  refine wm_gets dX12_remember_1 gf_X12_155 K (by rfl) (by repeat (first | assumption | exact pv10 | exact pv11 | (apply pv_o; decide; decide) | exact upN_eq | (apply upN_ne; decide) | (apply SV_at; assumption; decide) | exact rfl)) ?_
  refine wp_bipush (pc := 4) (y := 12) dX12_remember_4 (by decide) ?_
  refine wp_icmp_ne (pc := 6) 49 dX12_remember_6 (by decide) (by first | omega | exact TI.i5 (by assumption) | exact TI.i3 (by assumption) | exact TI.i2 (by assumption) | exact TI.i1 (by assumption) | exact TI.i0 (by assumption) | exact TI.i4 (by assumption) | exact TI.i6 (by assumption) | exact TI.i7 (by assumption)) (by first | omega | exact TI.i5 (by assumption) | exact TI.i3 (by assumption) | exact TI.i2 (by assumption) | exact TI.i1 (by assumption) | exact TI.i0 (by assumption) | exact TI.i4 (by assumption) | exact TI.i6 (by assumption) | exact TI.i7 (by assumption)) (fun c6 => ?_) (fun c6 => ?_)
  ·
    have hl : U.length < 12 := by omega
    skip -- go
    exact rem_49 K O hl hU ha ha1 ha8 hA
  ·
    have hl : U.length = 12 := by omega
    skip -- go
    refine wp_iconst (pc := 9) dX12_remember_9 ?_
    refine wp_istore_n (pc := 10) dX12_remember_10 (by decide) ?_
    refine wp_ls ?_ (lp_rem (V := V) (A := A) (rd := rd) (z := q + a) (fun hp3 K3 O3 => ?_) 1134 0 (by omega) (by omega) hp (by rw [show shf (A 8) ((0 : Nat) : Int) = A 8 by (funext x; unfold shf; rw [if_neg (by omega)]), upA_id rfl]; exact K) O)
    · repeat' (first | exact LE_0 | refine LE_s rfl ?_ | refine LE_s (I_c (by first | omega | (simp only [sm]; omega))) ?_ | refine LE_s (J_c (by first | omega | exact Int.pow_succ _ _ | exact (Int.pow_succ _ _).symm | exact (Int.pow_zero _).symm | (simp only [sm]; omega))) ?_ | refine LE_n ?_)
    · exact rem_39 K3 O3 hl hU ha ha1 ha8 hA
end MH

