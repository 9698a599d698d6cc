/-! the reference: people, the whole -/
section MPc
variable {g : GT} {hp hp0 : Hp} {q N N2 n a b s k p F m r : Nat} {V V2 V3 : Nat → Int} {A A2 A3 : Nat → Int → Int} {rd rl : Value} {i j x v c y z w th o d u : Int} {T T2 X : Nat → Int → Int} {l t cs tx rw rw2 rt : List Int} {G f D Y C : Int → Int} {U U2 : List (Nat → Int → Int)} {hs : List (Int × Int)} {ss : List (Int × Int × Int)} {KT : Nat → Option (Nat → Int → Int)}
def ppv (l : List Int) (N : Nat) : Int := if l = [] then -1 else if fbp l N = l.length ∧ l.length % 8 = 7 then -1 else (fbp l N : Int)
def ppA (l : List Int) (N : Nat) : Int := if ppv l N = -1 then (((l.length + 1) / 8 : Nat) : Int) else -1 - ppv l N
def ppn (l : List Int) (N : Nat) : Nat := if ppv l N = -1 then (l.length + 1) / 8 else 0
def ppS (l : List Int) (T : Nat → Int → Int) (N : Nat) : Nat → Int → Int := up (ppT l T N (ppn l N)) 8 0 ((N + ppn l N : Nat) : Int)
theorem Mtx.em (h : V 3 = 0) : Mtx V A [] := ⟨h, by decide, fun _ h => (by cases h), fun _ h => (by cases h)⟩
theorem MU.em (h : V 19 = 0) : MU V A [] := ⟨h, by decide, fun _ h => (by cases h)⟩
theorem flat8 : flat (up T 8 x v) = flat T := rfl
theorem MK1.more {i : Nat} {o : Option (Nat → Int → Int)} (h : MK1 V A N i o) (h36 : V2 36 = V 36 + 1) (h22 : A2 22 = A 22) (h23 : A2 23 = A 23) (h24 : A2 24 = A 24) (hn : N < N2) : MK1 V2 A2 N2 i o := by
  cases o with
  | none => show A2 23 (i : Int) = 0; rw [h23]; exact h
  | some T =>
    obtain ⟨a, b, c, d, e, f⟩ := h
    refine ⟨by rw [h23]; exact a, by rw [h22]; exact b, by rw [h24]; exact c, by rw [h24, h36]; omega, ?_, by omega⟩
    rw [h24, h36]
    constructor <;> (intro; omega)
theorem MK.more (h : MK V A N KT) (h36 : V2 36 = V 36 + 1) (h22 : A2 22 = A 22) (h23 : A2 23 = A 23) (h24 : A2 24 = A 24) (hn : N < N2) : MK V2 A2 N2 KT := by
  obtain ⟨a, b, c, d⟩ := h
  exact ⟨by omega, by omega, c.more h36 h22 h23 h24 hn, d.more h36 h22 h23 h24 hn⟩
theorem ModAt.re1 (K : ModAt hp q V A rd rl) (h1 : V 1 = v) (hA : A 1 = f) : ModAt hp q (upN V 1 v) (upA A 1 f) rd rl := by rw [upN_id h1, upA_id hA]; exact K
theorem ppn_0 (hI : TI T N) (h : ppn l N = 0) : ppS l T N = T := by unfold ppS; rw [h]; exact up_id hI.1
theorem sp_Ref_people (hM : MAt hp q th N T U tx rw rt hs ss KT) (hI : TI T N) (hZ : ZT T N) : Sp g MX12_people (rm 3 0 0) [.ref q] hp (Eff (.int (I (ppA tx N))) (fun hp2 => MAt hp2 q 0 (N + ppn tx N) (ppS tx T N) (if ppn tx N = 0 then U else []) [] rw rt hs ss KT ∧ SO hp hp2 q (q + 25))) := by
  have hN := hI.men.2
  refine Sp_mk rfl (Nat.le_of_ble_eq_true rfl) ?_
  show wp g _ _ _ 0 0 0 [some (.ref q), none, none, none, none] [] hp
  have O := SO.rf (hp := hp) (lo := q) (hi := q + 25)
  obtain ⟨V, A, rd, K, hth, M⟩ := hM
  have hu := M.ru (q := q)
  have M2 := M
  obtain ⟨m1, mA, mt, mr, mu, mU, mh, ms, mk⟩ := M2
  have hl := mt.2.1
  have L : RdL A (upN (upN (upN (upN V 6 0) 8 (tx.length : Int)) 9 47) 3 0) q (.ref (q + 2)) tx 47 := ⟨2, .inl rfl, rfl, upN_ne (by decide) (upN_ne (by decide) upN_eq), upN_ne (by decide) upN_eq, hl, fun h => absurd rfl h, by decide, mt.2.2.1, mt.2.2.2⟩
  refine wp_aload_n (pc := 0) dX12_people_0 rfl ?_
  refine wp_iconst (pc := 1) dX12_people_1 ?_
  refine wm_put dX12_people_2 pf_X12_85 K O (by decide) mset_6 rfl rfl (fun hp K O => ?_)
  refine wp_aload_n (pc := 5) dX12_people_5 rfl ?_
  refine wp_bipush (pc := 6) (y := 47) dX12_people_6 (by decide) ?_
  refine wp_Vn (pc := 8) dX12_people_8 cl_X12_145 (sp_Ref_beginText K (upN_ne (by decide) mt.1)) rfl rfl K.1 (by rfl) (by decide) (Nat.le_of_ble_eq_true rfl) (fun hp8 e8 => ?_)
  obtain ⟨K, O1⟩ := e8
  replace O := SO.tr O O1
  refine wp_aload_n (pc := 11) dX12_people_11 rfl ?_
  refine wm_gets dX12_people_12 gf_X12_109 K (by rfl) (by repeat (first | assumption | exact pv10 | exact pv11 | (apply pv_o; decide; decide) | exact upN_eq | (apply upN_ne; decide) | (apply SV_at; assumption; decide) | exact rfl)) ?_
  first | refine wp_ifb_ne (pc := 15) 20 dX12_people_15 (by decide) (fun c15 => ?_) (fun c15 => ?_) | refine wp_if_ne (pc := 15) 20 dX12_people_15 (by decide) (by first | omega | exact TI.i5 (by assumption) | exact TI.i3 (by assumption) | exact TI.i2 (by assumption) | exact TI.i1 (by assumption) | exact TI.i0 (by assumption) | exact TI.i4 (by assumption) | exact TI.i6 (by assumption) | exact TI.i7 (by assumption)) (fun c15 => ?_) (fun c15 => ?_)
  ·
    have hne : tx ≠ [] := fun z => c15 (by rw [z]; rfl) -- go
    refine wp_iconst (pc := 20) dX12_people_20 ?_
    refine wp_istore_n (pc := 21) dX12_people_21 (by decide) ?_
    refine wp_iconst (pc := 22) dX12_people_22 ?_
    refine wp_istore_n (pc := 23) dX12_people_23 (by decide) ?_
    refine wp_ls ?_ (lp_Ref_pp2 (l := tx) (N := N) (A := A) L mt.2.2.1 (by repeat (first | assumption | exact pv10 | exact pv11 | (apply pv_o; decide; decide) | exact upN_eq | (apply upN_ne; decide) | (apply SV_at; assumption; decide) | exact rfl)) hN (fun hp3 C n p w K O hx => ?_) 8 0 (by omega) (by omega) _ (A 4) 0 (-1) True (by rw [upA_id rfl]; exact K) O (.inl ⟨trivial, rfl, .inl ⟨rfl, rfl, fun p' h => by omega, fun m j hj hm => by omega⟩⟩))
    · repeat' (first | exact LE_0 | refine LE_s rfl ?_ | refine LE_s (I_c (by first | omega | (simp only [sm]; omega))) ?_ | refine LE_s (J_c (by first | omega | exact Int.pow_succ _ _ | exact (Int.pow_succ _ _).symm | exact (Int.pow_zero _).symm | (simp only [sm]; omega))) ?_ | refine LE_n ?_)
    · obtain ⟨m, rfl, hm, hP, hF⟩ := hx
      have hle := hP.le (by omega) (by omega)
      have eF := hF.eq
      have hFl := hF.le
      refine wp_aload_n (pc := 103) dX12_people_103 rfl ?_
      refine wp_Vs (pc := 104) dX12_people_104 cl_X12_148 (sp_Ref_wasRight (n := tx.length) K (by repeat (first | assumption | exact pv10 | exact pv11 | (apply pv_o; decide; decide) | exact upN_eq | (apply upN_ne; decide) | (apply SV_at; assumption; decide) | exact rfl)) hle.2 hle.1 hl) rfl rfl K.1 (by rfl) (by decide) (Nat.le_of_ble_eq_true rfl) (fun hp104 e104 => ?_)
      obtain ⟨K, O1⟩ := e104
      replace O := SO.tr O O1
      first | refine wp_ifb_ne (pc := 107) 117 dX12_people_107 (by decide) (fun c107 => ?_) (fun c107 => ?_) | refine wp_if_ne (pc := 107) 117 dX12_people_107 (by decide) (by first | omega | exact TI.i5 (by assumption) | exact TI.i3 (by assumption) | exact TI.i2 (by assumption) | exact TI.i1 (by assumption) | exact TI.i0 (by assumption) | exact TI.i4 (by assumption) | exact TI.i6 (by assumption) | exact TI.i7 (by assumption)) (fun c107 => ?_) (fun c107 => ?_)
      ·
        obtain ⟨p1, p2, p3, p4⟩ := hP.resolve_right (fun z => by omega)
        have hv : ppv tx N = -1 := by unfold ppv; rw [if_neg hne, ← eF, if_pos ⟨by omega, by omega⟩]
        have hnn : ppn tx N = m + 1 := by unfold ppn; rw [if_pos hv]; omega
        have hA : ppA tx N = ((m + 1 : Nat) : Int) := by unfold ppA; rw [if_pos hv, show (tx.length + 1) / 8 = m + 1 by omega]
        have hroom : N + (m + 1) ≤ 6 := by have := (p3 (8 * m) (by omega)).1 (by omega); omega
        have hS : ppS tx T N = up (ppT tx T N (m + 1)) 8 0 ((N + (m + 1) : Nat) : Int) := by unfold ppS; rw [hnn]
        have hC : ∀ r j : Nat, r < m + 1 → j ≤ 6 → upA A 4 C 4 (7 * (r : Int) + (j : Int)) = tx.getD (8 * r + j) 0 - 48 := fun r j hr hj => by rw [upA_eq]; exact p4 r j hj (by omega)
        rw [hA, hS, hnn, if_neg (by omega)] -- go
        refine wp_iconst (pc := 117) dX12_people_117 ?_
        refine wp_istore_n (pc := 118) dX12_people_118 (by decide) ?_
        refine wp_ls ?_ (lp_Ref_pp4 (l := tx) (T := T) (N := N) (n := m + 1) hZ hroom hC (fun hp4 K O => ?_) (m + 2) 0 (by omega) (by omega) _ (K.re1 (by repeat (first | assumption | exact pv10 | exact pv11 | (apply pv_o; decide; decide) | exact upN_eq | (apply upN_ne; decide) | (apply SV_at; assumption; decide) | exact rfl)) (by repeat (first | assumption | exact upA_eq | (apply upA_ne; first | decide | omega) | (apply SA_at; assumption; first | decide | (simp; omega)) | exact rfl))) O)
        · repeat' (first | exact LE_0 | refine LE_s rfl ?_ | refine LE_s (I_c (by first | omega | (simp only [sm]; omega))) ?_ | refine LE_s (J_c (by first | omega | exact Int.pow_succ _ _ | exact (Int.pow_succ _ _).symm | exact (Int.pow_zero _).symm | (simp only [sm]; omega))) ?_ | refine LE_n ?_)
        ·
          refine wp_aload_n (pc := 294) dX12_people_294 rfl ?_
          refine wp_iconst (pc := 295) dX12_people_295 ?_
          refine wm_put dX12_people_296 pf_X12_155 K O (by decide) mset_19 rfl rfl (fun hp K O => ?_)
          refine wp_aload_n (pc := 299) dX12_people_299 rfl ?_
          refine wp_dup (pc := 300) dX12_people_300 rfl ?_
          refine wm_gets dX12_people_301 gf_X12_158 K (by rfl) (by repeat (first | assumption | exact pv10 | exact pv11 | (apply pv_o; decide; decide) | exact upN_eq | (apply upN_ne; decide) | (apply SV_at; assumption; decide) | exact rfl)) ?_
          refine wp_iconst (pc := 304) dX12_people_304 ?_
          refine wp_iadd (pc := 305) dX12_people_305 ?_
          refine wm_put dX12_people_306 pf_X12_158 K O (by decide) mset_36 rfl rfl (fun hp K O => ?_)
          refine wp_iload_n (pc := 309) dX12_people_309 rfl ?_
          exact wp_ir (pc := 310) dX12_people_310 rfl (by decide) (by decide) (by first | rfl | omega) ⟨⟨_, _, _, K, (by repeat (first | assumption | exact pv10 | exact pv11 | (apply pv_o; decide; decide) | exact upN_eq | (apply upN_ne; decide) | (apply SV_at; assumption; decide) | exact rfl)), ⟨(by repeat (first | assumption | exact pv10 | exact pv11 | (apply pv_o; decide; decide) | exact upN_eq | (apply upN_ne; decide) | (apply SV_at; assumption; decide) | exact rfl)), (by rw [flat8]; exact upA_eq), Mtx.em (by repeat (first | assumption | exact pv10 | exact pv11 | (apply pv_o; decide; decide) | exact upN_eq | (apply upN_ne; decide) | (apply SV_at; assumption; decide) | exact rfl)), Mrw.tr mr (by repeat (first | assumption | exact pv10 | exact pv11 | (apply pv_o; decide; decide) | exact upN_eq | (apply upN_ne; decide) | (apply SV_at; assumption; decide) | exact rfl)) (by repeat (first | assumption | exact upA_eq | (apply upA_ne; first | decide | omega) | (apply SA_at; assumption; first | decide | (simp; omega)) | exact rfl)), Mrt.tr mu (by repeat (first | assumption | exact pv10 | exact pv11 | (apply pv_o; decide; decide) | exact upN_eq | (apply upN_ne; decide) | (apply SV_at; assumption; decide) | exact rfl)) (by repeat (first | assumption | exact upA_eq | (apply upA_ne; first | decide | omega) | (apply SA_at; assumption; first | decide | (simp; omega)) | exact rfl)), MU.em (by repeat (first | assumption | exact pv10 | exact pv11 | (apply pv_o; decide; decide) | exact upN_eq | (apply upN_ne; decide) | (apply SV_at; assumption; decide) | exact rfl)), Mhs.tr mh (by repeat (first | assumption | exact pv10 | exact pv11 | (apply pv_o; decide; decide) | exact upN_eq | (apply upN_ne; decide) | (apply SV_at; assumption; decide) | exact rfl)) (by repeat (first | assumption | exact upA_eq | (apply upA_ne; first | decide | omega) | (apply SA_at; assumption; first | decide | (simp; omega)) | exact rfl)) (by repeat (first | assumption | exact upA_eq | (apply upA_ne; first | decide | omega) | (apply SA_at; assumption; first | decide | (simp; omega)) | exact rfl)), Mss.tr ms (by repeat (first | assumption | exact pv10 | exact pv11 | (apply pv_o; decide; decide) | exact upN_eq | (apply upN_ne; decide) | (apply SV_at; assumption; decide) | exact rfl)) (by repeat (first | assumption | exact upA_eq | (apply upA_ne; first | decide | omega) | (apply SA_at; assumption; first | decide | (simp; omega)) | exact rfl)) (by repeat (first | assumption | exact upA_eq | (apply upA_ne; first | decide | omega) | (apply SA_at; assumption; first | decide | (simp; omega)) | exact rfl)) (by repeat (first | assumption | exact upA_eq | (apply upA_ne; first | decide | omega) | (apply SA_at; assumption; first | decide | (simp; omega)) | exact rfl)), MK.more mk (by repeat (first | assumption | exact pv10 | exact pv11 | (apply pv_o; decide; decide) | exact upN_eq | (apply upN_ne; decide) | (apply SV_at; assumption; decide) | exact rfl)) (by repeat (first | assumption | exact upA_eq | (apply upA_ne; first | decide | omega) | (apply SA_at; assumption; first | decide | (simp; omega)) | exact rfl)) (by repeat (first | assumption | exact upA_eq | (apply upA_ne; first | decide | omega) | (apply SA_at; assumption; first | decide | (simp; omega)) | exact rfl)) (by repeat (first | assumption | exact upA_eq | (apply upA_ne; first | decide | omega) | (apply SA_at; assumption; first | decide | (simp; omega)) | exact rfl)) (by omega)⟩⟩, O⟩
      ·
        have ew : (if w = -1 ∧ p < tx.length then (p : Int) else w) = (p : Int) := by
          split
          · rfl
          · rcases hP with h | h
            · exact absurd ⟨h.1, by omega⟩ c107
            · exact h.1
        rw [ew] at K
        have hv : ppv tx N = (p : Int) := by
          unfold ppv
          rw [if_neg hne, ← eF, if_neg ?_]
          intro z
          rcases hP with h | h
          · exact c107 ⟨h.1, by omega⟩
          · exact h.2.2 (by omega)
        have hn0 : ppn tx N = 0 := by unfold ppn; rw [if_neg (by omega)]
        have hA : ppA tx N = -1 - (p : Int) := by unfold ppA; rw [if_neg (by omega), hv]
        rw [hA, ppn_0 hI hn0, hn0, Nat.add_zero, if_pos rfl] -- go
        refine wp_iconst (pc := 110) dX12_people_110 ?_
        refine wp_aload_n (pc := 111) dX12_people_111 rfl ?_
        refine wm_gets dX12_people_112 gf_X12_118 K (by rfl) (by repeat (first | assumption | exact pv10 | exact pv11 | (apply pv_o; decide; decide) | exact upN_eq | (apply upN_ne; decide) | (apply SV_at; assumption; decide) | exact rfl)) ?_
        refine wp_isub (pc := 115) dX12_people_115 ?_
        exact wp_ir (pc := 116) dX12_people_116 rfl (by decide) (by decide) (by first | rfl | omega) ⟨⟨_, _, _, K, (by repeat (first | assumption | exact pv10 | exact pv11 | (apply pv_o; decide; decide) | exact upN_eq | (apply upN_ne; decide) | (apply SV_at; assumption; decide) | exact rfl)), ⟨(by repeat (first | assumption | exact pv10 | exact pv11 | (apply pv_o; decide; decide) | exact upN_eq | (apply upN_ne; decide) | (apply SV_at; assumption; decide) | exact rfl)), (by repeat (first | assumption | exact upA_eq | (apply upA_ne; first | decide | omega) | (apply SA_at; assumption; first | decide | (simp; omega)) | exact rfl)), Mtx.em (by repeat (first | assumption | exact pv10 | exact pv11 | (apply pv_o; decide; decide) | exact upN_eq | (apply upN_ne; decide) | (apply SV_at; assumption; decide) | exact rfl)), Mrw.tr mr (by repeat (first | assumption | exact pv10 | exact pv11 | (apply pv_o; decide; decide) | exact upN_eq | (apply upN_ne; decide) | (apply SV_at; assumption; decide) | exact rfl)) (by repeat (first | assumption | exact upA_eq | (apply upA_ne; first | decide | omega) | (apply SA_at; assumption; first | decide | (simp; omega)) | exact rfl)), Mrt.tr mu (by repeat (first | assumption | exact pv10 | exact pv11 | (apply pv_o; decide; decide) | exact upN_eq | (apply upN_ne; decide) | (apply SV_at; assumption; decide) | exact rfl)) (by repeat (first | assumption | exact upA_eq | (apply upA_ne; first | decide | omega) | (apply SA_at; assumption; first | decide | (simp; omega)) | exact rfl)), MU.tr mU (by repeat (first | assumption | exact pv10 | exact pv11 | (apply pv_o; decide; decide) | exact upN_eq | (apply upN_ne; decide) | (apply SV_at; assumption; decide) | exact rfl)) (by repeat (first | assumption | exact upA_eq | (apply upA_ne; first | decide | omega) | (apply SA_at; assumption; first | decide | (simp; omega)) | exact rfl)), Mhs.tr mh (by repeat (first | assumption | exact pv10 | exact pv11 | (apply pv_o; decide; decide) | exact upN_eq | (apply upN_ne; decide) | (apply SV_at; assumption; decide) | exact rfl)) (by repeat (first | assumption | exact upA_eq | (apply upA_ne; first | decide | omega) | (apply SA_at; assumption; first | decide | (simp; omega)) | exact rfl)) (by repeat (first | assumption | exact upA_eq | (apply upA_ne; first | decide | omega) | (apply SA_at; assumption; first | decide | (simp; omega)) | exact rfl)), Mss.tr ms (by repeat (first | assumption | exact pv10 | exact pv11 | (apply pv_o; decide; decide) | exact upN_eq | (apply upN_ne; decide) | (apply SV_at; assumption; decide) | exact rfl)) (by repeat (first | assumption | exact upA_eq | (apply upA_ne; first | decide | omega) | (apply SA_at; assumption; first | decide | (simp; omega)) | exact rfl)) (by repeat (first | assumption | exact upA_eq | (apply upA_ne; first | decide | omega) | (apply SA_at; assumption; first | decide | (simp; omega)) | exact rfl)) (by repeat (first | assumption | exact upA_eq | (apply upA_ne; first | decide | omega) | (apply SA_at; assumption; first | decide | (simp; omega)) | exact rfl)), MK.tr mk (by repeat (first | assumption | exact pv10 | exact pv11 | (apply pv_o; decide; decide) | exact upN_eq | (apply upN_ne; decide) | (apply SV_at; assumption; decide) | exact rfl)) (by repeat (first | assumption | exact upA_eq | (apply upA_ne; first | decide | omega) | (apply SA_at; assumption; first | decide | (simp; omega)) | exact rfl)) (by repeat (first | assumption | exact upA_eq | (apply upA_ne; first | decide | omega) | (apply SA_at; assumption; first | decide | (simp; omega)) | exact rfl)) (by repeat (first | assumption | exact upA_eq | (apply upA_ne; first | decide | omega) | (apply SA_at; assumption; first | decide | (simp; omega)) | exact rfl))⟩⟩, O⟩
  ·
    have e : tx = [] := List.eq_nil_of_length_eq_zero (by omega)
    have hv : ppv tx N = -1 := by unfold ppv; rw [if_pos e]
    have hn0 : ppn tx N = 0 := by unfold ppn; rw [if_pos hv, e]; rfl
    have hA : ppA tx N = 0 := by unfold ppA; rw [if_pos hv, e]; rfl
    rw [hA, ppn_0 hI hn0, hn0, Nat.add_zero, if_pos rfl] -- go
    refine wp_iconst (pc := 18) dX12_people_18 ?_
    exact wp_ir (pc := 19) dX12_people_19 rfl (by decide) (by decide) (by first | rfl | omega) ⟨⟨_, _, _, K, (by repeat (first | assumption | exact pv10 | exact pv11 | (apply pv_o; decide; decide) | exact upN_eq | (apply upN_ne; decide) | (apply SV_at; assumption; decide) | exact rfl)), ⟨(by repeat (first | assumption | exact pv10 | exact pv11 | (apply pv_o; decide; decide) | exact upN_eq | (apply upN_ne; decide) | (apply SV_at; assumption; decide) | exact rfl)), (by repeat (first | assumption | exact upA_eq | (apply upA_ne; first | decide | omega) | (apply SA_at; assumption; first | decide | (simp; omega)) | exact rfl)), Mtx.em (by repeat (first | assumption | exact pv10 | exact pv11 | (apply pv_o; decide; decide) | exact upN_eq | (apply upN_ne; decide) | (apply SV_at; assumption; decide) | exact rfl)), Mrw.tr mr (by repeat (first | assumption | exact pv10 | exact pv11 | (apply pv_o; decide; decide) | exact upN_eq | (apply upN_ne; decide) | (apply SV_at; assumption; decide) | exact rfl)) (by repeat (first | assumption | exact upA_eq | (apply upA_ne; first | decide | omega) | (apply SA_at; assumption; first | decide | (simp; omega)) | exact rfl)), Mrt.tr mu (by repeat (first | assumption | exact pv10 | exact pv11 | (apply pv_o; decide; decide) | exact upN_eq | (apply upN_ne; decide) | (apply SV_at; assumption; decide) | exact rfl)) (by repeat (first | assumption | exact upA_eq | (apply upA_ne; first | decide | omega) | (apply SA_at; assumption; first | decide | (simp; omega)) | exact rfl)), MU.tr mU (by repeat (first | assumption | exact pv10 | exact pv11 | (apply pv_o; decide; decide) | exact upN_eq | (apply upN_ne; decide) | (apply SV_at; assumption; decide) | exact rfl)) (by repeat (first | assumption | exact upA_eq | (apply upA_ne; first | decide | omega) | (apply SA_at; assumption; first | decide | (simp; omega)) | exact rfl)), Mhs.tr mh (by repeat (first | assumption | exact pv10 | exact pv11 | (apply pv_o; decide; decide) | exact upN_eq | (apply upN_ne; decide) | (apply SV_at; assumption; decide) | exact rfl)) (by repeat (first | assumption | exact upA_eq | (apply upA_ne; first | decide | omega) | (apply SA_at; assumption; first | decide | (simp; omega)) | exact rfl)) (by repeat (first | assumption | exact upA_eq | (apply upA_ne; first | decide | omega) | (apply SA_at; assumption; first | decide | (simp; omega)) | exact rfl)), Mss.tr ms (by repeat (first | assumption | exact pv10 | exact pv11 | (apply pv_o; decide; decide) | exact upN_eq | (apply upN_ne; decide) | (apply SV_at; assumption; decide) | exact rfl)) (by repeat (first | assumption | exact upA_eq | (apply upA_ne; first | decide | omega) | (apply SA_at; assumption; first | decide | (simp; omega)) | exact rfl)) (by repeat (first | assumption | exact upA_eq | (apply upA_ne; first | decide | omega) | (apply SA_at; assumption; first | decide | (simp; omega)) | exact rfl)) (by repeat (first | assumption | exact upA_eq | (apply upA_ne; first | decide | omega) | (apply SA_at; assumption; first | decide | (simp; omega)) | exact rfl)), MK.tr mk (by repeat (first | assumption | exact pv10 | exact pv11 | (apply pv_o; decide; decide) | exact upN_eq | (apply upN_ne; decide) | (apply SV_at; assumption; decide) | exact rfl)) (by repeat (first | assumption | exact upA_eq | (apply upA_ne; first | decide | omega) | (apply SA_at; assumption; first | decide | (simp; omega)) | exact rfl)) (by repeat (first | assumption | exact upA_eq | (apply upA_ne; first | decide | omega) | (apply SA_at; assumption; first | decide | (simp; omega)) | exact rfl)) (by repeat (first | assumption | exact upA_eq | (apply upA_ne; first | decide | omega) | (apply SA_at; assumption; first | decide | (simp; omega)) | exact rfl))⟩⟩, O⟩
end MPc

