/-! the reference: a rule read and reckoned at once; the class's steps come to the same -/
section MD
variable {g : GT} {hp hp0 : Hp} {q N n a s k p tp f L ln : Nat} {V V2 : Nat → Int} {A A2 : Nat → Int → Int} {rd rl : Value} {i j x v b c y dep : Int} {T : Nat → Int → Int} {l : List Int} {nx : Nat → Int} {e : Int → Int}
abbrev ER : Type := Bool × Nat × Int
def th (nx : Nat → Int) (e : Int → Int) (E : Nat → ER) (dp : Bool) (p : Nat) : ER :=
  if 48 ≤ nx p ∧ nx p ≤ 57 then (true, (nmb nx 3 p 0).1, (nmb nx 3 p 0).2)
  else if isT (nx p) then (true, p + 1, e (nx p))
  else if nx p = 40 ∧ dp = true then (if (E (p + 1)).1 = true ∧ nx (E (p + 1)).2.1 = 41 then (true, (E (p + 1)).2.1 + 1, (E (p + 1)).2.2) else (false, (E (p + 1)).2.1, (E (p + 1)).2.2))
  else (false, p, 0)
def eT (nx : Nat → Int) (T : Nat → ER) : Nat → Nat → ER
  | 0, p => T p
  | f + 1, p => if nx p = 45 then ((eT nx T f (p + 1)).1, (eT nx T f (p + 1)).2.1, nz (-(eT nx T f (p + 1)).2.2)) else T p
def jne (c : Int) (r s : ER) : ER := (s.1, s.2.1, jn c r.2.2 s.2.2)
def chE (nx : Nat → Int) (o1 o2 : Int) (P : Nat → ER) : Nat → ER → ER
  | 0, r => r
  | f + 1, r => if r.1 = true ∧ (nx r.2.1 = o1 ∨ nx r.2.1 = o2) then chE nx o1 o2 P f (jne (nx r.2.1) r (P (r.2.1 + 1))) else r
def eP (nx : Nat → Int) (T : Nat → ER) (p : Nat) : ER := chE nx 42 47 (eT nx T 40) 40 (eT nx T 40 p)
def eS (nx : Nat → Int) (T : Nat → ER) (p : Nat) : ER := chE nx 43 45 (eP nx T) 40 (eP nx T p)
def eX (nx : Nat → Int) (T : Nat → ER) (p : Nat) : ER := if (eS nx T p).1 = true ∧ (nx (eS nx T p).2.1 = 60 ∨ nx (eS nx T p).2.1 = 62 ∨ nx (eS nx T p).2.1 = 61) then jne (nx (eS nx T p).2.1) (eS nx T p) (eS nx T ((eS nx T p).2.1 + 1)) else eS nx T p
def eE (nx : Nat → Int) (e : Int → Int) : Nat → Nat → ER
  | 0 => eX nx (th nx e (fun q => (false, q, 0)) false)
  | L + 1 => eX nx (th nx e (eE nx e L) true)
def thL (nx : Nat → Int) (e : Int → Int) : Nat → Nat → ER
  | 0 => th nx e (fun q => (false, q, 0)) false
  | L + 1 => th nx e (eE nx e L) true
theorem eE_eq (nx : Nat → Int) (e : Int → Int) (L : Nat) : eE nx e L = eX nx (thL nx e L) := by cases L <;> rfl
/-- steps and value agree -/
def Rel (e : Int → Int) (r : PR) (s : ER) : Prop := r.1 = s.1 ∧ r.2.1 = s.2.1 ∧ InR s.2.2 ∧ (r.1 = true → ∀ k, ex e r.2.2 k = s.2.2 :: k)
theorem nz_neg (h : InR x) : nz (-(nz (-x))) = x := by
  have : I (-(nz (-x))) = I x := by rw [← I_neg, nz_I, ← I_neg]; simp
  unfold nz at *
  rw [this]
  exact I_toInt h
theorem rel_T (hn : NX nx ln) (he : ∀ c, 0 ≤ e c ∧ e c ≤ 99) {E : Nat → PR} {E' : Nat → ER} (hE : ∀ p, p ≤ ln → Rel e (E p) (E' p)) {dp : Bool} (hp : p ≤ ln) : Rel e (pT nx E dp p) (th nx e E' dp p) := by
  unfold pT th
  by_cases h1 : 48 ≤ nx p ∧ nx p ≤ 57
  · rw [if_pos h1, if_pos h1]
    have := nmb_ok hn h1
    refine ⟨rfl, rfl, (show InR (nmb nx 3 p 0).2 by omega), fun _ k => ?_⟩
    show stp e _ k = _
    unfold stp
    rw [if_pos (by omega)]
  rw [if_neg h1, if_neg h1]
  by_cases h2 : isT (nx p)
  · rw [if_pos h2, if_pos h2]
    have := he (nx p)
    refine ⟨rfl, rfl, (show InR (e (nx p)) by omega), fun _ k => ?_⟩
    show stp e _ k = _
    unfold stp
    rw [if_neg (by rcases h2 with h | h | h | h | h | h <;> omega), Int.neg_neg, if_pos h2]
  rw [if_neg h2, if_neg h2]
  by_cases h3 : nx p = 40 ∧ dp = true
  · rw [if_pos h3, if_pos h3]
    obtain ⟨a1, a2, a3, a4⟩ := hE (p + 1) (hn.lt (by omega))
    rw [← a1, ← a2]
    by_cases h4 : (E (p + 1)).1 = true ∧ nx (E (p + 1)).2.1 = 41
    · rw [if_pos h4, if_pos h4]
      exact ⟨rfl, rfl, a3, fun _ => a4 h4.1⟩
    · rw [if_neg h4, if_neg h4]
      exact ⟨rfl, rfl, a3, fun z => by cases z⟩
  · rw [if_neg h3, if_neg h3]
    exact ⟨rfl, rfl, (show InR 0 by decide), fun z => by cases z⟩
theorem rel_mns (hn : NX nx ln) {T : Nat → PR} {T' : Nat → ER} (hT : ∀ p, p ≤ ln → Rel e (T p) (T' p)) : ∀ (f p : Nat) (b : Bool), p ≤ ln → (T (mns nx f p b).1).1 = (eT nx T' f p).1 ∧ (T (mns nx f p b).1).2.1 = (eT nx T' f p).2.1 ∧ InR (eT nx T' f p).2.2 ∧ ∃ w, InR w ∧ ((T (mns nx f p b).1).1 = true → ∀ k, ex e (T (mns nx f p b).1).2.2 k = w :: k) ∧ (eT nx T' f p).2.2 = if (mns nx f p b).2 = b then w else nz (-w)
  | 0, p, b, hp => by
    obtain ⟨a1, a2, a3, a4⟩ := hT p hp
    exact ⟨a1, a2, a3, _, a3, a4, (if_pos rfl).symm⟩
  | f + 1, p, b, hp => by
    unfold mns eT
    by_cases h : nx p = 45
    · rw [if_pos h, if_pos h]
      obtain ⟨a1, a2, a3, w, b1, b2, b3⟩ := rel_mns hn hT f (p + 1) (!b) (hn.lt (by omega))
      refine ⟨a1, a2, nz_in _, w, b1, b2, ?_⟩
      show nz (-(eT nx T' f (p + 1)).2.2) = _
      rw [b3]
      by_cases z : (mns nx f (p + 1) (!b)).2 = b
      · rw [if_pos z, if_neg (by rw [z]; cases b <;> decide), nz_neg b1]
      · rw [if_neg z, if_pos (by revert z; cases (mns nx f (p + 1) (!b)).2 <;> cases b <;> decide)]
    · rw [if_neg h, if_neg h]
      obtain ⟨a1, a2, a3, a4⟩ := hT p hp
      exact ⟨a1, a2, a3, _, a3, a4, (if_pos rfl).symm⟩
theorem rel_G (hn : NX nx ln) {T : Nat → PR} {T' : Nat → ER} (hT : ∀ p, p ≤ ln → Rel e (T p) (T' p)) (hp : p ≤ ln) : Rel e (pG nx T p) (eT nx T' 40 p) := by
  obtain ⟨a1, a2, a3, w, b1, b2, b3⟩ := rel_mns (e := e) hn hT 40 p false hp
  refine ⟨a1, a2, a3, fun ho k => ?_⟩
  have ho' : (T (mns nx 40 p false).1).1 = true := ho
  show ex e ((T (mns nx 40 p false).1).2.2 ++ _) k = _
  rw [ex_app, b2 ho']
  by_cases z : (mns nx 40 p false).2 = true
  · rw [if_pos ⟨ho', z⟩, b3, if_neg (by rw [z]; decide)]
    rfl
  · rw [if_neg (fun y => z y.2), b3, if_pos (by revert z; cases (mns nx 40 p false).2 <;> decide)]
    rfl
theorem stp_op (ho : opc c) (k : List Int) : stp e (-c) (y :: x :: k) = jn c x y :: k := by
  unfold stp
  unfold opc at ho
  rw [if_neg (by omega), if_neg (by unfold isT; omega), if_neg (by omega), Int.neg_neg]
  rfl
theorem rel_jn {r q : PR} {r' q' : ER} (h : Rel e r r') (hr : r.1 = true) (h2 : Rel e q q') (ho : opc c) : Rel e (jnr c r q) (jne c r' q') := by
  refine ⟨h2.1, h2.2.1, jn_in _ _ _, fun z k => ?_⟩
  have z' : q.1 = true := z
  show ex e (r.2.2 ++ q.2.2 ++ _) k = jn c r'.2.2 q'.2.2 :: k
  rw [if_pos z', ex_app, ex_app, h.2.2.2 hr, h2.2.2.2 z']
  exact stp_op ho k
theorem rel_ch (hn : NX nx ln) {o1 o2 : Int} (h1 : opc o1) (h2 : opc o2) {P : Nat → PR} {P' : Nat → ER} (hG : GP ln P) (hP : ∀ p, p ≤ ln → Rel e (P p) (P' p)) : ∀ (f : Nat) (r : PR) (s : ER), r.2.1 ≤ ln → Rel e r s → Rel e (chn nx o1 o2 P f r) (chE nx o1 o2 P' f s)
  | 0, r, s, _, h => h
  | f + 1, r, s, hl, h => by
    unfold chn chE
    rw [← h.1, ← h.2.1]
    by_cases z : r.1 = true ∧ (nx r.2.1 = o1 ∨ nx r.2.1 = o2)
    · rw [if_pos z, if_pos z]
      have ho : opc (nx r.2.1) := by rcases z.2 with y | y <;> rw [y] <;> assumption
      have hl2 : r.2.1 + 1 ≤ ln := hn.lt (by unfold opc at ho; omega)
      exact rel_ch hn h1 h2 hG hP f _ _ (hG _ hl2).2.1 (rel_jn h z.1 (hP _ hl2) ho)
    · rw [if_neg z, if_neg z]
      exact h
theorem rel_P (hn : NX nx ln) {T : Nat → PR} {T' : Nat → ER} (hG : GP ln T) (hT : ∀ p, p ≤ ln → Rel e (T p) (T' p)) (hp : p ≤ ln) : Rel e (pP nx T p) (eP nx T' p) := rel_ch hn (by unfold opc; omega) (by unfold opc; omega) (GP_G hn hG) (fun p h => rel_G hn hT h) 40 _ _ (GP_G hn hG p hp).2.1 (rel_G hn hT hp)
theorem rel_S (hn : NX nx ln) {T : Nat → PR} {T' : Nat → ER} (hG : GP ln T) (hT : ∀ p, p ≤ ln → Rel e (T p) (T' p)) (hp : p ≤ ln) : Rel e (pS nx T p) (eS nx T' p) := rel_ch hn (by unfold opc; omega) (by unfold opc; omega) (GP_P hn hG) (fun p h => rel_P hn hG hT h) 40 _ _ (GP_P hn hG p hp).2.1 (rel_P hn hG hT hp)
theorem rel_X (hn : NX nx ln) {T : Nat → PR} {T' : Nat → ER} (hG : GP ln T) (hT : ∀ p, p ≤ ln → Rel e (T p) (T' p)) (hp : p ≤ ln) : Rel e (pX nx T p) (eX nx T' p) := by
  have h := rel_S hn hG hT hp
  unfold pX eX
  rw [← h.1, ← h.2.1]
  by_cases z : (pS nx T p).1 = true ∧ (nx (pS nx T p).2.1 = 60 ∨ nx (pS nx T p).2.1 = 62 ∨ nx (pS nx T p).2.1 = 61)
  · rw [if_pos z, if_pos z]
    have ho : opc (nx (pS nx T p).2.1) := by unfold opc; omega
    exact rel_jn h z.1 (rel_S hn hG hT (hn.lt (by omega))) ho
  · rw [if_neg z, if_neg z]
    exact h
theorem rel_0 : Rel e (false, p, []) (false, p, 0) := ⟨rfl, rfl, (show InR 0 by decide), fun z => by cases z⟩
theorem rel_E (hn : NX nx ln) (he : ∀ c, 0 ≤ e c ∧ e c ≤ 99) : ∀ (L p : Nat), p ≤ ln → Rel e (pE nx L p) (eE nx e L p)
  | 0, p, hp => rel_X hn (GP_T hn GP_0) (fun p h => rel_T hn he (fun p _ => rel_0) h) hp
  | L + 1, p, hp => rel_X hn (GP_T hn (GP_E hn L)) (fun p h => rel_T hn he (fun p h => rel_E hn he L p h) h) hp
/-- places of the reference's readers -/
def GE (ln : Nat) (P : Nat → ER) : Prop := ∀ p, p ≤ ln → p ≤ (P p).2.1 ∧ (P p).2.1 ≤ ln ∧ InR (P p).2.2
theorem GE_of {P : Nat → PR} {P' : Nat → ER} (hG : GP ln P) (hP : ∀ p, p ≤ ln → Rel e (P p) (P' p)) : GE ln P' := fun p hp => by
  have := hG p hp
  obtain ⟨a1, a2, a3, -⟩ := hP p hp
  exact ⟨by omega, by omega, a3⟩
theorem rel_L (hn : NX nx ln) (he : ∀ c, 0 ≤ e c ∧ e c ≤ 99) (L p : Nat) (hp : p ≤ ln) : Rel e (pTL nx L p) (thL nx e L p) := by
  cases L with
  | zero => exact rel_T hn he (fun p _ => rel_0) hp
  | succ L => exact rel_T hn he (fun p h => rel_E hn he L p h) hp
/-- the contract of one of the reference's readers -/
def AK (V : Nat → Int) (A : Nat → Int → Int) (e : Int → Int) : Prop := (V 16 = 0 ∧ ∀ c, e c = 0) ∨ (V 16 = 1 ∧ A 7 0 = e 111 ∧ A 7 1 = e 100 ∧ A 7 2 = e 116 ∧ A 7 3 = e 101 ∧ A 7 4 = e 102 ∧ A 7 5 = e 110)
def pw (r : ER) : Int := if r.1 = true then -1 else (r.2.1 : Int)
def EvS (g : GT) (q : Nat) (V : Nat → Int) (A : Nat → Int → Int) (rd rl : Value) (ln : Nat) (M : MI) (d : Nat) (P : Nat → ER) (dep : Int) : Prop := ∀ (hp : Hp) (p : Nat), ModAt hp q (pv V p (-1)) A rd rl → p ≤ ln → Sp g M (rm d 0 0) [.ref q, .int (I dep)] hp (Eff (.int (I (P p).2.2)) (fun hp2 => ModAt hp2 q (pv V (P p).2.1 (pw (P p))) A rd rl ∧ SO hp hp2 q (q + 25)))
def ltrOf (c : Int) : Int := if c = 111 then 0 else if c = 100 then 1 else if c = 116 then 2 else if c = 101 then 3 else if c = 102 then 4 else if c = 110 then 5 else -1
theorem sp_Ref_letterOf (rx : InR x) : Sp g MX12_letterOf (rm 0 0 0) [.int (I x)] hp (Pur (.int (I (ltrOf x))) hp) := by
  refine Sp_mk rfl (Nat.le_of_ble_eq_true rfl) ?_
  show wp g _ _ _ 0 0 0 [some (.int (I x))] [] hp
  refine wp_iload_n (pc := 0) dX12_letterOf_0 rfl ?_
  refine wp_bipush (pc := 1) (y := 111) dX12_letterOf_1 (by decide) ?_
  refine wp_icmp_ne (pc := 3) 10 dX12_letterOf_3 (by decide) (by first | omega | exact TI.i5 (by assumption) | exact TI.i3 (by assumption) | exact TI.i2 (by assumption) | exact TI.i1 (by assumption) | exact TI.i0 (by assumption) | exact TI.i4 (by assumption) | exact TI.i6 (by assumption) | exact TI.i7 (by assumption)) (by first | omega | exact TI.i5 (by assumption) | exact TI.i3 (by assumption) | exact TI.i2 (by assumption) | exact TI.i1 (by assumption) | exact TI.i0 (by assumption) | exact TI.i4 (by assumption) | exact TI.i6 (by assumption) | exact TI.i7 (by assumption)) (fun c3 => ?_) (fun c3 => ?_)
  ·
    refine wp_iload_n (pc := 10) dX12_letterOf_10 rfl ?_
    refine wp_bipush (pc := 11) (y := 100) dX12_letterOf_11 (by decide) ?_
    refine wp_icmp_ne (pc := 13) 20 dX12_letterOf_13 (by decide) (by first | omega | exact TI.i5 (by assumption) | exact TI.i3 (by assumption) | exact TI.i2 (by assumption) | exact TI.i1 (by assumption) | exact TI.i0 (by assumption) | exact TI.i4 (by assumption) | exact TI.i6 (by assumption) | exact TI.i7 (by assumption)) (by first | omega | exact TI.i5 (by assumption) | exact TI.i3 (by assumption) | exact TI.i2 (by assumption) | exact TI.i1 (by assumption) | exact TI.i0 (by assumption) | exact TI.i4 (by assumption) | exact TI.i6 (by assumption) | exact TI.i7 (by assumption)) (fun c13 => ?_) (fun c13 => ?_)
    ·
      refine wp_iload_n (pc := 20) dX12_letterOf_20 rfl ?_
      refine wp_bipush (pc := 21) (y := 116) dX12_letterOf_21 (by decide) ?_
      refine wp_icmp_ne (pc := 23) 30 dX12_letterOf_23 (by decide) (by first | omega | exact TI.i5 (by assumption) | exact TI.i3 (by assumption) | exact TI.i2 (by assumption) | exact TI.i1 (by assumption) | exact TI.i0 (by assumption) | exact TI.i4 (by assumption) | exact TI.i6 (by assumption) | exact TI.i7 (by assumption)) (by first | omega | exact TI.i5 (by assumption) | exact TI.i3 (by assumption) | exact TI.i2 (by assumption) | exact TI.i1 (by assumption) | exact TI.i0 (by assumption) | exact TI.i4 (by assumption) | exact TI.i6 (by assumption) | exact TI.i7 (by assumption)) (fun c23 => ?_) (fun c23 => ?_)
      ·
        refine wp_iload_n (pc := 30) dX12_letterOf_30 rfl ?_
        refine wp_bipush (pc := 31) (y := 101) dX12_letterOf_31 (by decide) ?_
        refine wp_icmp_ne (pc := 33) 40 dX12_letterOf_33 (by decide) (by first | omega | exact TI.i5 (by assumption) | exact TI.i3 (by assumption) | exact TI.i2 (by assumption) | exact TI.i1 (by assumption) | exact TI.i0 (by assumption) | exact TI.i4 (by assumption) | exact TI.i6 (by assumption) | exact TI.i7 (by assumption)) (by first | omega | exact TI.i5 (by assumption) | exact TI.i3 (by assumption) | exact TI.i2 (by assumption) | exact TI.i1 (by assumption) | exact TI.i0 (by assumption) | exact TI.i4 (by assumption) | exact TI.i6 (by assumption) | exact TI.i7 (by assumption)) (fun c33 => ?_) (fun c33 => ?_)
        ·
          refine wp_iload_n (pc := 40) dX12_letterOf_40 rfl ?_
          refine wp_bipush (pc := 41) (y := 102) dX12_letterOf_41 (by decide) ?_
          refine wp_icmp_ne (pc := 43) 50 dX12_letterOf_43 (by decide) (by first | omega | exact TI.i5 (by assumption) | exact TI.i3 (by assumption) | exact TI.i2 (by assumption) | exact TI.i1 (by assumption) | exact TI.i0 (by assumption) | exact TI.i4 (by assumption) | exact TI.i6 (by assumption) | exact TI.i7 (by assumption)) (by first | omega | exact TI.i5 (by assumption) | exact TI.i3 (by assumption) | exact TI.i2 (by assumption) | exact TI.i1 (by assumption) | exact TI.i0 (by assumption) | exact TI.i4 (by assumption) | exact TI.i6 (by assumption) | exact TI.i7 (by assumption)) (fun c43 => ?_) (fun c43 => ?_)
          ·
            refine wp_iload_n (pc := 50) dX12_letterOf_50 rfl ?_
            refine wp_bipush (pc := 51) (y := 110) dX12_letterOf_51 (by decide) ?_
            refine wp_icmp_ne (pc := 53) 60 dX12_letterOf_53 (by decide) (by first | omega | exact TI.i5 (by assumption) | exact TI.i3 (by assumption) | exact TI.i2 (by assumption) | exact TI.i1 (by assumption) | exact TI.i0 (by assumption) | exact TI.i4 (by assumption) | exact TI.i6 (by assumption) | exact TI.i7 (by assumption)) (by first | omega | exact TI.i5 (by assumption) | exact TI.i3 (by assumption) | exact TI.i2 (by assumption) | exact TI.i1 (by assumption) | exact TI.i0 (by assumption) | exact TI.i4 (by assumption) | exact TI.i6 (by assumption) | exact TI.i7 (by assumption)) (fun c53 => ?_) (fun c53 => ?_)
            ·
              refine wp_iconst (pc := 60) dX12_letterOf_60 ?_
              exact wp_ir (pc := 61) dX12_letterOf_61 rfl (by decide) (by decide) (by unfold ltrOf; repeat' (first | rfl | omega | (rw [if_pos (by omega)]) | (rw [if_neg (by omega)]))) (by first | exact ⟨K, O⟩ | rfl)
            ·
              refine wp_iconst (pc := 56) dX12_letterOf_56 ?_
              refine wp_goto (pc := 57) 61 dX12_letterOf_57 (by decide) ?_
              exact wp_ir (pc := 61) dX12_letterOf_61 rfl (by decide) (by decide) (by unfold ltrOf; repeat' (first | rfl | omega | (rw [if_pos (by omega)]) | (rw [if_neg (by omega)]))) (by first | exact ⟨K, O⟩ | rfl)
          ·
            refine wp_iconst (pc := 46) dX12_letterOf_46 ?_
            refine wp_goto (pc := 47) 61 dX12_letterOf_47 (by decide) ?_
            exact wp_ir (pc := 61) dX12_letterOf_61 rfl (by decide) (by decide) (by unfold ltrOf; repeat' (first | rfl | omega | (rw [if_pos (by omega)]) | (rw [if_neg (by omega)]))) (by first | exact ⟨K, O⟩ | rfl)
        ·
          refine wp_iconst (pc := 36) dX12_letterOf_36 ?_
          refine wp_goto (pc := 37) 61 dX12_letterOf_37 (by decide) ?_
          exact wp_ir (pc := 61) dX12_letterOf_61 rfl (by decide) (by decide) (by unfold ltrOf; repeat' (first | rfl | omega | (rw [if_pos (by omega)]) | (rw [if_neg (by omega)]))) (by first | exact ⟨K, O⟩ | rfl)
      ·
        refine wp_iconst (pc := 26) dX12_letterOf_26 ?_
        refine wp_goto (pc := 27) 61 dX12_letterOf_27 (by decide) ?_
        exact wp_ir (pc := 61) dX12_letterOf_61 rfl (by decide) (by decide) (by unfold ltrOf; repeat' (first | rfl | omega | (rw [if_pos (by omega)]) | (rw [if_neg (by omega)]))) (by first | exact ⟨K, O⟩ | rfl)
    ·
      refine wp_iconst (pc := 16) dX12_letterOf_16 ?_
      refine wp_goto (pc := 17) 61 dX12_letterOf_17 (by decide) ?_
      exact wp_ir (pc := 61) dX12_letterOf_61 rfl (by decide) (by decide) (by unfold ltrOf; repeat' (first | rfl | omega | (rw [if_pos (by omega)]) | (rw [if_neg (by omega)]))) (by first | exact ⟨K, O⟩ | rfl)
  ·
    refine wp_iconst (pc := 6) dX12_letterOf_6 ?_
    refine wp_goto (pc := 7) 61 dX12_letterOf_7 (by decide) ?_
    exact wp_ir (pc := 61) dX12_letterOf_61 rfl (by decide) (by decide) (by unfold ltrOf; repeat' (first | rfl | omega | (rw [if_pos (by omega)]) | (rw [if_neg (by omega)]))) (by first | exact ⟨K, O⟩ | rfl)
theorem thL_dg (h : 48 ≤ nx p ∧ nx p ≤ 57) : thL nx e L p = (true, (nmb nx 3 p 0).1, (nmb nx 3 p 0).2) := by cases L <;> exact if_pos h
theorem thL_is (h : ¬ (48 ≤ nx p ∧ nx p ≤ 57)) (h2 : isT (nx p)) : thL nx e L p = (true, p + 1, e (nx p)) := by cases L <;> exact (if_neg h).trans (if_pos h2)
theorem thL_no (h : ¬ (48 ≤ nx p ∧ nx p ≤ 57)) (h2 : ¬ isT (nx p)) (h3 : ¬ (nx p = 40 ∧ 0 < L)) : thL nx e L p = (false, p, 0) := by
  cases L with
  | zero => exact (if_neg h).trans ((if_neg h2).trans (if_neg fun z => by cases z.2))
  | succ L => exact (if_neg h).trans ((if_neg h2).trans (if_neg fun z => h3 ⟨z.1, by omega⟩))
theorem thL_par (h3 : nx p = 40) : thL nx e (L + 1) p = if (eE nx e L (p + 1)).1 = true ∧ nx (eE nx e L (p + 1)).2.1 = 41 then (true, (eE nx e L (p + 1)).2.1 + 1, (eE nx e L (p + 1)).2.2) else (false, (eE nx e L (p + 1)).2.1, (eE nx e L (p + 1)).2.2) := (if_neg (by omega)).trans ((if_neg (by unfold isT; omega)).trans (if_pos ⟨h3, rfl⟩))
theorem eT_no {T : Nat → ER} (h : ¬ nx p = 45) : eT nx T f p = T p := by cases f <;> first | rfl | exact if_neg h
theorem ltr_in (h : ltrOf x ≠ -1) : isT x := by unfold ltrOf at h; unfold isT; revert h; repeat' split <;> omega
theorem ltr_no (h : ltrOf x = -1) : ¬ isT x := by unfold ltrOf at h; unfold isT; revert h; repeat' split <;> omega
theorem AK_at (h : A 7 0 = e 111 ∧ A 7 1 = e 100 ∧ A 7 2 = e 116 ∧ A 7 3 = e 101 ∧ A 7 4 = e 102 ∧ A 7 5 = e 110) (hx : isT x) : 0 ≤ ltrOf x ∧ ltrOf x < 6 ∧ A 7 (ltrOf x) = e x := by
  obtain ⟨a1, a2, a3, a4, a5, a6⟩ := h
  rcases hx with rfl | rfl | rfl | rfl | rfl | rfl
  · exact ⟨by decide, by decide, a1⟩
  · exact ⟨by decide, by decide, a2⟩
  · exact ⟨by decide, by decide, a3⟩
  · exact ⟨by decide, by decide, a4⟩
  · exact ⟨by decide, by decide, a5⟩
  · exact ⟨by decide, by decide, a6⟩
end MD

