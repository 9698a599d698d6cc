/-! Rule: a text read -/
section RB
variable {g : GT} {hp hp2 : Hp} {R ln p L i : Nat} {cs s : List Int} {nx : Nat → Int} {a dep : Int}
theorem rm_ok {a b mL : Nat} (h : b + 1 ≤ a) (hm : mL ≤ 26) : Rm0 (rm a 0 0) (rm b 0 0) mL 0 0 := ⟨h, by show 8 + (mL + 11) + 45 * b ≤ 45 * a; omega, rfl, rfl, Nat.le_refl _, Nat.le_refl _⟩
abbrev PR : Type := Bool × Nat × List Int
def nmb (nx : Nat → Int) : Nat → Nat → Int → Nat × Int
  | 0, p, v => (p, v)
  | f + 1, p, v => if 48 ≤ nx p ∧ nx p ≤ 57 then nmb nx f (p + 1) (v * 10 + nx p - 48) else (p, v)
def mns (nx : Nat → Int) : Nat → Nat → Bool → Nat × Bool
  | 0, p, b => (p, b)
  | f + 1, p, b => if nx p = 45 then mns nx f (p + 1) (!b) else (p, b)
def pT (nx : Nat → Int) (E : Nat → PR) (dp : Bool) (p : Nat) : PR :=
  if 48 ≤ nx p ∧ nx p ≤ 57 then (true, (nmb nx 3 p 0).1, [(nmb nx 3 p 0).2])
  else if isT (nx p) then (true, p + 1, [-(nx p)])
  else if nx p = 40 ∧ dp = true then (if (E (p + 1)).1 = true ∧ nx (E (p + 1)).2.1 = 41 then (true, (E (p + 1)).2.1 + 1, (E (p + 1)).2.2) else (false, (E (p + 1)).2.1, (E (p + 1)).2.2))
  else (false, p, [])
def pG (nx : Nat → Int) (T : Nat → PR) (p : Nat) : PR := ((T (mns nx 40 p false).1).1, (T (mns nx 40 p false).1).2.1, (T (mns nx 40 p false).1).2.2 ++ if (T (mns nx 40 p false).1).1 = true ∧ (mns nx 40 p false).2 = true then [-126] else [])
/-- one more, joined by the sign c -/
def jnr (c : Int) (r q : PR) : PR := (q.1, q.2.1, r.2.2 ++ q.2.2 ++ if q.1 = true then [-c] else [])
def chn (nx : Nat → Int) (o1 o2 : Int) (P : Nat → PR) : Nat → PR → PR
  | 0, r => r
  | f + 1, r => if r.1 = true ∧ (nx r.2.1 = o1 ∨ nx r.2.1 = o2) then chn nx o1 o2 P f (jnr (nx r.2.1) r (P (r.2.1 + 1))) else r
def pP (nx : Nat → Int) (T : Nat → PR) (p : Nat) : PR := chn nx 42 47 (pG nx T) 40 (pG nx T p)
def pS (nx : Nat → Int) (T : Nat → PR) (p : Nat) : PR := chn nx 43 45 (pP nx T) 40 (pP nx T p)
def pX (nx : Nat → Int) (T : Nat → PR) (p : Nat) : PR := if (pS nx T p).1 = true ∧ (nx (pS nx T p).2.1 = 60 ∨ nx (pS nx T p).2.1 = 62 ∨ nx (pS nx T p).2.1 = 61) then jnr (nx (pS nx T p).2.1) (pS nx T p) (pS nx T ((pS nx T p).2.1 + 1)) else pS nx T p
def pE (nx : Nat → Int) : Nat → Nat → PR
  | 0 => pX nx (pT nx (fun q => (false, q, [])) false)
  | L + 1 => pX nx (pT nx (pE nx L) true)
def pTL (nx : Nat → Int) : Nat → Nat → PR
  | 0 => pT nx (fun q => (false, q, [])) false
  | L + 1 => pT nx (pE nx L) true
theorem pE_eq (nx : Nat → Int) (L : Nat) : pE nx L = pX nx (pTL nx L) := by cases L <;> rfl
theorem chn_stop {o1 o2 : Int} {P : Nat → PR} {r : PR} (h : ¬ (r.1 = true ∧ (nx r.2.1 = o1 ∨ nx r.2.1 = o2))) : ∀ f, chn nx o1 o2 P f r = r
  | 0 => rfl
  | f + 1 => if_neg h
/-- signs that end at ln -/
def NX (nx : Nat → Int) (ln : Nat) : Prop := ln ≤ 40 ∧ ∀ j, (ln ≤ j → nx j = -1) ∧ -1 ≤ nx j ∧ nx j ≤ 255
theorem NX.lt (h : NX nx ln) (hp : nx p ≠ -1) : p < ln := by
  have := (h.2 p).1
  omega
/-- what a reader of signs does -/
def GP (ln : Nat) (P : Nat → PR) : Prop := ∀ p, p ≤ ln → p + (P p).2.2.length ≤ (P p).2.1 ∧ (P p).2.1 ≤ ln ∧ ∀ c ∈ (P p).2.2, okc c
theorem nmb_ok (hn : NX nx ln) (h : 48 ≤ nx p ∧ nx p ≤ 57) : p + 1 ≤ (nmb nx 3 p 0).1 ∧ (nmb nx 3 p 0).1 ≤ ln ∧ 0 ≤ (nmb nx 3 p 0).2 ∧ (nmb nx 3 p 0).2 ≤ 999 := by
  have h0 := hn.lt (p := p)
  have h1 := hn.lt (p := p + 1)
  have h2 := hn.lt (p := p + 1 + 1)
  simp only [nmb, if_pos h]
  repeat' split
  all_goals omega
theorem mns_ok (hn : NX nx ln) : ∀ f p b, p ≤ ln → p ≤ (mns nx f p b).1 ∧ (mns nx f p b).1 ≤ ln ∧ ((mns nx f p b).2 ≠ b → p < (mns nx f p b).1)
  | 0, p, b, h => ⟨Nat.le_refl _, h, fun z => absurd rfl z⟩
  | f + 1, p, b, h => by
    unfold mns
    split
    · rename_i e
      have := mns_ok hn f (p + 1) (!b) (by have := hn.lt (p := p) (by omega); omega)
      exact ⟨by omega, this.2.1, fun _ => by omega⟩
    · exact ⟨Nat.le_refl _, h, fun z => absurd rfl z⟩
theorem GP_T (hn : NX nx ln) {E : Nat → PR} {dp : Bool} (hE : GP ln E) : GP ln (pT nx E dp) := by
  intro p hp
  unfold pT
  split
  · rename_i h
    have := nmb_ok hn h
    exact ⟨by simp; omega, this.2.1, fun c hc => by rw [List.mem_singleton.mp hc]; exact Or.inl ⟨this.2.2.1, this.2.2.2⟩⟩
  · split
    · rename_i h1 h
      have h2 := hn.lt (p := p) (by omega)
      refine ⟨by simp, h2, fun c hc => ?_⟩
      rw [List.mem_singleton.mp hc]
      right; left
      rw [Int.neg_neg]
      exact h
    · split
      · rename_i h1 h2 h
        have h3 := hn.lt (p := p) (by omega)
        have h4 := hE (p + 1) h3
        split
        · rename_i h5
          have h6 := hn.lt (p := (E (p + 1)).2.1) (by omega)
          exact ⟨by show p + (E (p + 1)).2.2.length ≤ (E (p + 1)).2.1 + 1; omega, h6, h4.2.2⟩
        · exact ⟨by show p + (E (p + 1)).2.2.length ≤ (E (p + 1)).2.1; omega, h4.2.1, h4.2.2⟩
      · exact ⟨Nat.le_refl _, hp, fun c hc => by cases hc⟩
theorem GP_G (hn : NX nx ln) {T : Nat → PR} (hT : GP ln T) : GP ln (pG nx T) := by
  intro p hp
  have h1 := mns_ok hn 40 p false hp
  have h2 := hT _ h1.2.1
  unfold pG
  refine ⟨?_, h2.2.1, fun c hc => ?_⟩
  · show p + (_ ++ _ : List Int).length ≤ (T (mns nx 40 p false).1).2.1
    rw [List.length_append]
    split
    · rename_i h3
      have := h1.2.2 (by rw [h3.2]; decide)
      simp only [List.length_singleton]
      omega
    · simp only [List.length_nil]
      omega
  · rcases List.mem_append.mp hc with h3 | h3
    · exact h2.2.2 c h3
    · split at h3
      · rw [List.mem_singleton.mp h3]; exact Or.inr (Or.inr (Or.inl rfl))
      · cases h3
def opc (c : Int) : Prop := c = 43 ∨ c = 45 ∨ c = 42 ∨ c = 47 ∨ c = 60 ∨ c = 62 ∨ c = 61
theorem jnr_ok (hn : NX nx ln) {P : Nat → PR} (hP : GP ln P) {r : PR} (ho : opc (nx r.2.1)) (h : p + r.2.2.length ≤ r.2.1 ∧ r.2.1 ≤ ln ∧ ∀ c ∈ r.2.2, okc c) :
    p + (jnr (nx r.2.1) r (P (r.2.1 + 1))).2.2.length ≤ (jnr (nx r.2.1) r (P (r.2.1 + 1))).2.1 ∧ (jnr (nx r.2.1) r (P (r.2.1 + 1))).2.1 ≤ ln ∧ ∀ c ∈ (jnr (nx r.2.1) r (P (r.2.1 + 1))).2.2, okc c := by
  have h1 := hn.lt (p := r.2.1) (by unfold opc at ho; omega)
  have h2 := hP (r.2.1 + 1) h1
  unfold jnr
  refine ⟨?_, h2.2.1, fun c hc => ?_⟩
  · show p + (_ ++ _ ++ _ : List Int).length ≤ (P (r.2.1 + 1)).2.1
    rw [List.length_append, List.length_append]
    split
    · simp only [List.length_singleton]; omega
    · simp only [List.length_nil]; omega
  · rcases List.mem_append.mp hc with h3 | h3
    · rcases List.mem_append.mp h3 with h3 | h3
      · exact h.2.2 c h3
      · exact h2.2.2 c h3
    · split at h3
      · rw [List.mem_singleton.mp h3]
        right; right; right
        rw [Int.neg_neg]
        exact ho
      · cases h3
theorem chn_ok (hn : NX nx ln) {o1 o2 : Int} (h1 : opc o1) (h2 : opc o2) {P : Nat → PR} (hP : GP ln P) : ∀ (f : Nat) (r : PR), (p + r.2.2.length ≤ r.2.1 ∧ r.2.1 ≤ ln ∧ ∀ c ∈ r.2.2, okc c) → p + (chn nx o1 o2 P f r).2.2.length ≤ (chn nx o1 o2 P f r).2.1 ∧ (chn nx o1 o2 P f r).2.1 ≤ ln ∧ ∀ c ∈ (chn nx o1 o2 P f r).2.2, okc c
  | 0, r, h => h
  | f + 1, r, h => by
    unfold chn
    split
    · rename_i e
      exact chn_ok hn h1 h2 hP f _ (jnr_ok hn hP (by rcases e.2 with z | z <;> rw [z] <;> assumption) h)
    · exact h
theorem GP_P (hn : NX nx ln) {T : Nat → PR} (hT : GP ln T) : GP ln (pP nx T) := fun p hp => chn_ok hn (by unfold opc; omega) (by unfold opc; omega) (GP_G hn hT) 40 _ (GP_G hn hT p hp)
theorem GP_S (hn : NX nx ln) {T : Nat → PR} (hT : GP ln T) : GP ln (pS nx T) := fun p hp => chn_ok hn (by unfold opc; omega) (by unfold opc; omega) (GP_P hn hT) 40 _ (GP_P hn hT p hp)
theorem GP_X (hn : NX nx ln) {T : Nat → PR} (hT : GP ln T) : GP ln (pX nx T) := by
  intro p hp
  unfold pX
  split
  · rename_i e
    exact jnr_ok hn (GP_S hn hT) (by unfold opc; omega) (GP_S hn hT p hp)
  · exact GP_S hn hT p hp
theorem GP_0 : GP ln (fun q => (false, q, [])) := fun p hp => ⟨Nat.le_refl _, hp, fun c hc => by cases hc⟩
theorem GP_E (hn : NX nx ln) : ∀ L, GP ln (pE nx L)
  | 0 => GP_X hn (GP_T hn GP_0)
  | L + 1 => GP_X hn (GP_T hn (GP_E hn L))
theorem GP_L (hn : NX nx ln) : ∀ L, GP ln (pTL nx L)
  | 0 => GP_T hn GP_0
  | L + 1 => GP_T hn (GP_E hn L)
/-- a rule that is being read: signs nx up to ln, at place p, steps cs -/
def RdAt (hp : Hp) (R ln : Nat) (nx : Nat → Int) (p : Nat) (cs : List Int) : Prop := ∃ (Sg St Sk : Int → Int) (s : List Int), hp.2 R = some (robj R ln p cs.length s.length) ∧ hp.2 (R + 1) = some (.inl (.int, 40, Sg)) ∧ hp.2 (R + 2) = some (.inl (.int, 40, St)) ∧ hp.2 (R + 3) = some (.inl (.int, 40, Sk)) ∧ ln ≤ 40 ∧ p ≤ ln ∧ cs.length ≤ p ∧ (∀ j : Nat, j < ln → Sg j = nx j) ∧ (∀ j : Nat, j < cs.length → St j = cs.getD j 0) ∧ s.length ≤ 40 ∧ SkR Sk s
theorem getD_app {cs : List Int} {a : Int} {j : Nat} (h : j < (cs ++ [a]).length) : (cs ++ [a]).getD j 0 = if j = cs.length then a else cs.getD j 0 := by
  simp only [List.length_append, List.length_singleton] at h
  simp only [List.getD]
  by_cases e : j = cs.length
  · rw [if_pos e, e]; simp
  · rw [if_neg e, List.getElem?_append_left (by omega)]
theorem St_app {St : Int → Int} {cs : List Int} {a : Int} (h : ∀ j : Nat, j < cs.length → St j = cs.getD j 0) (j : Nat) (hj : j < (cs ++ [a]).length) : updI St (cs.length : Int) a j = (cs ++ [a]).getD j 0 := by
  rw [getD_app hj]
  by_cases e : j = cs.length
  · rw [e, updI_eq, if_pos rfl]
  · rw [updI_ne (by omega), if_neg e]
    exact h j (by rw [List.length_append, List.length_singleton] at hj; omega)
theorem sp_Rule_next (k : RdAt hp R ln nx p cs) (hn : NX nx ln) : Sp g MX7_next (rm 0 0 0) [.ref R] hp (Pur (.int (I (nx p))) hp) := by
  obtain ⟨Sg, St, Sk, s, r0, r1, r2, r3, hl, hpl, hc, hSg, hSt, hs, hSk⟩ := k
  have h1 := (hn.2 p).1
  refine Sp_mk rfl (Nat.le_of_ble_eq_true rfl) ?_
  show wp g _ _ _ 0 0 0 [some (.ref R)] [] hp
  refine wp_aload_n (pc := 0) dX7_next_0 rfl ?_
  refine wp_getf (pc := 1) dX7_next_1 gf_X7_47 (by repeat (first | assumption | exact hset_eq | refine hset_at (by omega) ?_)) (by rfl) ?_
  refine wp_if_lt (pc := 4) 39 dX7_next_4 (by decide) (by omega) (fun c4 => ?_) (fun c4 => ?_)
  ·
    refine wp_iconst (pc := 39) dX7_next_39 ?_
    exact wp_ir (pc := 40) dX7_next_40 rfl (by decide) (by decide) (by first | exact hSg p (by omega) | omega) rfl
  ·
    refine wp_aload_n (pc := 7) dX7_next_7 rfl ?_
    refine wp_getf (pc := 8) dX7_next_8 gf_X7_47 (by repeat (first | assumption | exact hset_eq | refine hset_at (by omega) ?_)) (by rfl) ?_
    refine wp_aload_n (pc := 11) dX7_next_11 rfl ?_
    refine wp_getf (pc := 12) dX7_next_12 gf_X7_36 (by repeat (first | assumption | exact hset_eq | refine hset_at (by omega) ?_)) (by rfl) ?_
    refine wp_icmp_ge (pc := 15) 39 dX7_next_15 (by decide) (by omega) (by omega) (fun c15 => ?_) (fun c15 => ?_)
    ·
      refine wp_iconst (pc := 39) dX7_next_39 ?_
      exact wp_ir (pc := 40) dX7_next_40 rfl (by decide) (by decide) (by first | exact hSg p (by omega) | omega) rfl
    ·
      refine wp_aload_n (pc := 18) dX7_next_18 rfl ?_
      refine wp_getf (pc := 19) dX7_next_19 gf_X7_47 (by repeat (first | assumption | exact hset_eq | refine hset_at (by omega) ?_)) (by rfl) ?_
      refine wp_bipush (pc := 22) (y := 40) dX7_next_22 (by decide) ?_
      refine wp_icmp_ge (pc := 24) 39 dX7_next_24 (by decide) (by omega) (by omega) (fun c24 => ?_) (fun c24 => ?_)
      ·
        refine wp_iconst (pc := 39) dX7_next_39 ?_
        exact wp_ir (pc := 40) dX7_next_40 rfl (by decide) (by decide) (by first | exact hSg p (by omega) | omega) rfl
      ·
        refine wp_aload_n (pc := 27) dX7_next_27 rfl ?_
        refine wp_getf (pc := 28) dX7_next_28 gf_X7_11 (by repeat (first | assumption | exact hset_eq | refine hset_at (by omega) ?_)) (by rfl) ?_
        refine wp_aload_n (pc := 31) dX7_next_31 rfl ?_
        refine wp_getf (pc := 32) dX7_next_32 gf_X7_47 (by repeat (first | assumption | exact hset_eq | refine hset_at (by omega) ?_)) (by rfl) ?_
        refine wp_iald (pc := 35) dX7_next_35 (by repeat (first | assumption | exact hset_eq | refine hset_at (by omega) ?_)) (by omega) (by omega) (by decide) ?_
        refine wp_goto (pc := 36) 40 dX7_next_36 (by decide) ?_
        exact wp_ir (pc := 40) dX7_next_40 rfl (by decide) (by decide) (by first | exact hSg p (by omega) | omega) rfl
theorem sp_Rule_put (k : RdAt hp R ln nx p cs) (hc : cs.length < p) : Sp g MX7_put (rm 0 0 0) [.ref R, .int (I a)] hp (Eff (.int (B True)) (fun hp2 => RdAt hp2 R ln nx p (cs ++ [a]) ∧ SO hp hp2 R (R + 4))) := by
  obtain ⟨Sg, St, Sk, s, r0, r1, r2, r3, hl, hpl, hc', hSg, hSt, hs, hSk⟩ := k
  refine Sp_mk rfl (Nat.le_of_ble_eq_true rfl) ?_
  show wp g _ _ _ 0 0 0 [some (.ref R), some (.int (I a))] [] hp
  refine wp_aload_n (pc := 0) dX7_put_0 rfl ?_
  refine wp_getf (pc := 1) dX7_put_1 gf_X7_58 (by repeat (first | assumption | exact hset_eq | refine hset_at (by omega) ?_)) (by rfl) ?_
  refine wp_bipush (pc := 4) (y := 40) dX7_put_4 (by decide) ?_
  refine wp_icmp_lt (pc := 6) 11 dX7_put_6 (by decide) (by omega) (by omega) (fun c6 => ?_) (fun c6 => ?_)
  ·
    refine wp_aload_n (pc := 11) dX7_put_11 rfl ?_
    refine wp_getf (pc := 12) dX7_put_12 gf_X7_15 (by repeat (first | assumption | exact hset_eq | refine hset_at (by omega) ?_)) (by rfl) ?_
    refine wp_aload_n (pc := 15) dX7_put_15 rfl ?_
    refine wp_getf (pc := 16) dX7_put_16 gf_X7_58 (by repeat (first | assumption | exact hset_eq | refine hset_at (by omega) ?_)) (by rfl) ?_
    refine wp_iload_n (pc := 19) dX7_put_19 rfl ?_
    refine wp_iast (pc := 20) dX7_put_20 (by repeat (first | assumption | exact hset_eq | refine hset_at (by omega) ?_)) (by omega) (by omega) (by decide) ?_
    refine wp_aload_n (pc := 21) dX7_put_21 rfl ?_
    refine wp_dup (pc := 22) dX7_put_22 rfl ?_
    refine wp_getf (pc := 23) dX7_put_23 gf_X7_58 (by repeat (first | assumption | exact hset_eq | refine hset_at (by omega) ?_)) (by rfl) ?_
    refine wp_iconst (pc := 26) dX7_put_26 ?_
    refine wp_iadd (pc := 27) dX7_put_27 ?_
    refine wp_putf (pc := 28) dX7_put_28 pf_X7_58 (by repeat (first | assumption | exact hset_eq | refine hset_at (by omega) ?_)) (by first | decide | exact Nat.lt_of_sub_pos (by decide) | simp) rfl rfl (by first | decide | intro h; cases h) ?_
    refine wp_iconst (pc := 31) dX7_put_31 ?_
    exact wp_z1 (pc := 32) dX7_put_32 rfl (by decide) (by decide) trivial ⟨⟨Sg, updI St (cs.length : Int) a, Sk, s, by rw [List.length_append]; exact hset_eq, (by repeat (first | assumption | exact hset_eq | refine hset_at (by omega) ?_)), (by repeat (first | assumption | exact hset_eq | refine hset_at (by omega) ?_)), (by repeat (first | assumption | exact hset_eq | refine hset_at (by omega) ?_)), hl, hpl, by rw [List.length_append]; exact hc, hSg, St_app hSt, hs, hSk⟩, (by repeat (first | exact SO.rf | assumption | refine SO.set ?_ (by omega) (by omega)))⟩
  ·
    omega
theorem lp_num (hn : NX nx ln) : ∀ (m i : Nat), 3 < i + m → i ≤ 3 → ∀ (hp2 : Hp) (p' : Nat) (v : Int) (k : RdAt hp2 R ln nx p' cs) (hS : SO hp hp2 R (R + 4)) (he : nmb nx (3 - i) p' v = nmb nx 3 p 0) (hq : cs.length < p' ∨ 48 ≤ nx p' ∧ nx p' ≤ 57 ∧ i = 0), wp g MX7_readNumber (rm 1 0 0) (Eff (.int (B True)) (fun hp2 => RdAt hp2 R ln nx (nmb nx 3 p 0).1 (cs ++ [(nmb nx 3 p 0).2]) ∧ SO hp hp2 R (R + 4))) 0 0 4 [some (.ref R), some (.int (I v)), some (.int (I (i : Int)))] [] hp2 := by
  intro m
  induction m with
  | zero => intro i h1 h2; exact absurd h1 (by omega)
  | succ m ih =>
    intro i h1 h2 hp2 p' v k hS he hq
    have k' := k
    obtain ⟨Sg, St, Sk, s, r0, r1, r2, r3, hl, hpl, hc', hSg, hSt, hs, hSk⟩ := k
    have hr := (hn.2 p').2
    refine wp_iload_n (pc := 4) dX7_readNumber_4 rfl ?_
    refine wp_iconst (pc := 5) dX7_readNumber_5 ?_
    refine wp_icmp_ge (pc := 6) 48 dX7_readNumber_6 (by decide) (by omega) (by omega) (fun c6 => ?_) (fun c6 => ?_)
    ·
      have hx : nmb nx 3 p 0 = (p', v) := by rw [← he, show 3 - i = 0 by omega]; rfl
      rw [hx] -- go
      refine wp_aload_n (pc := 48) dX7_readNumber_48 rfl ?_
      refine wp_iload_n (pc := 49) dX7_readNumber_49 rfl ?_
      refine wp_Vs (pc := 50) dX7_readNumber_50 cl_X7_71 (sp_Rule_put k' (by omega)) rfl rfl (by repeat (first | assumption | exact hset_eq | refine hset_at (by omega) ?_)) (by rfl) (by decide) (Nat.le_of_ble_eq_true rfl) (fun hp50 e50 => ?_)
      first | exact wp_z1 (pc := 53) dX7_readNumber_53 rfl (by decide) (by decide) (by omega) ⟨e50.1, hS.tr e50.2⟩ | exact wp_z0 (pc := 53) dX7_readNumber_53 rfl (by decide) (by decide) (by omega) ⟨e50.1, hS.tr e50.2⟩ | exact wp_zb (pc := 53) dX7_readNumber_53 rfl (by decide) (by decide) Iff.rfl ⟨e50.1, hS.tr e50.2⟩
    ·
      refine wp_aload_n (pc := 9) dX7_readNumber_9 rfl ?_
      refine wp_Vp (pc := 10) dX7_readNumber_10 cl_X7_68 (sp_Rule_next k' hn) rfl rfl (by repeat (first | assumption | exact hset_eq | refine hset_at (by omega) ?_)) (by rfl) (by decide) (Nat.le_of_ble_eq_true rfl) ?_
      refine wp_Sp (pc := 13) dX7_readNumber_13 cl_X7_83 (sp_D_isDigit (by first | assumption | omega)) rfl rfl (by decide) (Nat.le_of_ble_eq_true rfl) ?_
      first | refine wp_ifb_eq (pc := 16) 48 dX7_readNumber_16 (by decide) (fun c16 => ?_) (fun c16 => ?_) | refine wp_if_eq (pc := 16) 48 dX7_readNumber_16 (by decide) (by omega) (fun c16 => ?_) (fun c16 => ?_)
      ·
        have hx : nmb nx 3 p 0 = (p', v) := by rw [← he, show 3 - i = (2 - i) + 1 by omega]; exact if_neg c16
        rw [hx] -- go
        refine wp_aload_n (pc := 48) dX7_readNumber_48 rfl ?_
        refine wp_iload_n (pc := 49) dX7_readNumber_49 rfl ?_
        refine wp_Vs (pc := 50) dX7_readNumber_50 cl_X7_71 (sp_Rule_put k' (by omega)) rfl rfl (by repeat (first | assumption | exact hset_eq | refine hset_at (by omega) ?_)) (by rfl) (by decide) (Nat.le_of_ble_eq_true rfl) (fun hp50 e50 => ?_)
        first | exact wp_z1 (pc := 53) dX7_readNumber_53 rfl (by decide) (by decide) (by omega) ⟨e50.1, hS.tr e50.2⟩ | exact wp_z0 (pc := 53) dX7_readNumber_53 rfl (by decide) (by decide) (by omega) ⟨e50.1, hS.tr e50.2⟩ | exact wp_zb (pc := 53) dX7_readNumber_53 rfl (by decide) (by decide) Iff.rfl ⟨e50.1, hS.tr e50.2⟩
      ·
        refine wp_iload_n (pc := 19) dX7_readNumber_19 rfl ?_
        refine wp_bipush (pc := 20) (y := 10) dX7_readNumber_20 (by decide) ?_
        refine wp_imul (pc := 22) dX7_readNumber_22 ?_
        refine wp_aload_n (pc := 23) dX7_readNumber_23 rfl ?_
        refine wp_Vp (pc := 24) dX7_readNumber_24 cl_X7_68 (sp_Rule_next k' hn) rfl rfl (by repeat (first | assumption | exact hset_eq | refine hset_at (by omega) ?_)) (by rfl) (by decide) (Nat.le_of_ble_eq_true rfl) ?_
        refine wp_iadd (pc := 27) dX7_readNumber_27 ?_
        refine wp_bipush (pc := 28) (y := 48) dX7_readNumber_28 (by decide) ?_
        refine wp_isub (pc := 30) dX7_readNumber_30 ?_
        refine wp_istore_n (pc := 31) dX7_readNumber_31 (by decide) ?_
        refine wp_aload_n (pc := 32) dX7_readNumber_32 rfl ?_
        refine wp_dup (pc := 33) dX7_readNumber_33 rfl ?_
        refine wp_getf (pc := 34) dX7_readNumber_34 gf_X7_47 (by repeat (first | assumption | exact hset_eq | refine hset_at (by omega) ?_)) (by rfl) ?_
        refine wp_iconst (pc := 37) dX7_readNumber_37 ?_
        refine wp_iadd (pc := 38) dX7_readNumber_38 ?_
        refine wp_putf (pc := 39) dX7_readNumber_39 pf_X7_47 (by repeat (first | assumption | exact hset_eq | refine hset_at (by omega) ?_)) (by first | decide | exact Nat.lt_of_sub_pos (by decide) | simp) rfl rfl (by first | decide | intro h; cases h) ?_
        refine wp_iinc (pc := 42) dX7_readNumber_42 rfl (by decide) ?_
        refine wp_goto (pc := 45) 4 dX7_readNumber_45 (by decide) ?_
        have h1 := hn.lt (p := p') (by omega)
        have h2 : nmb nx (3 - (i + 1)) (p' + 1) (v * 10 + nx p' - 48) = nmb nx 3 p 0 := by rw [← he, show 3 - i = (3 - (i + 1)) + 1 by omega]; exact (if_pos c16).symm
        refine wp_ls ?_ (ih (i + 1) (by omega) (by omega) _ (p' + 1) _ ⟨Sg, St, Sk, s, hset_eq, (by repeat (first | assumption | exact hset_eq | refine hset_at (by omega) ?_)), (by repeat (first | assumption | exact hset_eq | refine hset_at (by omega) ?_)), (by repeat (first | assumption | exact hset_eq | refine hset_at (by omega) ?_)), hl, h1, by omega, hSg, hSt, hs, hSk⟩ (hS.tr (by repeat (first | exact SO.rf | assumption | refine SO.set ?_ (by omega) (by omega)))) h2 (by omega))
        repeat' (first | exact LE_0 | refine LE_s rfl ?_ | refine LE_s (I_c (by first | omega | (simp only [sm]; omega))) ?_ | refine LE_s (J_c (by first | omega | exact Int.pow_succ _ _ | exact (Int.pow_succ _ _).symm | exact (Int.pow_zero _).symm | (simp only [sm]; omega))) ?_ | refine LE_n ?_)
theorem sp_Rule_readNumber (k : RdAt hp R ln nx p cs) (hn : NX nx ln) (hd : 48 ≤ nx p ∧ nx p ≤ 57) : Sp g MX7_readNumber (rm 1 0 0) [.ref R] hp (Eff (.int (B True)) (fun hp2 => RdAt hp2 R ln nx (nmb nx 3 p 0).1 (cs ++ [(nmb nx 3 p 0).2]) ∧ SO hp hp2 R (R + 4))) := by
  refine Sp_mk rfl (Nat.le_of_ble_eq_true rfl) ?_
  show wp g _ _ _ 0 0 0 [some (.ref R), none, none] [] hp
  refine wp_iconst (pc := 0) dX7_readNumber_0 ?_
  refine wp_istore_n (pc := 1) dX7_readNumber_1 (by decide) ?_
  refine wp_iconst (pc := 2) dX7_readNumber_2 ?_
  refine wp_istore_n (pc := 3) dX7_readNumber_3 (by decide) ?_
  refine wp_ls ?_ (lp_num hn 4 0 (by omega) (by omega) hp p 0 k SO.rf rfl (by omega))
  repeat' (first | exact LE_0 | refine LE_s rfl ?_ | refine LE_s (I_c (by first | omega | (simp only [sm]; omega))) ?_ | refine LE_s (J_c (by first | omega | exact Int.pow_succ _ _ | exact (Int.pow_succ _ _).symm | exact (Int.pow_zero _).symm | (simp only [sm]; omega))) ?_ | refine LE_n ?_)
/-- the contract of a reader -/
def RdE (g : GT) (R ln : Nat) (nx : Nat → Int) (M : MI) (d : Nat) (P : Nat → PR) (dep : Int) : Prop := ∀ (hp : Hp) (p : Nat) (cs : List Int), RdAt hp R ln nx p cs → Sp g M (rm d 0 0) [.ref R, .int (I dep)] hp (Eff (.int (B ((P p).1 = true))) (fun hp2 => RdAt hp2 R ln nx (P p).2.1 (cs ++ (P p).2.2) ∧ SO hp hp2 R (R + 4)))
theorem pTL_dg (h : 48 ≤ nx p ∧ nx p ≤ 57) : pTL nx L p = (true, (nmb nx 3 p 0).1, [(nmb nx 3 p 0).2]) := by cases L <;> exact if_pos h
theorem pTL_is (h : ¬ (48 ≤ nx p ∧ nx p ≤ 57)) (h2 : isT (nx p)) : pTL nx L p = (true, p + 1, [-(nx p)]) := by cases L <;> exact (if_neg h).trans (if_pos h2)
theorem pTL_no (h : ¬ (48 ≤ nx p ∧ nx p ≤ 57)) (h2 : ¬ isT (nx p)) (h3 : ¬ (nx p = 40 ∧ 0 < L)) : pTL nx L p = (false, p, []) := by
  cases L with
  | zero => exact (if_neg h).trans ((if_neg h2).trans (if_neg fun z => by cases z.2))
  | succ L => exact (if_neg h).trans ((if_neg h2).trans (if_neg fun z => h3 ⟨z.1, by omega⟩))
theorem pTL_par (h3 : nx p = 40) : pTL nx (L + 1) p = if (pE nx L (p + 1)).1 = true ∧ nx (pE nx L (p + 1)).2.1 = 41 then (true, (pE nx L (p + 1)).2.1 + 1, (pE nx L (p + 1)).2.2) else (false, (pE nx L (p + 1)).2.1, (pE nx L (p + 1)).2.2) := (if_neg (by omega)).trans ((if_neg (by omega)).trans (if_pos ⟨h3, rfl⟩))
theorem sp_Rule_readThing (hn : NX nx ln) (hL : dep = 4 - (L : Int)) (h0 : 0 ≤ dep) (hE : ∀ L', L = L' + 1 → RdE g R ln nx MX7_readExpression (5 * L' + 10) (pE nx L') (dep + 1)) (k : RdAt hp R ln nx p cs) : Sp g MX7_readThing (rm (5*L+6) 0 0) [.ref R, .int (I dep)] hp (Eff (.int (B ((pTL nx L p).1 = true))) (fun hp2 => RdAt hp2 R ln nx (pTL nx L p).2.1 (cs ++ (pTL nx L p).2.2) ∧ SO hp hp2 R (R + 4))) := by
  have k' := k
  obtain ⟨Sg, St, Sk, s, r0, r1, r2, r3, hl, hpl, hc', hSg, hSt, hs, hSk⟩ := k
  have hr := (hn.2 p).2
  have hlt := hn.lt (p := p)
  refine Sp_mk rfl (Nat.le_of_ble_eq_true rfl) ?_
  show wp g _ _ _ 0 0 0 [some (.ref R), some (.int (I dep)), none] [] hp
  refine wp_aload_n (pc := 0) dX7_readThing_0 rfl ?_
  refine wp_Vp (pc := 1) dX7_readThing_1 cl_X7_68 (sp_Rule_next k' hn) rfl rfl (by repeat (first | assumption | exact hset_eq | refine hset_at (by omega) ?_)) (by rfl) (rm_ok (by omega) (by decide)) (Nat.le_of_ble_eq_true rfl) ?_
  refine wp_istore_n (pc := 4) dX7_readThing_4 (by decide) ?_
  refine wp_iload_n (pc := 5) dX7_readThing_5 rfl ?_
  refine wp_Sp (pc := 6) dX7_readThing_6 cl_X7_83 (sp_D_isDigit (by first | assumption | omega)) rfl rfl (rm_ok (by omega) (by decide)) (Nat.le_of_ble_eq_true rfl) ?_
  first | refine wp_ifb_eq (pc := 9) 17 dX7_readThing_9 (by decide) (fun c9 => ?_) (fun c9 => ?_) | refine wp_if_eq (pc := 9) 17 dX7_readThing_9 (by decide) (by omega) (fun c9 => ?_) (fun c9 => ?_)
  ·
    refine wp_iload_n (pc := 17) dX7_readThing_17 rfl ?_
    refine wp_Sp (pc := 18) dX7_readThing_18 cl_X7_89 (sp_Rule_isThing (by first | assumption | omega)) rfl rfl (rm_ok (by omega) (by decide)) (Nat.le_of_ble_eq_true rfl) ?_
    first | refine wp_ifb_eq (pc := 21) 41 dX7_readThing_21 (by decide) (fun c21 => ?_) (fun c21 => ?_) | refine wp_if_eq (pc := 21) 41 dX7_readThing_21 (by decide) (by omega) (fun c21 => ?_) (fun c21 => ?_)
    ·
      refine wp_iload_n (pc := 41) dX7_readThing_41 rfl ?_
      refine wp_bipush (pc := 42) (y := 40) dX7_readThing_42 (by decide) ?_
      refine wp_icmp_ne (pc := 44) 52 dX7_readThing_44 (by decide) (by omega) (by omega) (fun c44 => ?_) (fun c44 => ?_)
      ·
        rw [pTL_no c9 c21 (fun z => c44 z.1)] -- go
        refine wp_iconst (pc := 52) dX7_readThing_52 ?_
        first | exact wp_z1 (pc := 53) dX7_readThing_53 rfl (Nat.le_refl 0) (Nat.le_refl 0) (by first | rfl | (intro h; cases h)) ⟨by simpa using k', SO.rf⟩ | exact wp_z0 (pc := 53) dX7_readThing_53 rfl (Nat.le_refl 0) (Nat.le_refl 0) (by first | rfl | (intro h; cases h)) ⟨by simpa using k', SO.rf⟩ | exact wp_zb (pc := 53) dX7_readThing_53 rfl (Nat.le_refl 0) (Nat.le_refl 0) ⟨fun _ => rfl, fun _ => trivial⟩ ⟨by simpa using k', SO.rf⟩
      ·
        refine wp_iload_n (pc := 47) dX7_readThing_47 rfl ?_
        refine wp_iconst (pc := 48) dX7_readThing_48 ?_
        refine wp_icmp_lt (pc := 49) 54 dX7_readThing_49 (by decide) (by omega) (by omega) (fun c49 => ?_) (fun c49 => ?_)
        ·
          obtain ⟨L', rfl⟩ : ∃ L', L = L' + 1 := ⟨L - 1, by omega⟩
          rw [pTL_par c44] -- go
          refine wp_aload_n (pc := 54) dX7_readThing_54 rfl ?_
          refine wp_dup (pc := 55) dX7_readThing_55 rfl ?_
          refine wp_getf (pc := 56) dX7_readThing_56 gf_X7_47 (by repeat (first | assumption | exact hset_eq | refine hset_at (by omega) ?_)) (by rfl) ?_
          refine wp_iconst (pc := 59) dX7_readThing_59 ?_
          refine wp_iadd (pc := 60) dX7_readThing_60 ?_
          refine wp_putf (pc := 61) dX7_readThing_61 pf_X7_47 (by repeat (first | assumption | exact hset_eq | refine hset_at (by omega) ?_)) (by first | decide | exact Nat.lt_of_sub_pos (by decide) | simp) rfl rfl (by first | decide | intro h; cases h) ?_
          refine wp_aload_n (pc := 64) dX7_readThing_64 rfl ?_
          refine wp_iload_n (pc := 65) dX7_readThing_65 rfl ?_
          refine wp_iconst (pc := 66) dX7_readThing_66 ?_
          refine wp_iadd (pc := 67) dX7_readThing_67 ?_
          refine wp_Vs (pc := 68) dX7_readThing_68 cl_X7_61 (hE _ rfl _ (p + 1) cs ⟨Sg, St, Sk, s, hset_eq, (by repeat (first | assumption | exact hset_eq | refine hset_at (by omega) ?_)), (by repeat (first | assumption | exact hset_eq | refine hset_at (by omega) ?_)), (by repeat (first | assumption | exact hset_eq | refine hset_at (by omega) ?_)), hl, hlt (by omega), by omega, hSg, hSt, hs, hSk⟩) rfl rfl (by repeat (first | assumption | exact hset_eq | refine hset_at (by omega) ?_)) (by rfl) (rm_ok (by omega) (by decide)) (Nat.le_of_ble_eq_true rfl) (fun hp68 e68 => ?_)
          obtain ⟨k2, s2⟩ := e68
          have k2' := k2
          obtain ⟨Sg2, St2, Sk2, s2', q0, q1, q2, q3, ql, qpl, qc, qSg, qSt, qs, qSk⟩ := k2
          have s3 : SO hp hp68 R (R + 4) := SO.tr (by repeat (first | exact SO.rf | assumption | refine SO.set ?_ (by omega) (by omega))) s2
          have hr2 := (hn.2 (pE nx L' (p + 1)).2.1).2
          have hlt2 := hn.lt (p := (pE nx L' (p + 1)).2.1)
          first | refine wp_ifb_eq (pc := 71) 83 dX7_readThing_71 (by decide) (fun c71 => ?_) (fun c71 => ?_) | refine wp_if_eq (pc := 71) 83 dX7_readThing_71 (by decide) (by omega) (fun c71 => ?_) (fun c71 => ?_)
          ·
            rw [if_neg (fun z => c71 z.1)] -- go
            refine wp_iconst (pc := 83) dX7_readThing_83 ?_
            first | exact wp_z1 (pc := 84) dX7_readThing_84 rfl (Nat.le_refl 0) (Nat.le_refl 0) (by first | rfl | (intro h; cases h)) ⟨k2', s3⟩ | exact wp_z0 (pc := 84) dX7_readThing_84 rfl (Nat.le_refl 0) (Nat.le_refl 0) (by first | rfl | (intro h; cases h)) ⟨k2', s3⟩ | exact wp_zb (pc := 84) dX7_readThing_84 rfl (Nat.le_refl 0) (Nat.le_refl 0) ⟨fun _ => rfl, fun _ => trivial⟩ ⟨k2', s3⟩
          ·
            refine wp_aload_n (pc := 74) dX7_readThing_74 rfl ?_
            refine wp_Vp (pc := 75) dX7_readThing_75 cl_X7_68 (sp_Rule_next k2' hn) rfl rfl (by repeat (first | assumption | exact hset_eq | refine hset_at (by omega) ?_)) (by rfl) (rm_ok (by omega) (by decide)) (Nat.le_of_ble_eq_true rfl) ?_
            refine wp_bipush (pc := 78) (y := 41) dX7_readThing_78 (by decide) ?_
            refine wp_icmp_eq (pc := 80) 85 dX7_readThing_80 (by decide) (by omega) (by omega) (fun c80 => ?_) (fun c80 => ?_)
            ·
              rw [if_pos ⟨c71, c80⟩] -- go
              refine wp_aload_n (pc := 85) dX7_readThing_85 rfl ?_
              refine wp_dup (pc := 86) dX7_readThing_86 rfl ?_
              refine wp_getf (pc := 87) dX7_readThing_87 gf_X7_47 (by repeat (first | assumption | exact hset_eq | refine hset_at (by omega) ?_)) (by rfl) ?_
              refine wp_iconst (pc := 90) dX7_readThing_90 ?_
              refine wp_iadd (pc := 91) dX7_readThing_91 ?_
              refine wp_putf (pc := 92) dX7_readThing_92 pf_X7_47 (by repeat (first | assumption | exact hset_eq | refine hset_at (by omega) ?_)) (by first | decide | exact Nat.lt_of_sub_pos (by decide) | simp) rfl rfl (by first | decide | intro h; cases h) ?_
              refine wp_iconst (pc := 95) dX7_readThing_95 ?_
              first | exact wp_z1 (pc := 96) dX7_readThing_96 rfl (Nat.le_refl 0) (Nat.le_refl 0) (by first | rfl | (intro h; cases h)) ⟨⟨Sg2, St2, Sk2, s2', hset_eq, (by repeat (first | assumption | exact hset_eq | refine hset_at (by omega) ?_)), (by repeat (first | assumption | exact hset_eq | refine hset_at (by omega) ?_)), (by repeat (first | assumption | exact hset_eq | refine hset_at (by omega) ?_)), ql, hlt2 (by omega), Nat.le_succ_of_le qc, qSg, qSt, qs, qSk⟩, s3.tr (by repeat (first | exact SO.rf | assumption | refine SO.set ?_ (by omega) (by omega)))⟩ | exact wp_z0 (pc := 96) dX7_readThing_96 rfl (Nat.le_refl 0) (Nat.le_refl 0) (by first | rfl | (intro h; cases h)) ⟨⟨Sg2, St2, Sk2, s2', hset_eq, (by repeat (first | assumption | exact hset_eq | refine hset_at (by omega) ?_)), (by repeat (first | assumption | exact hset_eq | refine hset_at (by omega) ?_)), (by repeat (first | assumption | exact hset_eq | refine hset_at (by omega) ?_)), ql, hlt2 (by omega), Nat.le_succ_of_le qc, qSg, qSt, qs, qSk⟩, s3.tr (by repeat (first | exact SO.rf | assumption | refine SO.set ?_ (by omega) (by omega)))⟩ | exact wp_zb (pc := 96) dX7_readThing_96 rfl (Nat.le_refl 0) (Nat.le_refl 0) ⟨fun _ => rfl, fun _ => trivial⟩ ⟨⟨Sg2, St2, Sk2, s2', hset_eq, (by repeat (first | assumption | exact hset_eq | refine hset_at (by omega) ?_)), (by repeat (first | assumption | exact hset_eq | refine hset_at (by omega) ?_)), (by repeat (first | assumption | exact hset_eq | refine hset_at (by omega) ?_)), ql, hlt2 (by omega), Nat.le_succ_of_le qc, qSg, qSt, qs, qSk⟩, s3.tr (by repeat (first | exact SO.rf | assumption | refine SO.set ?_ (by omega) (by omega)))⟩
            ·
              rw [if_neg (fun z => c80 z.2)] -- go
              refine wp_iconst (pc := 83) dX7_readThing_83 ?_
              first | exact wp_z1 (pc := 84) dX7_readThing_84 rfl (Nat.le_refl 0) (Nat.le_refl 0) (by first | rfl | (intro h; cases h)) ⟨k2', s3⟩ | exact wp_z0 (pc := 84) dX7_readThing_84 rfl (Nat.le_refl 0) (Nat.le_refl 0) (by first | rfl | (intro h; cases h)) ⟨k2', s3⟩ | exact wp_zb (pc := 84) dX7_readThing_84 rfl (Nat.le_refl 0) (Nat.le_refl 0) ⟨fun _ => rfl, fun _ => trivial⟩ ⟨k2', s3⟩
        ·
          rw [pTL_no c9 c21 (fun z => by omega)] -- go
          refine wp_iconst (pc := 52) dX7_readThing_52 ?_
          first | exact wp_z1 (pc := 53) dX7_readThing_53 rfl (Nat.le_refl 0) (Nat.le_refl 0) (by first | rfl | (intro h; cases h)) ⟨by simpa using k', SO.rf⟩ | exact wp_z0 (pc := 53) dX7_readThing_53 rfl (Nat.le_refl 0) (Nat.le_refl 0) (by first | rfl | (intro h; cases h)) ⟨by simpa using k', SO.rf⟩ | exact wp_zb (pc := 53) dX7_readThing_53 rfl (Nat.le_refl 0) (Nat.le_refl 0) ⟨fun _ => rfl, fun _ => trivial⟩ ⟨by simpa using k', SO.rf⟩
    ·
      rw [pTL_is c9 c21] -- go
      refine wp_aload_n (pc := 24) dX7_readThing_24 rfl ?_
      refine wp_dup (pc := 25) dX7_readThing_25 rfl ?_
      refine wp_getf (pc := 26) dX7_readThing_26 gf_X7_47 (by repeat (first | assumption | exact hset_eq | refine hset_at (by omega) ?_)) (by rfl) ?_
      refine wp_iconst (pc := 29) dX7_readThing_29 ?_
      refine wp_iadd (pc := 30) dX7_readThing_30 ?_
      refine wp_putf (pc := 31) dX7_readThing_31 pf_X7_47 (by repeat (first | assumption | exact hset_eq | refine hset_at (by omega) ?_)) (by first | decide | exact Nat.lt_of_sub_pos (by decide) | simp) rfl rfl (by first | decide | intro h; cases h) ?_
      refine wp_aload_n (pc := 34) dX7_readThing_34 rfl ?_
      refine wp_iload_n (pc := 35) dX7_readThing_35 rfl ?_
      refine wp_ineg (pc := 36) dX7_readThing_36 ?_
      refine wp_Vs (pc := 37) dX7_readThing_37 cl_X7_71 (sp_Rule_put (p := p + 1) ⟨Sg, St, Sk, s, hset_eq, (by repeat (first | assumption | exact hset_eq | refine hset_at (by omega) ?_)), (by repeat (first | assumption | exact hset_eq | refine hset_at (by omega) ?_)), (by repeat (first | assumption | exact hset_eq | refine hset_at (by omega) ?_)), hl, hlt (by omega), by omega, hSg, hSt, hs, hSk⟩ (by omega)) rfl rfl (by repeat (first | assumption | exact hset_eq | refine hset_at (by omega) ?_)) (by rfl) (rm_ok (by omega) (by decide)) (Nat.le_of_ble_eq_true rfl) (fun hp37 e37 => ?_)
      first | exact wp_z1 (pc := 40) dX7_readThing_40 rfl (Nat.le_refl 0) (Nat.le_refl 0) (by first | rfl | (intro h; cases h)) ⟨e37.1, SO.tr (by repeat (first | exact SO.rf | assumption | refine SO.set ?_ (by omega) (by omega))) e37.2⟩ | exact wp_z0 (pc := 40) dX7_readThing_40 rfl (Nat.le_refl 0) (Nat.le_refl 0) (by first | rfl | (intro h; cases h)) ⟨e37.1, SO.tr (by repeat (first | exact SO.rf | assumption | refine SO.set ?_ (by omega) (by omega))) e37.2⟩ | exact wp_zb (pc := 40) dX7_readThing_40 rfl (Nat.le_refl 0) (Nat.le_refl 0) ⟨fun _ => rfl, fun _ => trivial⟩ ⟨e37.1, SO.tr (by repeat (first | exact SO.rf | assumption | refine SO.set ?_ (by omega) (by omega))) e37.2⟩
  ·
    rw [pTL_dg c9] -- go
    refine wp_aload_n (pc := 12) dX7_readThing_12 rfl ?_
    refine wp_Vs (pc := 13) dX7_readThing_13 cl_X7_86 (sp_Rule_readNumber k' hn c9) rfl rfl (by repeat (first | assumption | exact hset_eq | refine hset_at (by omega) ?_)) (by rfl) (rm_ok (by omega) (by decide)) (Nat.le_of_ble_eq_true rfl) (fun hp13 e13 => ?_)
    first | exact wp_z1 (pc := 16) dX7_readThing_16 rfl (Nat.le_refl 0) (Nat.le_refl 0) (by first | rfl | (intro h; cases h)) e13 | exact wp_z0 (pc := 16) dX7_readThing_16 rfl (Nat.le_refl 0) (Nat.le_refl 0) (by first | rfl | (intro h; cases h)) e13 | exact wp_zb (pc := 16) dX7_readThing_16 rfl (Nat.le_refl 0) (Nat.le_refl 0) ⟨fun _ => rfl, fun _ => trivial⟩ e13
end RB

