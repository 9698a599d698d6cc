section MO
variable {g : GT} {M : MI} {R : Room} {Q : Option Value → Hp → Prop} {k n pc : Nat} {ls : List (Option Value)} {st : List Value} {hp : Hp}
abbrev Pur (v : Value) (hp : Hp) : Option Value → Hp → Prop := fun r hp' => r = some v ∧ hp' = hp
abbrev Eff (v : Value) (P : Hp → Prop) : Option Value → Hp → Prop := fun r hp' => r = some v ∧ P hp'
abbrev Vod (P : Hp → Prop) : Option Value → Hp → Prop := fun r hp' => r = none ∧ P hp'
abbrev Rm0 (R R' : Room) (mL k n : Nat) : Prop := R'.frames + 1 ≤ R.frames ∧ 8 + (mL + 11) + R'.locals ≤ R.locals ∧ R'.cells = 0 ∧ R'.slots = 0 ∧ k ≤ R.cells ∧ n ≤ R.slots
theorem Rm0.ok {R' : Room} {mL : Nat} (h : Rm0 R R' mL k n) : RmOk R R' mL k n := ⟨h.1, h.2.1, by rw [h.2.2.1]; exact h.2.2.2.2.1, by rw [h.2.2.2.1]; exact h.2.2.2.2.2⟩
theorem Rm0_k {R' : Room} {mL : Nat} (h : Rm0 R R' mL k n) : k + R'.cells = k := by rw [h.2.2.1]; rfl
theorem Rm0_n {R' : Room} {mL : Nat} (h : Rm0 R R' mL k n) : n + R'.slots = n := by rw [h.2.2.2.1]; rfl
theorem wp_Vp {M' : MI} {R' : Room} {as : List Value} {a idx ci : Nat} {fs : List Value} {x : Value} (d : decode M.2.1 pc = .ok (.invokevirtual idx, 3)) {j : Nat} (G : CV M.1.cls idx M' j) (S : Sp g M' R' (.ref a :: as) hp (Pur x hp)) {st0 : List Value} (hs0 : st0 = as.reverse ++ .ref a :: st) (hj : as.length = j) (ho : hp.2 a = some (.inr (.inr (ci, fs)))) (hci : (classes[ci]?).map (fun r => r.1) = some M'.1.cls) (hR : Rm0 R R' M'.2.2.1 k n) (hst : (st.map fun v => v.category).sum ≤ 8)
    (h : wp g M R Q k n (pc + 3) ls (x :: st) hp) : wp g M R Q k n pc ls st0 hp := by
  subst hj
  refine wp_callV d G ho hci S (Rm0.ok hR) hst hs0 ?_
  intro v hp' hv
  obtain ⟨rfl, rfl⟩ := hv
  rw [Rm0_k hR, Rm0_n hR]
  exact h
theorem wp_Vs {M' : MI} {R' : Room} {as : List Value} {a idx ci : Nat} {fs : List Value} {x : Value} {P : Hp → Prop} (d : decode M.2.1 pc = .ok (.invokevirtual idx, 3)) {j : Nat} (G : CV M.1.cls idx M' j) (S : Sp g M' R' (.ref a :: as) hp (Eff x P)) {st0 : List Value} (hs0 : st0 = as.reverse ++ .ref a :: st) (hj : as.length = j) (ho : hp.2 a = some (.inr (.inr (ci, fs)))) (hci : (classes[ci]?).map (fun r => r.1) = some M'.1.cls) (hR : Rm0 R R' M'.2.2.1 k n) (hst : (st.map fun v => v.category).sum ≤ 8)
    (h : ∀ hp', P hp' → wp g M R Q k n (pc + 3) ls (x :: st) hp') : wp g M R Q k n pc ls st0 hp := by
  subst hj
  refine wp_callV d G ho hci S (Rm0.ok hR) hst hs0 ?_
  intro v hp' hv
  obtain ⟨rfl, hP⟩ := hv
  rw [Rm0_k hR, Rm0_n hR]
  exact h hp' hP
theorem wp_Vn {M' : MI} {R' : Room} {as : List Value} {a idx ci : Nat} {fs : List Value} {P : Hp → Prop} (d : decode M.2.1 pc = .ok (.invokevirtual idx, 3)) {j : Nat} (G : CV M.1.cls idx M' j) (S : Sp g M' R' (.ref a :: as) hp (Vod P)) {st0 : List Value} (hs0 : st0 = as.reverse ++ .ref a :: st) (hj : as.length = j) (ho : hp.2 a = some (.inr (.inr (ci, fs)))) (hci : (classes[ci]?).map (fun r => r.1) = some M'.1.cls) (hR : Rm0 R R' M'.2.2.1 k n) (hst : (st.map fun v => v.category).sum ≤ 8)
    (h : ∀ hp', P hp' → wp g M R Q k n (pc + 3) ls st hp') : wp g M R Q k n pc ls st0 hp := by
  subst hj
  refine wp_callV d G ho hci S (Rm0.ok hR) hst hs0 ?_
  intro v hp' hv
  obtain ⟨rfl, hP⟩ := hv
  rw [Rm0_k hR, Rm0_n hR]
  exact h hp' hP
theorem wp_Sp {M' : MI} {R' : Room} {as : List Value} {idx : Nat} {x : Value} (d : decode M.2.1 pc = .ok (.invokestatic idx, 3)) {j : Nat} (G : CS M.1.cls idx M' j) (S : Sp g M' R' as hp (Pur x hp)) {st0 : List Value} (hs0 : st0 = as.reverse ++ st) (hj : as.length = j) (hR : Rm0 R R' M'.2.2.1 k n) (hst : (st.map fun v => v.category).sum ≤ 8)
    (h : wp g M R Q k n (pc + 3) ls (x :: st) hp) : wp g M R Q k n pc ls st0 hp := by
  subst hj
  refine wp_callS d G S (Rm0.ok hR) hst hs0 ?_
  intro v hp' hv
  obtain ⟨rfl, rfl⟩ := hv
  rw [Rm0_k hR, Rm0_n hR]
  exact h
theorem wp_Ss {M' : MI} {R' : Room} {as : List Value} {idx : Nat} {x : Value} {P : Hp → Prop} (d : decode M.2.1 pc = .ok (.invokestatic idx, 3)) {j : Nat} (G : CS M.1.cls idx M' j) (S : Sp g M' R' as hp (Eff x P)) {st0 : List Value} (hs0 : st0 = as.reverse ++ st) (hj : as.length = j) (hR : Rm0 R R' M'.2.2.1 k n) (hst : (st.map fun v => v.category).sum ≤ 8)
    (h : ∀ hp', P hp' → wp g M R Q k n (pc + 3) ls (x :: st) hp') : wp g M R Q k n pc ls st0 hp := by
  subst hj
  refine wp_callS d G S (Rm0.ok hR) hst hs0 ?_
  intro v hp' hv
  obtain ⟨rfl, hP⟩ := hv
  rw [Rm0_k hR, Rm0_n hR]
  exact h hp' hP
theorem wp_Sn {M' : MI} {R' : Room} {as : List Value} {idx : Nat} {P : Hp → Prop} (d : decode M.2.1 pc = .ok (.invokestatic idx, 3)) {j : Nat} (G : CS M.1.cls idx M' j) (S : Sp g M' R' as hp (Vod P)) {st0 : List Value} (hs0 : st0 = as.reverse ++ st) (hj : as.length = j) (hR : Rm0 R R' M'.2.2.1 k n) (hst : (st.map fun v => v.category).sum ≤ 8)
    (h : ∀ hp', P hp' → wp g M R Q k n (pc + 3) ls st hp') : wp g M R Q k n pc ls st0 hp := by
  subst hj
  refine wp_callS d G S (Rm0.ok hR) hst hs0 ?_
  intro v hp' hv
  obtain ⟨rfl, hP⟩ := hv
  rw [Rm0_k hR, Rm0_n hR]
  exact h hp' hP
/-! boolean answers that the code puts together from 0 and 1 -/
theorem wp_z1 {q : Prop} [Decidable q] {P : Hp → Prop} (d : decode M.2.1 pc = .ok (.ireturn, 1)) (hr : M.2.2.2 = some .boolean) (hk : k ≤ R.cells) (hn : n ≤ R.slots) (hq : q) (h : P hp) : wp g M R (Eff (.int (B q)) P) k n pc ls [.int (I 1)] hp := by
  have e : I 1 = B q := by rw [B_t hq]; rfl
  rw [e]
  exact wp_zreturn d hr hk hn ⟨rfl, h⟩
theorem wp_z0 {q : Prop} [Decidable q] {P : Hp → Prop} (d : decode M.2.1 pc = .ok (.ireturn, 1)) (hr : M.2.2.2 = some .boolean) (hk : k ≤ R.cells) (hn : n ≤ R.slots) (hq : ¬ q) (h : P hp) : wp g M R (Eff (.int (B q)) P) k n pc ls [.int (I 0)] hp := by
  have e : I 0 = B q := by rw [B_f hq]; rfl
  rw [e]
  exact wp_zreturn d hr hk hn ⟨rfl, h⟩
theorem wp_zb {q r : Prop} [Decidable q] [Decidable r] {P : Hp → Prop} (d : decode M.2.1 pc = .ok (.ireturn, 1)) (hr : M.2.2.2 = some .boolean) (hk : k ≤ R.cells) (hn : n ≤ R.slots) (hq : r ↔ q) (h : P hp) : wp g M R (Eff (.int (B q)) P) k n pc ls [.int (B r)] hp := by
  have e : B r = B q := (B_eq r q).mpr hq
  rw [e]
  exact wp_zreturn d hr hk hn ⟨rfl, h⟩
theorem wp_ir {a b : Int} {P : Hp → Prop} (d : decode M.2.1 pc = .ok (.ireturn, 1)) (hr : M.2.2.2 = some .int) (hk : k ≤ R.cells) (hn : n ≤ R.slots) (hq : a = b) (h : P hp) : wp g M R (Eff (.int (I b)) P) k n pc ls [.int (I a)] hp := by
  subst hq
  exact wp_ireturn d hr hk hn ⟨rfl, h⟩
theorem wp_lr {a b : Int} {P : Hp → Prop} (d : decode M.2.1 pc = .ok (.lreturn, 1)) (hr : M.2.2.2 = some .long) (hk : k ≤ R.cells) (hn : n ≤ R.slots) (hq : a = b) (h : P hp) : wp g M R (Eff (.long (J b)) P) k n pc ls [.long (J a)] hp := by
  subst hq
  exact wp_lreturn d hr hk hn ⟨rfl, h⟩
theorem wp_vr {P : Hp → Prop} (d : decode M.2.1 pc = .ok (.return_, 1)) (hr : M.2.2.2 = none) (hk : k ≤ R.cells) (hn : n ≤ R.slots) (h : P hp) : wp g M R (Vod P) k n pc ls [] hp := wp_return d hr hk hn ⟨rfl, h⟩
/-! a boolean on the stack, out of 0 and 1 -/
theorem wp_topB {q : Prop} [Decidable q] {z : Int} (hz : z = if q then 1 else 0) (h : wp g M R Q k n pc ls (.int (B q) :: st) hp) : wp g M R Q k n pc ls (.int (I z) :: st) hp := by
  rw [hz, ← B_I]
  exact h
theorem wp_topI {q : Prop} [Decidable q] (h : wp g M R Q k n pc ls (.int (I (if q then 1 else 0)) :: st) hp) : wp g M R Q k n pc ls (.int (B q) :: st) hp := by
  rw [B_I]
  exact h
theorem wp_topE {a b : Int} (e : a = b) (h : wp g M R Q k n pc ls (.int (I b) :: st) hp) : wp g M R Q k n pc ls (.int (I a) :: st) hp := by
  rw [e]
  exact h
theorem hset_eq {a : Nat} {c : AC} : (hset hp a c).2 a = some c := if_pos rfl
theorem hset_ne {a b : Nat} {c : AC} (h : b ≠ a) : (hset hp a c).2 b = hp.2 b := if_neg h
theorem hset_at {a b : Nat} {c : AC} {x : Option AC} (h : b ≠ a) (e : hp.2 b = x) : (hset hp a c).2 b = x := (hset_ne h).trans e
theorem hnew_eq {c : AC} : (hnew hp c).2 (hp.1 + 4) = some c := if_pos rfl
theorem hnew_ne {b : Nat} {c : AC} (h : b ≠ hp.1 + 4) : (hnew hp c).2 b = hp.2 b := if_neg h
end MO
