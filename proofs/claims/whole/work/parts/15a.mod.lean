/-! the reference: its object, by numbers V, arrays A, and the two references that change -/
section MA
variable {g : GT} {M : MI} {R : Room} {Q : Option Value → Hp → Prop} {k n pc : Nat} {ls : List (Option Value)} {st : List Value} {hp hp0 : Hp} {m j N : Nat} {V : Nat → Int} {A : Nat → Int → Int} {rd rl : Value} {f f2 : Int → Int} {i x v : Int} {T : Nat → Int → Int} {ty : FieldType}
def mfs (m : Nat) (V : Nat → Int) (rd rl : Value) : List Value := [.ref (m + 1), .int (I (V 1)), .ref (m + 2), .int (I (V 3)), .ref (m + 3), .int (I (V 5)), .int (I (V 6)), rd, .int (I (V 8)), .int (I (V 9)), .int (I (V 10)), .int (I (V 11)), .ref (m + 4), rl, .ref (m + 6), .int (I (V 15)), .int (I (V 16)), .ref (m + 7), .ref (m + 8), .int (I (V 19)), .ref (m + 9), .ref (m + 10), .ref (m + 11), .ref (m + 12), .ref (m + 13), .ref (m + 14), .ref (m + 15), .ref (m + 16), .int (I (V 28)), .ref (m + 17), .ref (m + 18), .ref (m + 19), .int (I (V 32)), .ref (m + 20), .ref (m + 21), .int (I (V 35)), .int (I (V 36)), .ref (m + 22), .ref (m + 23), .ref (m + 24)]
def mty (j : Nat) : FieldType × Nat := match j with
  | 1 => (.int, 103)
  | 2 => (.byte, 80)
  | 3 => (.long, 16)
  | 4 => (.int, 42)
  | 5 => (.byte, 40)
  | 6 => (.byte, 40)
  | 7 => (.int, 6)
  | 8 => (.int, 1236)
  | 9 => (.int, 103)
  | 10 => (.int, 103)
  | 11 => (.int, 36)
  | 12 => (.int, 320)
  | 13 => (.int, 64)
  | 14 => (.int, 448)
  | 15 => (.int, 12)
  | 16 => (.int, 12)
  | 17 => (.int, 12)
  | 18 => (.int, 12)
  | 19 => (.int, 12)
  | 20 => (.int, 400)
  | 21 => (.long, 7)
  | 22 => (.int, 206)
  | 23 => (.boolean, 2)
  | _ => (.int, 2)
def upN (V : Nat → Int) (k : Nat) (v : Int) : Nat → Int := fun x => if x = k then v else V x
def upA (A : Nat → Int → Int) (k : Nat) (f : Int → Int) : Nat → Int → Int := fun x => if x = k then f else A x
theorem upN_eq {k : Nat} : upN V k v k = v := if_pos rfl
theorem upN_ne {k j : Nat} {x : Int} (h : j ≠ k) (e : V j = x) : upN V k v j = x := (if_neg h).trans e
theorem upA_eq {k : Nat} : upA A k f k = f := if_pos rfl
theorem upA_ne {k j : Nat} (h : j ≠ k) (e : A j = f2) : upA A k f j = f2 := (if_neg h).trans e
theorem upA_upA {k : Nat} : upA (upA A k f) k f2 = upA A k f2 := by
  funext x
  unfold upA
  split <;> rfl
theorem upN_upN {k : Nat} : upN (upN V k v) k x = upN V k x := by
  funext y
  unfold upN
  split <;> rfl
theorem upA_id {k : Nat} (h : A k = f) : upA A k f = A := by
  funext x
  unfold upA
  split
  · rename_i e; rw [e, h]
  · rfl
theorem upN_id {k : Nat} (h : V k = v) : upN V k v = V := by
  funext x
  unfold upN
  split
  · rename_i e; rw [e, h]
  · rfl
def ModAt (hp : Hp) (m : Nat) (V : Nat → Int) (A : Nat → Int → Int) (rd rl : Value) : Prop := hp.2 m = some (.inr (.inr (12, mfs m V rd rl))) ∧ ∀ j, 1 ≤ j → j ≤ 24 → hp.2 (m + j) = some (.inl ((mty j).1, (mty j).2, A j))
theorem mset_1 : (mfs m V rd rl).set 1 (.int (I v)) = mfs m (upN V 1 v) rd rl := rfl
theorem mset_3 : (mfs m V rd rl).set 3 (.int (I v)) = mfs m (upN V 3 v) rd rl := rfl
theorem mset_5 : (mfs m V rd rl).set 5 (.int (I v)) = mfs m (upN V 5 v) rd rl := rfl
theorem mset_6 : (mfs m V rd rl).set 6 (.int (I v)) = mfs m (upN V 6 v) rd rl := rfl
theorem mset_8 : (mfs m V rd rl).set 8 (.int (I v)) = mfs m (upN V 8 v) rd rl := rfl
theorem mset_9 : (mfs m V rd rl).set 9 (.int (I v)) = mfs m (upN V 9 v) rd rl := rfl
theorem mset_10 : (mfs m V rd rl).set 10 (.int (I v)) = mfs m (upN V 10 v) rd rl := rfl
theorem mset_11 : (mfs m V rd rl).set 11 (.int (I v)) = mfs m (upN V 11 v) rd rl := rfl
theorem mset_15 : (mfs m V rd rl).set 15 (.int (I v)) = mfs m (upN V 15 v) rd rl := rfl
theorem mset_16 : (mfs m V rd rl).set 16 (.int (I v)) = mfs m (upN V 16 v) rd rl := rfl
theorem mset_19 : (mfs m V rd rl).set 19 (.int (I v)) = mfs m (upN V 19 v) rd rl := rfl
theorem mset_28 : (mfs m V rd rl).set 28 (.int (I v)) = mfs m (upN V 28 v) rd rl := rfl
theorem mset_32 : (mfs m V rd rl).set 32 (.int (I v)) = mfs m (upN V 32 v) rd rl := rfl
theorem mset_35 : (mfs m V rd rl).set 35 (.int (I v)) = mfs m (upN V 35 v) rd rl := rfl
theorem mset_36 : (mfs m V rd rl).set 36 (.int (I v)) = mfs m (upN V 36 v) rd rl := rfl
theorem mset_7 {r : Value} : (mfs m V rd rl).set 7 r = mfs m V r rl := rfl
theorem mset_13 {r : Value} : (mfs m V rd rl).set 13 r = mfs m V rd r := rfl
theorem ModAt.arr (K : ModAt hp m V A rd rl) (h1 : 1 ≤ j) (h2 : j ≤ 24) : ModAt (hset hp (m + j) (.inl ((mty j).1, (mty j).2, f))) m V (upA A j f) rd rl := by
  refine ⟨(hset_ne (by omega)).trans K.1, fun q a b => ?_⟩
  by_cases e : q = j
  · subst e
    rw [upA_eq]
    exact hset_eq
  · rw [upA_ne e rfl]
    exact (hset_ne (by omega)).trans (K.2 q a b)
theorem ModAt.obj {V2 : Nat → Int} {rd2 rl2 : Value} {c : AC} (K : ModAt hp m V A rd rl) (hc : c = .inr (.inr (12, mfs m V2 rd2 rl2))) : ModAt (hset hp m c) m V2 A rd2 rl2 := by
  subst hc
  exact ⟨hset_eq, fun q a b => (hset_ne (by omega)).trans (K.2 q a b)⟩
theorem wm_get {kf idx : Nat} {v : Value} (d : decode M.2.1 pc = .ok (.getfield idx, 3)) (G : GF M.1.cls idx 12 kf) (K : ModAt hp m V A rd rl) (hk : (mfs m V rd rl)[kf]? = some v) (h : wp g M R Q k n (pc + 3) ls (v :: st) hp) : wp g M R Q k n pc ls (.ref m :: st) hp := wp_getf d G K.1 hk h
theorem wm_gets {kf idx : Nat} (d : decode M.2.1 pc = .ok (.getfield idx, 3)) (G : GF M.1.cls idx 12 kf) (K : ModAt hp m V A rd rl) (hk : (mfs m V rd rl)[kf]? = some (.int (I (V kf)))) (hv : V kf = v) (h : wp g M R Q k n (pc + 3) ls (.int (I v) :: st) hp) : wp g M R Q k n pc ls (.ref m :: st) hp := wp_getf d G K.1 hk (by rw [hv]; exact h)
theorem wm_put {kf idx : Nat} {x : Value} {V2 : Nat → Int} {rd2 rl2 : Value} {ty : FieldType} (d : decode M.2.1 pc = .ok (.putfield idx, 3)) (G : PF M.1.cls idx 12 kf ty false) (K : ModAt hp m V A rd rl) (O : SO hp0 hp m (m + 25)) (hl : kf < 40) (hs : (mfs m V rd rl).set kf x = mfs m V2 rd2 rl2) (hn : narrow ty (cv g x) = cv g x) (hfit : fits ty (cv g x) = true) (h : ∀ hp2, ModAt hp2 m V2 A rd2 rl2 → SO hp0 hp2 m (m + 25) → wp g M R Q k n (pc + 3) ls st hp2) : wp g M R Q k n pc ls (x :: .ref m :: st) hp :=
  wp_putf d G K.1 hl hn hfit (fun z => by cases z) (h _ (K.obj (by rw [hs])) (O.set (by omega) (by omega)))
theorem mty_e (h : mty j = (ty, N)) (K : ModAt hp m V A rd rl) (h1 : 1 ≤ j) (h2 : j ≤ 24) (hA : A j = f) : hp.2 (m + j) = some (.inl (ty, N, f)) := by
  have := K.2 j h1 h2
  rw [h, hA] at this
  exact this
theorem wm_iald (d : decode M.2.1 pc = .ok (.iaload, 1)) (K : ModAt hp m V A rd rl) (ht : mty j = (.int, N)) (h1 : 1 ≤ j) (h2 : j ≤ 24) (hN : N < 2147483648) (h3 : 0 ≤ i) (h4 : i < N) (hA : A j = f) (hx : f i = x) (h : wp g M R Q k n (pc + 1) ls (.int (I x) :: st) hp) : wp g M R Q k n pc ls (.int (I i) :: .ref (m + j) :: st) hp :=
  wp_iald d (mty_e ht K h1 h2 hA) h3 h4 hN (by rw [hx]; exact h)
theorem wm_lald (d : decode M.2.1 pc = .ok (.laload, 1)) (K : ModAt hp m V A rd rl) (ht : mty j = (.long, N)) (h1 : 1 ≤ j) (h2 : j ≤ 24) (hN : N < 2147483648) (h3 : 0 ≤ i) (h4 : i < N) (hA : A j = f) (hx : f i = x) (h : wp g M R Q k n (pc + 1) ls (.long (J x) :: st) hp) : wp g M R Q k n pc ls (.int (I i) :: .ref (m + j) :: st) hp :=
  wp_lald d (mty_e ht K h1 h2 hA) h3 h4 hN (by rw [hx]; exact h)
theorem wm_bald (d : decode M.2.1 pc = .ok (.baload, 1)) (K : ModAt hp m V A rd rl) (ht : mty j = (.byte, N)) (h1 : 1 ≤ j) (h2 : j ≤ 24) (hN : N < 2147483648) (h3 : 0 ≤ i) (h4 : i < N) (hA : A j = f) (hx : f i = x) (h : wp g M R Q k n (pc + 1) ls (.int (I x) :: st) hp) : wp g M R Q k n pc ls (.int (I i) :: .ref (m + j) :: st) hp :=
  wp_bald d (mty_e ht K h1 h2 hA) h3 h4 hN (by rw [hx]; exact h)
theorem wm_zald (d : decode M.2.1 pc = .ok (.baload, 1)) (K : ModAt hp m V A rd rl) (ht : mty j = (.boolean, N)) (h1 : 1 ≤ j) (h2 : j ≤ 24) (hN : N < 2147483648) (h3 : 0 ≤ i) (h4 : i < N) (hA : A j = f) (hx : f i = x) (h : wp g M R Q k n (pc + 1) ls (.int (I x) :: st) hp) : wp g M R Q k n pc ls (.int (I i) :: .ref (m + j) :: st) hp :=
  wp_zald d (mty_e ht K h1 h2 hA) h3 h4 hN (by rw [hx]; exact h)
theorem ModAt.sto {c : AC} (K : ModAt hp m V A rd rl) (ht : mty j = (ty, N)) (h1 : 1 ≤ j) (h2 : j ≤ 24) (hf : f = f2) (hc : c = .inl (ty, N, f)) : ModAt (hset hp (m + j) c) m V (upA A j f2) rd rl := by
  subst hf hc
  have := K.arr (f := f) h1 h2
  rw [ht] at this
  exact this
theorem wm_iast (d : decode M.2.1 pc = .ok (.iastore, 1)) (K : ModAt hp m V A rd rl) (O : SO hp0 hp m (m + 25)) (ht : mty j = (.int, N)) (h1 : 1 ≤ j) (h2 : j ≤ 24) (hN : N < 2147483648) (h3 : 0 ≤ i) (h4 : i < N) (hA : A j = f) (hf : updI f i v = f2) (h : ∀ hp2, ModAt hp2 m V (upA A j f2) rd rl → SO hp0 hp2 m (m + 25) → wp g M R Q k n (pc + 1) ls st hp2) : wp g M R Q k n pc ls (.int (I v) :: .int (I i) :: .ref (m + j) :: st) hp :=
  wp_iast d (mty_e ht K h1 h2 hA) h3 h4 hN (h _ (K.sto ht h1 h2 hf rfl) (O.set (by omega) (by omega)))
theorem wm_last (d : decode M.2.1 pc = .ok (.lastore, 1)) (K : ModAt hp m V A rd rl) (O : SO hp0 hp m (m + 25)) (ht : mty j = (.long, N)) (h1 : 1 ≤ j) (h2 : j ≤ 24) (hN : N < 2147483648) (h3 : 0 ≤ i) (h4 : i < N) (hA : A j = f) (hf : updI f i v = f2) (h : ∀ hp2, ModAt hp2 m V (upA A j f2) rd rl → SO hp0 hp2 m (m + 25) → wp g M R Q k n (pc + 1) ls st hp2) : wp g M R Q k n pc ls (.long (J v) :: .int (I i) :: .ref (m + j) :: st) hp :=
  wp_last d (mty_e ht K h1 h2 hA) h3 h4 hN (h _ (K.sto ht h1 h2 hf rfl) (O.set (by omega) (by omega)))
theorem wm_bast {y : Int32} (d : decode M.2.1 pc = .ok (.bastore, 1)) (K : ModAt hp m V A rd rl) (O : SO hp0 hp m (m + 25)) (ht : mty j = (.byte, N)) (h1 : 1 ≤ j) (h2 : j ≤ 24) (hN : N < 2147483648) (h3 : 0 ≤ i) (h4 : i < N) (hA : A j = f) (hy : y.toInt8.toInt32 = I v) (hf : updI f i v = f2) (h : ∀ hp2, ModAt hp2 m V (upA A j f2) rd rl → SO hp0 hp2 m (m + 25) → wp g M R Q k n (pc + 1) ls st hp2) : wp g M R Q k n pc ls (.int y :: .int (I i) :: .ref (m + j) :: st) hp :=
  wp_bast d (mty_e ht K h1 h2 hA) h3 h4 hN hy (h _ (K.sto ht h1 h2 hf rfl) (O.set (by omega) (by omega)))
theorem wm_zast {y : Int32} (d : decode M.2.1 pc = .ok (.bastore, 1)) (K : ModAt hp m V A rd rl) (O : SO hp0 hp m (m + 25)) (ht : mty j = (.boolean, N)) (h1 : 1 ≤ j) (h2 : j ≤ 24) (hN : N < 2147483648) (h3 : 0 ≤ i) (h4 : i < N) (hA : A j = f) (hy : narrow .boolean (.int y) = .int (I v)) (hf : updI f i v = f2) (h : ∀ hp2, ModAt hp2 m V (upA A j f2) rd rl → SO hp0 hp2 m (m + 25) → wp g M R Q k n (pc + 1) ls st hp2) : wp g M R Q k n pc ls (.int y :: .int (I i) :: .ref (m + j) :: st) hp :=
  wp_zast d (mty_e ht K h1 h2 hA) h3 h4 hN hy (h _ (K.sto ht h1 h2 hf rfl) (O.set (by omega) (by omega)))
/-- an array told anew: only its contents within its length count -/
theorem wm_re (K : ModAt hp m V A rd rl) (O : SO hp0 hp m (m + 25)) (ht : mty j = (ty, N)) (h1 : 1 ≤ j) (h2 : j ≤ 24) (e : ∀ i : Int, 0 ≤ i → i < N → A j i = f2 i) (h : ∀ hp2, ModAt hp2 m V (upA A j f2) rd rl → SO hp0 hp2 m (m + 25) → wp g M R Q k n pc ls st hp2) : wp g M R Q k n pc ls st hp :=
  wp_retell (f' := f2) (mty_e ht K h1 h2 rfl) e (h _ (K.sto ht h1 h2 rfl rfl) (O.set (by omega) (by omega)))
theorem wm_nice {V2 : Nat → Int} {A2 : Nat → Int → Int} (hV : V = V2) (hA : A = A2) (K : ModAt hp m V A rd rl) : ModAt hp m V2 A2 rd rl := by rw [← hV, ← hA]; exact K
/-! the town laid flat -/
def flat (T : Nat → Int → Int) (x : Int) : Int := if x < 36 then T 0 x else if x < 42 then T 2 (x - 36) else if x < 48 then T 3 (x - 42) else if x < 54 then T 4 (x - 48) else if x < 60 then T 5 (x - 54) else if x < 66 then T 6 (x - 60) else if x < 102 then T 1 (x - 66) else if x = 102 then T 7 0 else 0
theorem flat0 {a b : Int} (h1 : 0 ≤ a ∧ a < 6) (h2 : 0 ≤ b ∧ b < 6) : flat T (6 * a + b) = T 0 (a * 6 + b) := by unfold flat; rw [if_pos (by omega), Int.mul_comm]
theorem flat0i (h1 : 0 ≤ i) (h2 : i < 36) : flat T i = T 0 i := by unfold flat; rw [if_pos (by omega)]
theorem flat2 (h1 : 0 ≤ i) (h2 : i < 6) : flat T (36 + i) = T 2 i := by unfold flat; rw [if_neg (by omega), if_pos (by omega)]; congr 1; omega
theorem flat3 (h1 : 0 ≤ i) (h2 : i < 6) : flat T (42 + i) = T 3 i := by unfold flat; rw [if_neg (by omega), if_neg (by omega), if_pos (by omega)]; congr 1; omega
theorem flat4 (h1 : 0 ≤ i) (h2 : i < 6) : flat T (48 + i) = T 4 i := by unfold flat; rw [if_neg (by omega), if_neg (by omega), if_neg (by omega), if_pos (by omega)]; congr 1; omega
theorem flat5 (h1 : 0 ≤ i) (h2 : i < 6) : flat T (54 + i) = T 5 i := by unfold flat; rw [if_neg (by omega), if_neg (by omega), if_neg (by omega), if_neg (by omega), if_pos (by omega)]; congr 1; omega
theorem flat6 (h1 : 0 ≤ i) (h2 : i < 6) : flat T (60 + i) = T 6 i := by unfold flat; rw [if_neg (by omega), if_neg (by omega), if_neg (by omega), if_neg (by omega), if_neg (by omega), if_pos (by omega)]; congr 1; omega
theorem flat1 {a b : Int} (h1 : 0 ≤ a ∧ a < 6) (h2 : 0 ≤ b ∧ b < 6) : flat T (66 + (6 * a + b)) = T 1 (a * 6 + b) := by unfold flat; rw [if_neg (by omega), if_neg (by omega), if_neg (by omega), if_neg (by omega), if_neg (by omega), if_neg (by omega), if_pos (by omega)]; congr 1; omega
theorem flat1i (h1 : 0 ≤ i) (h2 : i < 36) : flat T (66 + i) = T 1 i := by unfold flat; rw [if_neg (by omega), if_neg (by omega), if_neg (by omega), if_neg (by omega), if_neg (by omega), if_neg (by omega), if_pos (by omega)]; congr 1; omega
theorem flat7 : flat T 102 = T 7 0 := by unfold flat; rw [if_neg (by omega), if_neg (by omega), if_neg (by omega), if_neg (by omega), if_neg (by omega), if_neg (by omega), if_neg (by omega), if_pos rfl]
theorem up_ne {k q : Nat} {i v : Int} (h : q ≠ k) : up T k i v q = T q := if_neg h
theorem up_eq {k : Nat} {i v : Int} : up T k i v k = updI (T k) i v := if_pos rfl
theorem flatw0 {a b : Int} (h1 : 0 ≤ a ∧ a < 6) (h2 : 0 ≤ b ∧ b < 6) : updI (flat T) (6 * a + b) v = flat (up T 0 (a * 6 + b) v) := by
  funext x
  unfold updI
  by_cases e : x = 6 * a + b
  · rw [if_pos e]
    unfold flat
    rw [up_ne (show 1 ≠ 0 by decide), up_ne (show 2 ≠ 0 by decide), up_ne (show 3 ≠ 0 by decide), up_ne (show 4 ≠ 0 by decide), up_ne (show 5 ≠ 0 by decide), up_ne (show 6 ≠ 0 by decide), up_ne (show 7 ≠ 0 by decide), up_eq]
    unfold updI
    subst e
    repeat (first | rw [if_pos (by omega)] | rw [if_neg (by omega)])
  · rw [if_neg e]
    unfold flat
    rw [up_ne (show 1 ≠ 0 by decide), up_ne (show 2 ≠ 0 by decide), up_ne (show 3 ≠ 0 by decide), up_ne (show 4 ≠ 0 by decide), up_ne (show 5 ≠ 0 by decide), up_ne (show 6 ≠ 0 by decide), up_ne (show 7 ≠ 0 by decide), up_eq]
    unfold updI
    repeat' (first | rfl | split | (exfalso; omega))
theorem flatw2 {a b : Int} (h1 : 0 ≤ i) (h2 : i < 6) : updI (flat T) (36 + i) v = flat (up T 2 (i) v) := by
  funext x
  unfold updI
  by_cases e : x = 36 + i
  · rw [if_pos e]
    unfold flat
    rw [up_ne (show 0 ≠ 2 by decide), up_ne (show 1 ≠ 2 by decide), up_ne (show 3 ≠ 2 by decide), up_ne (show 4 ≠ 2 by decide), up_ne (show 5 ≠ 2 by decide), up_ne (show 6 ≠ 2 by decide), up_ne (show 7 ≠ 2 by decide), up_eq]
    unfold updI
    subst e
    repeat (first | rw [if_pos (by omega)] | rw [if_neg (by omega)])
  · rw [if_neg e]
    unfold flat
    rw [up_ne (show 0 ≠ 2 by decide), up_ne (show 1 ≠ 2 by decide), up_ne (show 3 ≠ 2 by decide), up_ne (show 4 ≠ 2 by decide), up_ne (show 5 ≠ 2 by decide), up_ne (show 6 ≠ 2 by decide), up_ne (show 7 ≠ 2 by decide), up_eq]
    unfold updI
    repeat' (first | rfl | split | (exfalso; omega))
theorem flatw3 {a b : Int} (h1 : 0 ≤ i) (h2 : i < 6) : updI (flat T) (42 + i) v = flat (up T 3 (i) v) := by
  funext x
  unfold updI
  by_cases e : x = 42 + i
  · rw [if_pos e]
    unfold flat
    rw [up_ne (show 0 ≠ 3 by decide), up_ne (show 1 ≠ 3 by decide), up_ne (show 2 ≠ 3 by decide), up_ne (show 4 ≠ 3 by decide), up_ne (show 5 ≠ 3 by decide), up_ne (show 6 ≠ 3 by decide), up_ne (show 7 ≠ 3 by decide), up_eq]
    unfold updI
    subst e
    repeat (first | rw [if_pos (by omega)] | rw [if_neg (by omega)])
  · rw [if_neg e]
    unfold flat
    rw [up_ne (show 0 ≠ 3 by decide), up_ne (show 1 ≠ 3 by decide), up_ne (show 2 ≠ 3 by decide), up_ne (show 4 ≠ 3 by decide), up_ne (show 5 ≠ 3 by decide), up_ne (show 6 ≠ 3 by decide), up_ne (show 7 ≠ 3 by decide), up_eq]
    unfold updI
    repeat' (first | rfl | split | (exfalso; omega))
theorem flatw4 {a b : Int} (h1 : 0 ≤ i) (h2 : i < 6) : updI (flat T) (48 + i) v = flat (up T 4 (i) v) := by
  funext x
  unfold updI
  by_cases e : x = 48 + i
  · rw [if_pos e]
    unfold flat
    rw [up_ne (show 0 ≠ 4 by decide), up_ne (show 1 ≠ 4 by decide), up_ne (show 2 ≠ 4 by decide), up_ne (show 3 ≠ 4 by decide), up_ne (show 5 ≠ 4 by decide), up_ne (show 6 ≠ 4 by decide), up_ne (show 7 ≠ 4 by decide), up_eq]
    unfold updI
    subst e
    repeat (first | rw [if_pos (by omega)] | rw [if_neg (by omega)])
  · rw [if_neg e]
    unfold flat
    rw [up_ne (show 0 ≠ 4 by decide), up_ne (show 1 ≠ 4 by decide), up_ne (show 2 ≠ 4 by decide), up_ne (show 3 ≠ 4 by decide), up_ne (show 5 ≠ 4 by decide), up_ne (show 6 ≠ 4 by decide), up_ne (show 7 ≠ 4 by decide), up_eq]
    unfold updI
    repeat' (first | rfl | split | (exfalso; omega))
theorem flatw5 {a b : Int} (h1 : 0 ≤ i) (h2 : i < 6) : updI (flat T) (54 + i) v = flat (up T 5 (i) v) := by
  funext x
  unfold updI
  by_cases e : x = 54 + i
  · rw [if_pos e]
    unfold flat
    rw [up_ne (show 0 ≠ 5 by decide), up_ne (show 1 ≠ 5 by decide), up_ne (show 2 ≠ 5 by decide), up_ne (show 3 ≠ 5 by decide), up_ne (show 4 ≠ 5 by decide), up_ne (show 6 ≠ 5 by decide), up_ne (show 7 ≠ 5 by decide), up_eq]
    unfold updI
    subst e
    repeat (first | rw [if_pos (by omega)] | rw [if_neg (by omega)])
  · rw [if_neg e]
    unfold flat
    rw [up_ne (show 0 ≠ 5 by decide), up_ne (show 1 ≠ 5 by decide), up_ne (show 2 ≠ 5 by decide), up_ne (show 3 ≠ 5 by decide), up_ne (show 4 ≠ 5 by decide), up_ne (show 6 ≠ 5 by decide), up_ne (show 7 ≠ 5 by decide), up_eq]
    unfold updI
    repeat' (first | rfl | split | (exfalso; omega))
theorem flatw6 {a b : Int} (h1 : 0 ≤ i) (h2 : i < 6) : updI (flat T) (60 + i) v = flat (up T 6 (i) v) := by
  funext x
  unfold updI
  by_cases e : x = 60 + i
  · rw [if_pos e]
    unfold flat
    rw [up_ne (show 0 ≠ 6 by decide), up_ne (show 1 ≠ 6 by decide), up_ne (show 2 ≠ 6 by decide), up_ne (show 3 ≠ 6 by decide), up_ne (show 4 ≠ 6 by decide), up_ne (show 5 ≠ 6 by decide), up_ne (show 7 ≠ 6 by decide), up_eq]
    unfold updI
    subst e
    repeat (first | rw [if_pos (by omega)] | rw [if_neg (by omega)])
  · rw [if_neg e]
    unfold flat
    rw [up_ne (show 0 ≠ 6 by decide), up_ne (show 1 ≠ 6 by decide), up_ne (show 2 ≠ 6 by decide), up_ne (show 3 ≠ 6 by decide), up_ne (show 4 ≠ 6 by decide), up_ne (show 5 ≠ 6 by decide), up_ne (show 7 ≠ 6 by decide), up_eq]
    unfold updI
    repeat' (first | rfl | split | (exfalso; omega))
theorem flatw1 {a b : Int} (h1 : 0 ≤ a ∧ a < 6) (h2 : 0 ≤ b ∧ b < 6) : updI (flat T) (66 + (6 * a + b)) v = flat (up T 1 (a * 6 + b) v) := by
  funext x
  unfold updI
  by_cases e : x = 66 + (6 * a + b)
  · rw [if_pos e]
    unfold flat
    rw [up_ne (show 0 ≠ 1 by decide), up_ne (show 2 ≠ 1 by decide), up_ne (show 3 ≠ 1 by decide), up_ne (show 4 ≠ 1 by decide), up_ne (show 5 ≠ 1 by decide), up_ne (show 6 ≠ 1 by decide), up_ne (show 7 ≠ 1 by decide), up_eq]
    unfold updI
    subst e
    repeat (first | rw [if_pos (by omega)] | rw [if_neg (by omega)])
  · rw [if_neg e]
    unfold flat
    rw [up_ne (show 0 ≠ 1 by decide), up_ne (show 2 ≠ 1 by decide), up_ne (show 3 ≠ 1 by decide), up_ne (show 4 ≠ 1 by decide), up_ne (show 5 ≠ 1 by decide), up_ne (show 6 ≠ 1 by decide), up_ne (show 7 ≠ 1 by decide), up_eq]
    unfold updI
    repeat' (first | rfl | split | (exfalso; omega))
theorem flatw7 : updI (flat T) 102 v = flat (one T 7 (fun _ => v)) := by
  funext x
  unfold updI flat one
  repeat' (first | rfl | split | (exfalso; omega))
theorem TI.r0 (h : TI T N) (i : Int) : 0 ≤ T 0 i ∧ T 0 i ≤ 9 := h.2.2.1 i
theorem TI.r1 (h : TI T N) (i : Int) : 0 ≤ T 1 i ∧ T 1 i ≤ 99 := h.2.2.2.1 i
theorem TI.r2 (h : TI T N) (i : Int) : 0 ≤ T 2 i ∧ T 2 i ≤ 99 := h.2.2.2.2.1 i
theorem TI.r3 (h : TI T N) (i : Int) : 0 ≤ T 3 i ∧ T 3 i ≤ 9999 := h.2.2.2.2.2.1 i
theorem TI.r4 (h : TI T N) (i : Int) : 0 ≤ T 4 i ∧ T 4 i ≤ 99 := h.2.2.2.2.2.2.1 i
theorem TI.r5 (h : TI T N) (i : Int) : 0 ≤ T 5 i ∧ T 5 i ≤ 9 := h.2.2.2.2.2.2.2.1 i
theorem TI.r6 (h : TI T N) (i : Int) : 0 ≤ T 6 i ∧ T 6 i < 64 := h.2.2.2.2.2.2.2.2.1 i
theorem TI.r7 (h : TI T N) : 0 ≤ T 7 0 ∧ T 7 0 < 2000000000 := h.2.2.2.2.2.2.2.2.2
theorem TI.men (h : TI T N) : T 8 0 = (N : Int) ∧ N ≤ 6 := ⟨h.1, h.2.1⟩
theorem TI.i0 (h : TI T N) : InR (T 0 i) := by have := h.r0 i; omega
theorem TI.i1 (h : TI T N) : InR (T 1 i) := by have := h.r1 i; omega
theorem TI.i2 (h : TI T N) : InR (T 2 i) := by have := h.r2 i; omega
theorem TI.i3 (h : TI T N) : InR (T 3 i) := by have := h.r3 i; omega
theorem TI.i4 (h : TI T N) : InR (T 4 i) := by have := h.r4 i; omega
theorem TI.i5 (h : TI T N) : InR (T 5 i) := by have := h.r5 i; omega
theorem TI.i6 (h : TI T N) : InR (T 6 i) := by have := h.r6 i; omega
theorem TI.i7 (h : TI T N) : InR (T 7 0) := by have := h.r7; omega
end MA

