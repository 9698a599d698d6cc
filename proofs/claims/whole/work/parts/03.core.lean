/-! ints by integers; abstract cells, heaps; the judgement wp over the kit's W; its rules -/
def I (k : Int) : Int32 := Int32.ofInt k
def J (k : Int) : Int64 := Int64.ofInt k
def B (c : Prop) [Decidable c] : Int32 := if c then 1 else 0
abbrev InR (a : Int) : Prop := -2147483648 ≤ a ∧ a < 2147483648
abbrev AC : Type := (FieldType × Nat × (Int → Int)) ⊕ ((String × Nat × (Nat → Option Nat)) ⊕ (Nat × List Value))
abbrev Hp : Type := Nat × (Nat → Option AC)
abbrev GT : Type := Launch × (Nat × Nat × Nat × Nat × Nat × Nat) × (Nat → Int32) × Heap × (Nat → ClassId) × (Nat → Nat → Nat)
def bs (g : GT) : Nat := g.2.1.1
def scA (g : GT) : Nat := g.2.1.2.1
def stA (g : GT) : Nat := g.2.1.2.2.1
def scL (g : GT) : Nat := g.2.1.2.2.2.1
def svA (g : GT) : Nat := g.2.1.2.2.2.2.1
def sfA (g : GT) : Nat := g.2.1.2.2.2.2.2
def scX (g : GT) : Nat → Int32 := g.2.2.1
def hp0 (g : GT) : Heap := g.2.2.2.1
def dCI (g : GT) : va_G := (g.2.2.2.2.1, g.2.2.2.2.2)
def ad (g : GT) (k : Nat) : Nat := if k = 0 then scA g else if k = 1 then stA g else if k = 2 then svA g else if k = 3 then sfA g - 1 else bs g + (k - 4)
def cv (g : GT) (v : Value) : Value := match v with
  | .ref a => .ref (ad g a)
  | v => v
/-- the formatter of Preconditions: null or some cell -/
def fmx (g : GT) : Value := if sfA g = 0 then .null else .ref 3
def vof (ty : FieldType) (k : Int) : Value := match ty with
  | .long => .long (J k)
  | _ => .int (I k)
def orf (g : GT) (r : Option Nat) : Value := match r with
  | some a => .ref (ad g a)
  | none => .null
def cellAt (g : GT) (U : State) (k : Nat) (c : AC) (H : Heap) : Prop := match c with
  | .inl a => ∃ cA, H[ad g k]? = some (arrV cA a.2.1 (fun j => vof a.1 (a.2.2 (j : Int)))) ∧ ArrOfT U cA a.1
  | .inr (.inl a) => ∃ cA, H[ad g k]? = some (arrV cA a.2.1 (fun j => orf g (a.2.2 j))) ∧ ArrOfT U cA (.object a.1) ∧ va_RA U cA (.object a.1)
  | .inr (.inr o) => ∃ r : vw_C, classes[o.1]? = some r ∧ t_OB (ad g k) ((dCI g).1 o.1) r.2.2 ((dCI g).2 o.1) H (vp_V (o.2.map (cv g)))
def gt : List Cond := lw_tbl.filter goodWord
theorem gt_mem {w : Cond} (h : w ∈ lw_tbl) (hg : goodWord w = true) : w ∈ gt := List.mem_filter.mpr ⟨h, hg⟩
theorem gt_good {ws : List Cond} (h : ∀ w ∈ ws, w ∈ gt) : GoodIn gt ws := fun w hw => ⟨h w hw, good_of_word (List.mem_filter.mp (h w hw)).2⟩
/-- the bytes of the one String constant -/
def fsB : List Int32 := [100, 42, 111, 43, 40, 49, 45, 100, 41, 42, 40, 111, 43, 57, 41, 47, 50]
/-- what holds of the start, as any later state sees it -/
def Old (g : GT) (s0 : State) : Prop := s0.heap = hp0 g ∧ (hp0 g).size = bs g ∧ scA g < bs g ∧ g.1.stackTraces = false ∧ va_X (scA g) (scL g) (scX g) s0 (hp0 g) ∧ (∀ w ∈ lw_tbl, w.before #[Value.ref (scA g)] s0 = true) ∧ (Jvm.Cond.and given_1 narrow_1).before #[Value.ref (scA g)] s0 = true ∧ (Term.string "DeadTillSix$Rule" 49).eval #[Value.ref (scA g)] s0 none [] s0 = some (.ref (stA g)) ∧ stA g < bs g ∧ vk_S 1 [17] [fsB] (fun _ => stA g) (fun _ => svA g) (fun q => bs g ≤ q) s0 (hp0 g) ∧ va_Z "java/lang/String" "COMPACT_STRINGS" "Z" (.int 1) (fun q => bs g ≤ q) s0 (hp0 g) ∧ va_Z "jdk/internal/util/Preconditions" "SIOOBE_FORMATTER" "Ljava/util/function/BiFunction;" (cv g (fmx g)) (fun q => bs g ≤ q) s0 (hp0 g)
def isNest (w : Cond) : Bool := match w with
  | .fieldLinkNest .. => true
  | .methodLinkNest .. => true
  | _ => false
def nt : List Cond := lw_tbl.filter isNest
theorem nt_mem {w : Cond} (h : w ∈ lw_tbl) (hg : isNest w = true) : w ∈ nt := List.mem_filter.mpr ⟨h, hg⟩
def KK (g : GT) (s : State) : Prop := va_K (dCI g) classes [] s ∧ (∀ w ∈ nt, va_Nw w s) ∧ ∃ s0 : State, Old g s0 ∧ s0.vm.Alike s.vm ∧ vk_R "DeadTillSix$Rule" 49 "d*o+(1-d)*(o+9)/2" (stA g) s
def Rep (g : GT) (s : State) (hp : Hp) (H : Heap) : Prop := H.size = bs g + hp.1 ∧ (∀ q : Nat, q < bs g → H[q]? = (hp0 g)[q]?) ∧ ∀ (k : Nat) (c : AC), hp.2 k = some c → 4 ≤ k ∧ cellAt g s k c H
def LR (g : GT) (nL : Nat) (ls : List (Option Value)) (lsA : Array Slot) : Prop := lsA.size = nL ∧ lv_wf lsA ∧ ∀ (i : Nat) (v : Value), ls[i]? = some (some v) → lsA[i]? = some (.val (cv g v))
def MC (g : GT) (M : MI) (p : Program) (s : State) (m : MethodId) (args : Array Value) (meth : Method) (c : Code) : Prop :=
  p.tables.exec = Jvm.exec ∧ c.code = M.2.1 ∧ c.maxLocals = M.2.2.1 ∧ meth.sig.returnType = M.2.2.2 ∧ s.vm.findClass M.1.cls = some m.cls ∧ (∀ w ∈ gt, w.before args s = true) ∧ meth.locks = false ∧ meth.name = M.1.name ∧ KK g s
def QcOf (g : GT) (Q : Option Value → Hp → Prop) : Array Value → State → Outcome → State → Prop := fun _ st o t => ∃ (v : Option Value) (hp : Hp), o = .returned (v.map (cv g)) ∧ Q v hp ∧ Rep g t hp t.heap
def wp (g : GT) (M : MI) (R : Room) (Q : Option Value → Hp → Prop) (k n : Nat) (pc : Nat) (ls : List (Option Value)) (st : List Value) (hp : Hp) : Prop :=
  ∀ (p : Program) (e : Env) (s : State) (m : MethodId) (args : Array Value) (below : List Frame) (meth : Method) (c : Code) (H : Heap) (locs : List Loc) (lsA : Array Slot), MC g M p s m args meth c → Rep g s hp H → (∀ q ∈ locs, bs g ≤ q.base) → LR g M.2.2.1 ls lsA →
    W p g.1 e R s m args below meth c H locs k n (MQ below (QcOf g Q) args s R.cells R.slots (fun q => bs g ≤ q)) (F0 m pc lsA (st.map (cv g)))
def Sp (g : GT) (M : MI) (R : Room) (as : List Value) (hp : Hp) (Q : Option Value → Hp → Prop) : Prop :=
  Met g.1 M.1 (.code M.1 M.2.1 M.2.2.1 M.2.2.2 :: gt) R (va_Pc (as.map (cv g)) (fun U => KK g U ∧ Rep g U hp U.heap)) (QcOf g Q) R.cells R.slots (fun q => bs g ≤ q)
theorem KK.moved {g : GT} {s U : State} (h : s.WarmedH U.vm) (k : KK g s) : KK g U := by
  obtain ⟨h1, hn, s0, h2, h3, h9⟩ := k
  refine ⟨h1.moved h.alike, fun w hw => ?_, s0, h2, h3.trans h.alike, vk_R.warm h h9⟩
  have h4 := hn w hw
  have h5 := (List.mem_filter.mp hw).2
  unfold isNest at h5
  split at h5
  · exact va_Nw.warmF h h4
  · exact va_Nw.warmM h h4
  · cases h5
theorem KK.same {g : GT} {s U : State} (h : s.vm = U.vm) (k : KK g s) : KK g U := by
  obtain ⟨h1, hn, s0, h2, h3, h9⟩ := k
  refine ⟨h1.moved (by rw [h]; exact Vm.Alike.refl _), fun w hw => ?_, s0, h2, by rw [← h]; exact h3, vk_R.same h.symm h9⟩
  have h4 := hn w hw
  have h5 := (List.mem_filter.mp hw).2
  unfold isNest at h5
  split at h5
  · exact va_Nw.same rfl h h4
  · exact va_Nw.same rfl h h4
  · cases h5
theorem cellAt.moved {g : GT} {s U : State} {k : Nat} {c : AC} {H : Heap} (h : s.vm.Alike U.vm) (q : cellAt g s k c H) : cellAt g U k c H := by
  match c, q with
  | .inl a, q => obtain ⟨cA, h1, h2⟩ := q; exact ⟨cA, h1, arrOfT_moved h h2⟩
  | .inr (.inl a), q => obtain ⟨cA, h1, h2, h3⟩ := q; exact ⟨cA, h1, arrOfT_moved h h2, h3.moved h⟩
  | .inr (.inr o), q => exact q
theorem Rep.moved {g : GT} {s U : State} {hp : Hp} {H : Heap} (h : s.vm.Alike U.vm) (q : Rep g s hp H) : Rep g U hp H := ⟨q.1, q.2.1, fun k c hk => ⟨(q.2.2 k c hk).1, (q.2.2 k c hk).2.moved h⟩⟩
theorem cellAt.kept {g : GT} {s : State} {k : Nat} {c : AC} {H H1 : Heap} (q : cellAt g s k c H) (h : H1[ad g k]? = H[ad g k]?) : cellAt g s k c H1 := by
  match c, q with
  | .inl a, q => obtain ⟨cA, h1, h2⟩ := q; exact ⟨cA, by rw [h]; exact h1, h2⟩
  | .inr (.inl a), q => obtain ⟨cA, h1, h2⟩ := q; exact ⟨cA, by rw [h]; exact h1, h2⟩
  | .inr (.inr o), q => obtain ⟨r, h1, h2⟩ := q; exact ⟨r, h1, h2.kept h⟩
theorem cellAt.lt {g : GT} {s : State} {k : Nat} {c : AC} {H : Heap} (q : cellAt g s k c H) : ad g k < H.size := by
  match c, q with
  | .inl a, q => obtain ⟨cA, h1, h2⟩ := q; exact (Array.getElem?_eq_some_iff.mp h1).1
  | .inr (.inl a), q => obtain ⟨cA, h1, h2⟩ := q; exact (Array.getElem?_eq_some_iff.mp h1).1
  | .inr (.inr o), q => obtain ⟨r, h1, cell, h2, _⟩ := q; exact (Array.getElem?_eq_some_iff.mp h2).1
theorem ad_eq {g : GT} {k : Nat} (h : 4 ≤ k) : ad g k = bs g + (k - 4) := by
  unfold ad
  rw [if_neg (by omega), if_neg (by omega), if_neg (by omega), if_neg (by omega)]
theorem ad_inj {g : GT} {a b : Nat} (ha : 4 ≤ a) (hb : 4 ≤ b) (h : ad g a = ad g b) : a = b := by
  rw [ad_eq ha, ad_eq hb] at h
  omega
def hset (hp : Hp) (a : Nat) (c : AC) : Hp := (hp.1, fun x => if x = a then some c else hp.2 x)
def hnew (hp : Hp) (c : AC) : Hp := (hp.1 + 1, fun x => if x = hp.1 + 4 then some c else hp.2 x)
theorem Rep.set {g : GT} {s : State} {hp : Hp} {H H1 : Heap} {a : Nat} {c c' : AC} (q : Rep g s hp H) (ha : hp.2 a = some c) (hz : H1.size = H.size) (ho : ∀ x, x ≠ ad g a → H1[x]? = H[x]?) (hc : cellAt g s a c' H1) : Rep g s (hset hp a c') H1 := by
  have h2 := (q.2.2 a c ha).1
  refine ⟨by rw [hz]; exact q.1, fun x hx => ?_, fun k x hk => ?_⟩
  · rw [ho x (by rw [ad_eq h2]; omega)]
    exact q.2.1 x hx
  · unfold hset at hk
    dsimp only at hk
    by_cases e : k = a
    · subst e
      rw [if_pos rfl] at hk
      cases hk
      exact ⟨h2, hc⟩
    · rw [if_neg e] at hk
      have h3 := q.2.2 k x hk
      exact ⟨h3.1, h3.2.kept (ho _ (fun z => e (ad_inj h3.1 h2 z)))⟩
theorem Rep.new {g : GT} {s : State} {hp : Hp} {H H1 : Heap} {c' : AC} (q : Rep g s hp H) (hz : H1.size = H.size + 1) (ho : ∀ x, x < H.size → H1[x]? = H[x]?) (hc : cellAt g s (hp.1 + 4) c' H1) : Rep g s (hnew hp c') H1 := by
  refine ⟨by rw [hz, q.1]; rfl, fun x hx => ?_, fun k x hk => ?_⟩
  · rw [ho x (by rw [q.1]; omega)]
    exact q.2.1 x hx
  · unfold hnew at hk
    dsimp only at hk
    by_cases e : k = hp.1 + 4
    · subst e
      rw [if_pos rfl] at hk
      cases hk
      exact ⟨by omega, hc⟩
    · rw [if_neg e] at hk
      have h3 := q.2.2 k x hk
      exact ⟨h3.1, h3.2.kept (ho _ h3.2.lt)⟩
theorem ad_new {g : GT} {s : State} {hp : Hp} {H : Heap} (q : Rep g s hp H) : ad g (hp.1 + 4) = H.size := by
  rw [ad_eq (by omega), q.1]
  omega
/-! locals -/
def clr (ls : List (Option Value)) (i : Nat) : List (Option Value) := match i with
  | 0 => ls
  | k + 1 => match ls[k]? with
    | some (some (.long _)) => ls.set k none
    | some (some (.double _)) => ls.set k none
    | _ => ls
def st1 (ls : List (Option Value)) (i : Nat) (v : Value) : List (Option Value) := (clr ls i).set i (some v)
def st2 (ls : List (Option Value)) (i : Nat) (v : Value) : List (Option Value) := ((clr ls i).set i (some v)).set (i + 1) none
def al (g : GT) (ls : List (Option Value)) : List (Nat × Value) := (List.range ls.length).filterMap fun i => match ls[i]? with
  | some (some v) => some (i, cv g v)
  | _ => none
theorem al_mem {g : GT} {ls : List (Option Value)} {i : Nat} {v : Value} (h : ls[i]? = some (some v)) : (i, cv g v) ∈ al g ls := by
  refine List.mem_filterMap.mpr ⟨i, List.mem_range.mpr (List.getElem?_eq_some_iff.mp h).1, ?_⟩
  rw [h]
theorem LR.has {g : GT} {nL : Nat} {ls : List (Option Value)} {lsA : Array Slot} (h : LR g nL ls lsA) : lv_has lsA nL (al g ls) := by
  refine ⟨h.1, h.2.1, fun q hq => ?_⟩
  obtain ⟨i, _, hi⟩ := List.mem_filterMap.mp hq
  revert hi
  split
  · intro hi
    cases hi
    rename_i v hv
    exact h.2.2 i v hv
  · intro hi
    cases hi
theorem cv_cat (g : GT) (v : Value) : (cv g v).category = v.category := by cases v <;> rfl
theorem clr_get {ls : List (Option Value)} {i j : Nat} {v : Value} (h : (clr ls i)[j]? = some (some v)) : ls[j]? = some (some v) ∧ ¬ (j + 1 = i ∧ v.category = 2) := by
  cases i with
  | zero => exact ⟨h, fun e => by omega⟩
  | succ k =>
    unfold clr at h
    dsimp only at h
    have key : ∀ (x : List (Option Value)), x = ls.set k none → x[j]? = some (some v) → ls[j]? = some (some v) ∧ ¬ (j + 1 = k + 1 ∧ v.category = 2) := by
      intro x hx hj
      subst hx
      rw [List.getElem?_set] at hj
      by_cases e : k = j
      · subst e
        simp at hj
      · rw [if_neg e] at hj
        exact ⟨hj, fun z => e (by omega)⟩
    split at h
    · exact key _ rfl h
    · exact key _ rfl h
    · rename_i n1 n2
      refine ⟨h, fun z => ?_⟩
      have e : j = k := by omega
      subst e
      cases v with
      | long x => exact n1 x h
      | double x => exact n2 x h
      | _ => exact absurd z.2 (by simp [Value.category])
theorem LR_st1 {g : GT} {nL : Nat} {ls : List (Option Value)} {lsB : Array Slot} {i : Nat} {v : Value} (h : lv_has lsB nL ((i, cv g v) :: (al g ls).filter (fun q => !(q.1 == i) && !(q.1 + 1 == i && q.2.category == 2)))) : LR g nL (st1 ls i v) lsB := by
  refine ⟨h.1, h.2.1, fun j w hj => ?_⟩
  unfold st1 at hj
  rw [List.getElem?_set] at hj
  by_cases e : i = j
  · subst e
    rw [if_pos rfl] at hj
    split at hj
    · cases hj
      exact h.2.2 _ List.mem_cons_self
    · cases hj
  · rw [if_neg e] at hj
    obtain ⟨h1, h2⟩ := clr_get hj
    refine h.2.2 (j, cv g w) (List.mem_cons_of_mem _ (List.mem_filter.mpr ⟨al_mem h1, ?_⟩))
    simp only [Bool.and_eq_true, Bool.not_eq_true', beq_eq_false_iff_ne, Bool.and_eq_false_iff, cv_cat]
    exact ⟨fun z => e z.symm, Classical.byContradiction fun z => h2 ⟨Classical.byContradiction fun y => z (Or.inl y), Classical.byContradiction fun y => z (Or.inr y)⟩⟩
theorem LR_st2 {g : GT} {nL : Nat} {ls : List (Option Value)} {lsB : Array Slot} {i : Nat} {v : Value} (h : lv_has lsB nL ((i, cv g v) :: (al g ls).filter (fun q => !(q.1 == i) && (!(q.1 == i + 1) && !(q.1 + 1 == i && q.2.category == 2))))) : LR g nL (st2 ls i v) lsB := by
  refine ⟨h.1, h.2.1, fun j w hj => ?_⟩
  unfold st2 at hj
  rw [List.getElem?_set] at hj
  by_cases e1 : i + 1 = j
  · rw [if_pos e1] at hj
    split at hj <;> cases hj
  rw [if_neg e1, List.getElem?_set] at hj
  by_cases e : i = j
  · subst e
    rw [if_pos rfl] at hj
    split at hj
    · cases hj
      exact h.2.2 _ List.mem_cons_self
    · cases hj
  · rw [if_neg e] at hj
    obtain ⟨h1, h2⟩ := clr_get hj
    refine h.2.2 (j, cv g w) (List.mem_cons_of_mem _ (List.mem_filter.mpr ⟨al_mem h1, ?_⟩))
    simp only [Bool.and_eq_true, Bool.not_eq_true', beq_eq_false_iff_ne, Bool.and_eq_false_iff, cv_cat]
    exact ⟨fun z => e z.symm, fun z => e1 z.symm, Classical.byContradiction fun z => h2 ⟨Classical.byContradiction fun y => z (Or.inl y), Classical.byContradiction fun y => z (Or.inr y)⟩⟩
