/-! the class: its state -/
section DS
variable {g : GT} {hp hp2 hp3 hp0 : Hp} {D r s r2 s2 N n k P h a : Nat} {T T2 Tr Tr2 Z : Nat → Int → Int} {z x y : Int} {U : List (Nat → Int → Int)} {tx tx2 rw rw2 rt rt2 : List Int} {hs hs2 : List (Int × Int)} {ss ss2 : List (Int × Int × Int)} {KT : Nat → Option (Nat → Int → Int)}
def OB (hp : Hp) (a ci : Nat) : Prop := ∃ fs : List Value, hp.2 a = some (.inr (.inr (ci, fs)))
theorem wd_Vp {M : MI} {R : Room} {Q : Option Value → Hp → Prop} {k n pc : Nat} {ls : List (Option Value)} {st : List Value} {M' : MI} {R' : Room} {as : List Value} {a idx ci : Nat} {x : Value} (d : decode M.2.1 pc = .ok (.invokevirtual idx, 3)) {j : Nat} (G : CV M.1.cls idx M' j) (S : Sp g M' R' (.ref a :: as) hp (Pur x hp)) {st0 : List Value} (hs0 : st0 = as.reverse ++ .ref a :: st) (hj : as.length = j) (ho : OB hp a ci) (hci : (classes[ci]?).map (fun r => r.1) = some M'.1.cls) (hR : Rm0 R R' M'.2.2.1 k n) (hst : (st.map fun v => v.category).sum ≤ 8) (h : wp g M R Q k n (pc + 3) ls (x :: st) hp) : wp g M R Q k n pc ls st0 hp := by
  obtain ⟨fs, ho⟩ := ho
  exact wp_Vp d G S hs0 hj ho hci hR hst h
theorem wd_Vs {M : MI} {R : Room} {Q : Option Value → Hp → Prop} {k n pc : Nat} {ls : List (Option Value)} {st : List Value} {M' : MI} {R' : Room} {as : List Value} {a idx ci : Nat} {x : Value} {P : Hp → Prop} (d : decode M.2.1 pc = .ok (.invokevirtual idx, 3)) {j : Nat} (G : CV M.1.cls idx M' j) (S : Sp g M' R' (.ref a :: as) hp (Eff x P)) {st0 : List Value} (hs0 : st0 = as.reverse ++ .ref a :: st) (hj : as.length = j) (ho : OB hp a ci) (hci : (classes[ci]?).map (fun r => r.1) = some M'.1.cls) (hR : Rm0 R R' M'.2.2.1 k n) (hst : (st.map fun v => v.category).sum ≤ 8) (h : ∀ hp', P hp' → wp g M R Q k n (pc + 3) ls (x :: st) hp') : wp g M R Q k n pc ls st0 hp := by
  obtain ⟨fs, ho⟩ := ho
  exact wp_Vs d G S hs0 hj ho hci hR hst h
theorem wd_Vn {M : MI} {R : Room} {Q : Option Value → Hp → Prop} {k n pc : Nat} {ls : List (Option Value)} {st : List Value} {M' : MI} {R' : Room} {as : List Value} {a idx ci : Nat} {P : Hp → Prop} (d : decode M.2.1 pc = .ok (.invokevirtual idx, 3)) {j : Nat} (G : CV M.1.cls idx M' j) (S : Sp g M' R' (.ref a :: as) hp (Vod P)) {st0 : List Value} (hs0 : st0 = as.reverse ++ .ref a :: st) (hj : as.length = j) (ho : OB hp a ci) (hci : (classes[ci]?).map (fun r => r.1) = some M'.1.cls) (hR : Rm0 R R' M'.2.2.1 k n) (hst : (st.map fun v => v.category).sum ≤ 8) (h : ∀ hp', P hp' → wp g M R Q k n (pc + 3) ls st hp') : wp g M R Q k n pc ls st0 hp := by
  obtain ⟨fs, ho⟩ := ho
  exact wp_Vn d G S hs0 hj ho hci hR hst h
def dobj (D r s : Nat) (b c : Bool) : AC := .inr (.inr (11, [.ref (D + 1), .ref (D + 3), .ref (D + 5), .ref (D + 13), .ref (D + 21), .ref (D + 23), .ref (D + 129), .ref (D + 137), .int (B (b = true)), .int (B (c = true)), .ref (D + 145), .ref (D + 148), .ref (D + 153), .ref (D + 157), .ref (D + 162), .ref r, .ref s]))
def LAt (hp : Hp) (P : Nat) (U : List (Nat → Int → Int)) (Z : Nat → Int → Int) : Prop := ∃ (W : Nat → Nat → Int → Int) (nx : Nat), PastAt hp P W nx U.length ∧ (∀ i, i < U.length → W ((nx + 12 - i) % 13) = U.getD i T0) ∧ W nx = Z
def HrA (hp : Hp) (P : Nat) (hs : List (Int × Int)) : Prop := ∃ A V : Int → Int, HearAt hp P A V hs.length ∧ ∀ i : Nat, i < hs.length → A (i : Int) = (hs.getD i (0, 0)).1 ∧ V (i : Int) = (hs.getD i (0, 0)).2
def ShA (hp : Hp) (P : Nat) (ss : List (Int × Int × Int)) : Prop := ∃ O E W : Int → Int, ShiftsAt hp P O E W ss.length ∧ ∀ i : Nat, i < ss.length → O (i : Int) = (ss.getD i (0, 0, 0)).1 ∧ E (i : Int) = (ss.getD i (0, 0, 0)).2.1 ∧ W (i : Int) = (ss.getD i (0, 0, 0)).2.2
def KtA (hp : Hp) (P : Nat) (o : Option (Nat → Int → Int)) : Prop := ∃ X, TownAt hp P X ∧ ∀ Y, o = some Y → X = Y
abbrev rsP (D r s : Nat) : Prop := (r = D + 163 ∧ s = D + 167) ∨ (r = D + 167 ∧ s = D + 163)
theorem LAt.off (k : LAt hp P U Z) (hS : ∀ x, P ≤ x → x < P + 106 → hp2.2 x = hp.2 x) : LAt hp2 P U Z := by
  obtain ⟨W, nx, p, q⟩ := k
  exact ⟨W, nx, p.off hS, q⟩
theorem HrA.off (k : HrA hp P hs) (hS : ∀ x, P ≤ x → x < P + 3 → hp2.2 x = hp.2 x) : HrA hp2 P hs := by
  obtain ⟨A, V, p, q⟩ := k
  exact ⟨A, V, p.off hS, q⟩
theorem ShA.off (k : ShA hp P ss) (hS : ∀ x, P ≤ x → x < P + 5 → hp2.2 x = hp.2 x) : ShA hp2 P ss := by
  obtain ⟨A, V, W, p, q⟩ := k
  exact ⟨A, V, W, p.off hS, q⟩
theorem KtA.off {o : Option (Nat → Int → Int)} (k : KtA hp P o) (hS : ∀ x, P ≤ x → x < P + 8 → hp2.2 x = hp.2 x) : KtA hp2 P o := by
  obtain ⟨X, p, q⟩ := k
  exact ⟨X, p.off hS, q⟩
theorem DrawAt.off (k : DrawAt hp P z) (hS : ∀ x, P ≤ x → x < P + 1 → hp2.2 x = hp.2 x) : DrawAt hp2 P z := (hS P (by omega) (by omega)).trans k
def DA (hp : Hp) (D r s : Nat) (Tr : Nat → Int → Int) (z : Int) (Z T : Nat → Int → Int) (U : List (Nat → Int → Int)) (tx rw rt : List Int) (hs : List (Int × Int)) (ss : List (Int × Int × Int)) (KT : Nat → Option (Nat → Int → Int)) : Prop := hp.2 D = some (dobj D r s (KT 0).isSome (KT 1).isSome) ∧ rsP D r s ∧ TextAt hp (D + 1) tx ∧ RowAt hp (D + 3) rw ∧ TownAt hp (D + 5) T ∧ TownAt hp (D + 13) Tr ∧ ClockAt hp (D + 21) ∧ LAt hp (D + 23) U Z ∧ KtA hp (D + 129) (KT 0) ∧ KtA hp (D + 137) (KT 1) ∧ HrA hp (D + 145) hs ∧ ShA hp (D + 148) ss ∧ GamesAt hp (D + 153) ∧ PartAt hp (D + 157) ∧ DrawAt hp (D + 162) z ∧ RuleAt hp r (stl rt) ∧ RawAt hp s
theorem DA.ob (K : DA hp D r s Tr z Z T U tx rw rt hs ss KT) : hp.2 D = some (dobj D r s (KT 0).isSome (KT 1).isSome) := K.1
theorem DA.rs (K : DA hp D r s Tr z Z T U tx rw rt hs ss KT) : rsP D r s := K.2.1
theorem DA.te (K : DA hp D r s Tr z Z T U tx rw rt hs ss KT) : TextAt hp (D + 1) tx := K.2.2.1
theorem DA.ro (K : DA hp D r s Tr z Z T U tx rw rt hs ss KT) : RowAt hp (D + 3) rw := K.2.2.2.1
theorem DA.to (K : DA hp D r s Tr z Z T U tx rw rt hs ss KT) : TownAt hp (D + 5) T := K.2.2.2.2.1
theorem DA.tr (K : DA hp D r s Tr z Z T U tx rw rt hs ss KT) : TownAt hp (D + 13) Tr := K.2.2.2.2.2.1
theorem DA.cl (K : DA hp D r s Tr z Z T U tx rw rt hs ss KT) : ClockAt hp (D + 21) := K.2.2.2.2.2.2.1
theorem DA.pa (K : DA hp D r s Tr z Z T U tx rw rt hs ss KT) : LAt hp (D + 23) U Z := K.2.2.2.2.2.2.2.1
theorem DA.k0 (K : DA hp D r s Tr z Z T U tx rw rt hs ss KT) : KtA hp (D + 129) (KT 0) := K.2.2.2.2.2.2.2.2.1
theorem DA.k1 (K : DA hp D r s Tr z Z T U tx rw rt hs ss KT) : KtA hp (D + 137) (KT 1) := K.2.2.2.2.2.2.2.2.2.1
theorem DA.he (K : DA hp D r s Tr z Z T U tx rw rt hs ss KT) : HrA hp (D + 145) hs := K.2.2.2.2.2.2.2.2.2.2.1
theorem DA.sh (K : DA hp D r s Tr z Z T U tx rw rt hs ss KT) : ShA hp (D + 148) ss := K.2.2.2.2.2.2.2.2.2.2.2.1
theorem DA.ga (K : DA hp D r s Tr z Z T U tx rw rt hs ss KT) : GamesAt hp (D + 153) := K.2.2.2.2.2.2.2.2.2.2.2.2.1
theorem DA.pt (K : DA hp D r s Tr z Z T U tx rw rt hs ss KT) : PartAt hp (D + 157) := K.2.2.2.2.2.2.2.2.2.2.2.2.2.1
theorem DA.dr (K : DA hp D r s Tr z Z T U tx rw rt hs ss KT) : DrawAt hp (D + 162) z := K.2.2.2.2.2.2.2.2.2.2.2.2.2.2.1
theorem DA.ru (K : DA hp D r s Tr z Z T U tx rw rt hs ss KT) : RuleAt hp r (stl rt) := K.2.2.2.2.2.2.2.2.2.2.2.2.2.2.2.1
theorem DA.sp (K : DA hp D r s Tr z Z T U tx rw rt hs ss KT) : RawAt hp s := K.2.2.2.2.2.2.2.2.2.2.2.2.2.2.2.2
theorem DA.uTe (K : DA hp D r s Tr z Z T U tx rw rt hs ss KT) (h : TextAt hp2 (D + 1) tx2) (o : SO hp hp2 (D + 1) (D + 1 + 2)) : DA hp2 D r s Tr z Z T U tx2 rw rt hs ss KT := ⟨(o.2 _ (by omega)).trans K.ob, K.rs, h, K.ro.off fun x _ _ => o.2 x (by omega), K.to.off fun x _ _ => o.2 x (by omega), K.tr.off fun x _ _ => o.2 x (by omega), K.cl.off fun x _ _ => o.2 x (by omega), K.pa.off fun x _ _ => o.2 x (by omega), K.k0.off fun x _ _ => o.2 x (by omega), K.k1.off fun x _ _ => o.2 x (by omega), K.he.off fun x _ _ => o.2 x (by omega), K.sh.off fun x _ _ => o.2 x (by omega), K.ga.off fun x _ _ => o.2 x (by omega), K.pt.off fun x _ _ => o.2 x (by omega), K.dr.off fun x _ _ => o.2 x (by omega), K.ru.off fun x _ _ => o.2 x (by have := K.rs; omega), K.sp.off fun x _ _ => o.2 x (by have := K.rs; omega)⟩
theorem DA.uRo (K : DA hp D r s Tr z Z T U tx rw rt hs ss KT) (h : RowAt hp2 (D + 3) rw2) (o : SO hp hp2 (D + 3) (D + 3 + 2)) : DA hp2 D r s Tr z Z T U tx rw2 rt hs ss KT := ⟨(o.2 _ (by omega)).trans K.ob, K.rs, K.te.off fun x _ _ => o.2 x (by omega), h, K.to.off fun x _ _ => o.2 x (by omega), K.tr.off fun x _ _ => o.2 x (by omega), K.cl.off fun x _ _ => o.2 x (by omega), K.pa.off fun x _ _ => o.2 x (by omega), K.k0.off fun x _ _ => o.2 x (by omega), K.k1.off fun x _ _ => o.2 x (by omega), K.he.off fun x _ _ => o.2 x (by omega), K.sh.off fun x _ _ => o.2 x (by omega), K.ga.off fun x _ _ => o.2 x (by omega), K.pt.off fun x _ _ => o.2 x (by omega), K.dr.off fun x _ _ => o.2 x (by omega), K.ru.off fun x _ _ => o.2 x (by have := K.rs; omega), K.sp.off fun x _ _ => o.2 x (by have := K.rs; omega)⟩
theorem DA.uTo (K : DA hp D r s Tr z Z T U tx rw rt hs ss KT) (h : TownAt hp2 (D + 5) T2) (o : SO hp hp2 (D + 5) (D + 5 + 8)) : DA hp2 D r s Tr z Z T2 U tx rw rt hs ss KT := ⟨(o.2 _ (by omega)).trans K.ob, K.rs, K.te.off fun x _ _ => o.2 x (by omega), K.ro.off fun x _ _ => o.2 x (by omega), h, K.tr.off fun x _ _ => o.2 x (by omega), K.cl.off fun x _ _ => o.2 x (by omega), K.pa.off fun x _ _ => o.2 x (by omega), K.k0.off fun x _ _ => o.2 x (by omega), K.k1.off fun x _ _ => o.2 x (by omega), K.he.off fun x _ _ => o.2 x (by omega), K.sh.off fun x _ _ => o.2 x (by omega), K.ga.off fun x _ _ => o.2 x (by omega), K.pt.off fun x _ _ => o.2 x (by omega), K.dr.off fun x _ _ => o.2 x (by omega), K.ru.off fun x _ _ => o.2 x (by have := K.rs; omega), K.sp.off fun x _ _ => o.2 x (by have := K.rs; omega)⟩
theorem DA.uTr (K : DA hp D r s Tr z Z T U tx rw rt hs ss KT) (h : TownAt hp2 (D + 13) T2) (o : SO hp hp2 (D + 13) (D + 13 + 8)) : DA hp2 D r s T2 z Z T U tx rw rt hs ss KT := ⟨(o.2 _ (by omega)).trans K.ob, K.rs, K.te.off fun x _ _ => o.2 x (by omega), K.ro.off fun x _ _ => o.2 x (by omega), K.to.off fun x _ _ => o.2 x (by omega), h, K.cl.off fun x _ _ => o.2 x (by omega), K.pa.off fun x _ _ => o.2 x (by omega), K.k0.off fun x _ _ => o.2 x (by omega), K.k1.off fun x _ _ => o.2 x (by omega), K.he.off fun x _ _ => o.2 x (by omega), K.sh.off fun x _ _ => o.2 x (by omega), K.ga.off fun x _ _ => o.2 x (by omega), K.pt.off fun x _ _ => o.2 x (by omega), K.dr.off fun x _ _ => o.2 x (by omega), K.ru.off fun x _ _ => o.2 x (by have := K.rs; omega), K.sp.off fun x _ _ => o.2 x (by have := K.rs; omega)⟩
theorem DA.uPa (K : DA hp D r s Tr z Z T U tx rw rt hs ss KT) {U2 : List (Nat → Int → Int)} {Z2 : Nat → Int → Int} (h : LAt hp2 (D + 23) U2 Z2) (o : SO hp hp2 (D + 23) (D + 23 + 106)) : DA hp2 D r s Tr z Z2 T U2 tx rw rt hs ss KT := ⟨(o.2 _ (by omega)).trans K.ob, K.rs, K.te.off fun x _ _ => o.2 x (by omega), K.ro.off fun x _ _ => o.2 x (by omega), K.to.off fun x _ _ => o.2 x (by omega), K.tr.off fun x _ _ => o.2 x (by omega), K.cl.off fun x _ _ => o.2 x (by omega), h, K.k0.off fun x _ _ => o.2 x (by omega), K.k1.off fun x _ _ => o.2 x (by omega), K.he.off fun x _ _ => o.2 x (by omega), K.sh.off fun x _ _ => o.2 x (by omega), K.ga.off fun x _ _ => o.2 x (by omega), K.pt.off fun x _ _ => o.2 x (by omega), K.dr.off fun x _ _ => o.2 x (by omega), K.ru.off fun x _ _ => o.2 x (by have := K.rs; omega), K.sp.off fun x _ _ => o.2 x (by have := K.rs; omega)⟩
theorem DA.uHe (K : DA hp D r s Tr z Z T U tx rw rt hs ss KT) (h : HrA hp2 (D + 145) hs2) (o : SO hp hp2 (D + 145) (D + 145 + 3)) : DA hp2 D r s Tr z Z T U tx rw rt hs2 ss KT := ⟨(o.2 _ (by omega)).trans K.ob, K.rs, K.te.off fun x _ _ => o.2 x (by omega), K.ro.off fun x _ _ => o.2 x (by omega), K.to.off fun x _ _ => o.2 x (by omega), K.tr.off fun x _ _ => o.2 x (by omega), K.cl.off fun x _ _ => o.2 x (by omega), K.pa.off fun x _ _ => o.2 x (by omega), K.k0.off fun x _ _ => o.2 x (by omega), K.k1.off fun x _ _ => o.2 x (by omega), h, K.sh.off fun x _ _ => o.2 x (by omega), K.ga.off fun x _ _ => o.2 x (by omega), K.pt.off fun x _ _ => o.2 x (by omega), K.dr.off fun x _ _ => o.2 x (by omega), K.ru.off fun x _ _ => o.2 x (by have := K.rs; omega), K.sp.off fun x _ _ => o.2 x (by have := K.rs; omega)⟩
theorem DA.uSh (K : DA hp D r s Tr z Z T U tx rw rt hs ss KT) (h : ShA hp2 (D + 148) ss2) (o : SO hp hp2 (D + 148) (D + 148 + 5)) : DA hp2 D r s Tr z Z T U tx rw rt hs ss2 KT := ⟨(o.2 _ (by omega)).trans K.ob, K.rs, K.te.off fun x _ _ => o.2 x (by omega), K.ro.off fun x _ _ => o.2 x (by omega), K.to.off fun x _ _ => o.2 x (by omega), K.tr.off fun x _ _ => o.2 x (by omega), K.cl.off fun x _ _ => o.2 x (by omega), K.pa.off fun x _ _ => o.2 x (by omega), K.k0.off fun x _ _ => o.2 x (by omega), K.k1.off fun x _ _ => o.2 x (by omega), K.he.off fun x _ _ => o.2 x (by omega), h, K.ga.off fun x _ _ => o.2 x (by omega), K.pt.off fun x _ _ => o.2 x (by omega), K.dr.off fun x _ _ => o.2 x (by omega), K.ru.off fun x _ _ => o.2 x (by have := K.rs; omega), K.sp.off fun x _ _ => o.2 x (by have := K.rs; omega)⟩
theorem DA.uGa (K : DA hp D r s Tr z Z T U tx rw rt hs ss KT) (h : GamesAt hp2 (D + 153)) (o : SO hp hp2 (D + 153) (D + 153 + 4)) : DA hp2 D r s Tr z Z T U tx rw rt hs ss KT := ⟨(o.2 _ (by omega)).trans K.ob, K.rs, K.te.off fun x _ _ => o.2 x (by omega), K.ro.off fun x _ _ => o.2 x (by omega), K.to.off fun x _ _ => o.2 x (by omega), K.tr.off fun x _ _ => o.2 x (by omega), K.cl.off fun x _ _ => o.2 x (by omega), K.pa.off fun x _ _ => o.2 x (by omega), K.k0.off fun x _ _ => o.2 x (by omega), K.k1.off fun x _ _ => o.2 x (by omega), K.he.off fun x _ _ => o.2 x (by omega), K.sh.off fun x _ _ => o.2 x (by omega), h, K.pt.off fun x _ _ => o.2 x (by omega), K.dr.off fun x _ _ => o.2 x (by omega), K.ru.off fun x _ _ => o.2 x (by have := K.rs; omega), K.sp.off fun x _ _ => o.2 x (by have := K.rs; omega)⟩
theorem DA.uPt (K : DA hp D r s Tr z Z T U tx rw rt hs ss KT) (h : PartAt hp2 (D + 157)) (o : SO hp hp2 (D + 157) (D + 157 + 5)) : DA hp2 D r s Tr z Z T U tx rw rt hs ss KT := ⟨(o.2 _ (by omega)).trans K.ob, K.rs, K.te.off fun x _ _ => o.2 x (by omega), K.ro.off fun x _ _ => o.2 x (by omega), K.to.off fun x _ _ => o.2 x (by omega), K.tr.off fun x _ _ => o.2 x (by omega), K.cl.off fun x _ _ => o.2 x (by omega), K.pa.off fun x _ _ => o.2 x (by omega), K.k0.off fun x _ _ => o.2 x (by omega), K.k1.off fun x _ _ => o.2 x (by omega), K.he.off fun x _ _ => o.2 x (by omega), K.sh.off fun x _ _ => o.2 x (by omega), K.ga.off fun x _ _ => o.2 x (by omega), h, K.dr.off fun x _ _ => o.2 x (by omega), K.ru.off fun x _ _ => o.2 x (by have := K.rs; omega), K.sp.off fun x _ _ => o.2 x (by have := K.rs; omega)⟩
theorem DA.uDr (K : DA hp D r s Tr z Z T U tx rw rt hs ss KT) {z2 : Int} (h : DrawAt hp2 (D + 162) z2) (o : SO hp hp2 (D + 162) (D + 162 + 1)) : DA hp2 D r s Tr z2 Z T U tx rw rt hs ss KT := ⟨(o.2 _ (by omega)).trans K.ob, K.rs, K.te.off fun x _ _ => o.2 x (by omega), K.ro.off fun x _ _ => o.2 x (by omega), K.to.off fun x _ _ => o.2 x (by omega), K.tr.off fun x _ _ => o.2 x (by omega), K.cl.off fun x _ _ => o.2 x (by omega), K.pa.off fun x _ _ => o.2 x (by omega), K.k0.off fun x _ _ => o.2 x (by omega), K.k1.off fun x _ _ => o.2 x (by omega), K.he.off fun x _ _ => o.2 x (by omega), K.sh.off fun x _ _ => o.2 x (by omega), K.ga.off fun x _ _ => o.2 x (by omega), K.pt.off fun x _ _ => o.2 x (by omega), h, K.ru.off fun x _ _ => o.2 x (by have := K.rs; omega), K.sp.off fun x _ _ => o.2 x (by have := K.rs; omega)⟩
theorem DA.uRu (K : DA hp D r s Tr z Z T U tx rw rt hs ss KT) (h : RuleAt hp2 r (stl rt2)) (o : SO hp hp2 r (r + 4)) : DA hp2 D r s Tr z Z T U tx rw rt2 hs ss KT := ⟨(o.2 _ (by have := K.rs; omega)).trans K.ob, K.rs, K.te.off fun x _ _ => o.2 x (by have := K.rs; omega), K.ro.off fun x _ _ => o.2 x (by have := K.rs; omega), K.to.off fun x _ _ => o.2 x (by have := K.rs; omega), K.tr.off fun x _ _ => o.2 x (by have := K.rs; omega), K.cl.off fun x _ _ => o.2 x (by have := K.rs; omega), K.pa.off fun x _ _ => o.2 x (by have := K.rs; omega), K.k0.off fun x _ _ => o.2 x (by have := K.rs; omega), K.k1.off fun x _ _ => o.2 x (by have := K.rs; omega), K.he.off fun x _ _ => o.2 x (by have := K.rs; omega), K.sh.off fun x _ _ => o.2 x (by have := K.rs; omega), K.ga.off fun x _ _ => o.2 x (by have := K.rs; omega), K.pt.off fun x _ _ => o.2 x (by have := K.rs; omega), K.dr.off fun x _ _ => o.2 x (by have := K.rs; omega), h, K.sp.off fun x _ _ => o.2 x (by have := K.rs; omega)⟩
theorem DA.uSp (K : DA hp D r s Tr z Z T U tx rw rt hs ss KT) (h : RawAt hp2 s) (o : SO hp hp2 s (s + 4)) : DA hp2 D r s Tr z Z T U tx rw rt hs ss KT := ⟨(o.2 _ (by have := K.rs; omega)).trans K.ob, K.rs, K.te.off fun x _ _ => o.2 x (by have := K.rs; omega), K.ro.off fun x _ _ => o.2 x (by have := K.rs; omega), K.to.off fun x _ _ => o.2 x (by have := K.rs; omega), K.tr.off fun x _ _ => o.2 x (by have := K.rs; omega), K.cl.off fun x _ _ => o.2 x (by have := K.rs; omega), K.pa.off fun x _ _ => o.2 x (by have := K.rs; omega), K.k0.off fun x _ _ => o.2 x (by have := K.rs; omega), K.k1.off fun x _ _ => o.2 x (by have := K.rs; omega), K.he.off fun x _ _ => o.2 x (by have := K.rs; omega), K.sh.off fun x _ _ => o.2 x (by have := K.rs; omega), K.ga.off fun x _ _ => o.2 x (by have := K.rs; omega), K.pt.off fun x _ _ => o.2 x (by have := K.rs; omega), K.dr.off fun x _ _ => o.2 x (by have := K.rs; omega), K.ru.off fun x _ _ => o.2 x (by have := K.rs; omega), h⟩
theorem DA.cTo (K : DA hp D r s Tr z Z T U tx rw rt hs ss KT) (ht : TownAt hp2 (D + 5) T2) (hC : ClockAt hp2 (D + 21)) (hR : RuleAt hp2 r (stl rt)) (o : ∀ x, (x < r ∨ r + 4 ≤ x) → (x < D + 21 ∨ D + 21 + 2 ≤ x) → (x < D + 5 ∨ D + 5 + 8 ≤ x) → hp2.2 x = hp.2 x) : DA hp2 D r s Tr z Z T2 U tx rw rt hs ss KT := ⟨(o _ (by have := K.rs; omega) (by omega) (by omega)).trans K.ob, K.rs, K.te.off fun x _ _ => o x (by have := K.rs; omega) (by omega) (by omega), K.ro.off fun x _ _ => o x (by have := K.rs; omega) (by omega) (by omega), ht, K.tr.off fun x _ _ => o x (by have := K.rs; omega) (by omega) (by omega), hC, K.pa.off fun x _ _ => o x (by have := K.rs; omega) (by omega) (by omega), K.k0.off fun x _ _ => o x (by have := K.rs; omega) (by omega) (by omega), K.k1.off fun x _ _ => o x (by have := K.rs; omega) (by omega) (by omega), K.he.off fun x _ _ => o x (by have := K.rs; omega) (by omega) (by omega), K.sh.off fun x _ _ => o x (by have := K.rs; omega) (by omega) (by omega), K.ga.off fun x _ _ => o x (by have := K.rs; omega) (by omega) (by omega), K.pt.off fun x _ _ => o x (by have := K.rs; omega) (by omega) (by omega), K.dr.off fun x _ _ => o x (by have := K.rs; omega) (by omega) (by omega), hR, K.sp.off fun x _ _ => o x (by have := K.rs; omega) (by have := K.rs; omega) (by have := K.rs; omega)⟩
theorem DA.cTr (K : DA hp D r s Tr z Z T U tx rw rt hs ss KT) (ht : TownAt hp2 (D + 13) T2) (hC : ClockAt hp2 (D + 21)) (hR : RuleAt hp2 r (stl rt)) (o : ∀ x, (x < r ∨ r + 4 ≤ x) → (x < D + 21 ∨ D + 21 + 2 ≤ x) → (x < D + 13 ∨ D + 13 + 8 ≤ x) → hp2.2 x = hp.2 x) : DA hp2 D r s T2 z Z T U tx rw rt hs ss KT := ⟨(o _ (by have := K.rs; omega) (by omega) (by omega)).trans K.ob, K.rs, K.te.off fun x _ _ => o x (by have := K.rs; omega) (by omega) (by omega), K.ro.off fun x _ _ => o x (by have := K.rs; omega) (by omega) (by omega), K.to.off fun x _ _ => o x (by have := K.rs; omega) (by omega) (by omega), ht, hC, K.pa.off fun x _ _ => o x (by have := K.rs; omega) (by omega) (by omega), K.k0.off fun x _ _ => o x (by have := K.rs; omega) (by omega) (by omega), K.k1.off fun x _ _ => o x (by have := K.rs; omega) (by omega) (by omega), K.he.off fun x _ _ => o x (by have := K.rs; omega) (by omega) (by omega), K.sh.off fun x _ _ => o x (by have := K.rs; omega) (by omega) (by omega), K.ga.off fun x _ _ => o x (by have := K.rs; omega) (by omega) (by omega), K.pt.off fun x _ _ => o x (by have := K.rs; omega) (by omega) (by omega), K.dr.off fun x _ _ => o x (by have := K.rs; omega) (by omega) (by omega), hR, K.sp.off fun x _ _ => o x (by have := K.rs; omega) (by have := K.rs; omega) (by have := K.rs; omega)⟩
theorem DA.cSp (K : DA hp D r s Tr z Z T U tx rw rt hs ss KT) (ht : TownAt hp2 (D + 13) T2) (hC : ClockAt hp2 (D + 21)) (hR : RawAt hp2 s) (o : ∀ x, (x < s ∨ s + 4 ≤ x) → (x < D + 21 ∨ D + 21 + 2 ≤ x) → (x < D + 13 ∨ D + 13 + 8 ≤ x) → hp2.2 x = hp.2 x) : DA hp2 D r s T2 z Z T U tx rw rt hs ss KT := ⟨(o _ (by have := K.rs; omega) (by omega) (by omega)).trans K.ob, K.rs, K.te.off fun x _ _ => o x (by have := K.rs; omega) (by omega) (by omega), K.ro.off fun x _ _ => o x (by have := K.rs; omega) (by omega) (by omega), K.to.off fun x _ _ => o x (by have := K.rs; omega) (by omega) (by omega), ht, hC, K.pa.off fun x _ _ => o x (by have := K.rs; omega) (by omega) (by omega), K.k0.off fun x _ _ => o x (by have := K.rs; omega) (by omega) (by omega), K.k1.off fun x _ _ => o x (by have := K.rs; omega) (by omega) (by omega), K.he.off fun x _ _ => o x (by have := K.rs; omega) (by omega) (by omega), K.sh.off fun x _ _ => o x (by have := K.rs; omega) (by omega) (by omega), K.ga.off fun x _ _ => o x (by have := K.rs; omega) (by omega) (by omega), K.pt.off fun x _ _ => o x (by have := K.rs; omega) (by omega) (by omega), K.dr.off fun x _ _ => o x (by have := K.rs; omega) (by omega) (by omega), K.ru.off fun x _ _ => o x (by have := K.rs; omega) (by have := K.rs; omega) (by have := K.rs; omega), hR⟩
theorem SO.cr {R C h : Nat} (O : SO hp0 hp D (D + 171)) (e : hp2.1 = hp.1) (o : ∀ x, (x < R ∨ R + 4 ≤ x) → (x < C ∨ C + 2 ≤ x) → (x < h ∨ h + 8 ≤ x) → hp2.2 x = hp.2 x) (a : D ≤ R ∧ R + 4 ≤ D + 171) (b : D ≤ C ∧ C + 2 ≤ D + 171) (c : D ≤ h ∧ h + 8 ≤ D + 171) : SO hp0 hp2 D (D + 171) := ⟨e.trans O.1, fun x hx => (o x (by omega) (by omega) (by omega)).trans (O.2 x hx)⟩
theorem SO.inn {lo hi : Nat} (O : SO hp0 hp D (D + 171)) (o : SO hp hp2 lo hi) (a : D ≤ lo) (b : hi ≤ D + 171) : SO hp0 hp2 D (D + 171) := O.tr (o.wide a b)
theorem SO.two {a b c d : Nat} (O : SO hp0 hp D (D + 171)) (e : hp2.1 = hp.1) (o : ∀ x, (x < a ∨ b ≤ x) → (x < c ∨ d ≤ x) → hp2.2 x = hp.2 x) (h1 : D ≤ a ∧ b ≤ D + 171) (h2 : D ≤ c ∧ d ≤ D + 171) : SO hp0 hp2 D (D + 171) := ⟨e.trans O.1, fun x hx => (o x (by omega) (by omega)).trans (O.2 x hx)⟩
theorem DA.uGR (K : DA hp D r s Tr z Z T U tx rw rt hs ss KT) (h1 : RowAt hp2 (D + 3) rw2) (h2 : GamesAt hp2 (D + 153)) (o : ∀ x, (x < D + 153 ∨ D + 153 + 4 ≤ x) → (x < D + 3 ∨ D + 3 + 2 ≤ x) → hp2.2 x = hp.2 x) : DA hp2 D r s Tr z Z T U tx rw2 rt hs ss KT := ⟨(o _ (by omega) (by omega)).trans K.ob, K.rs, K.te.off fun x _ _ => o x (by omega) (by omega), h1, K.to.off fun x _ _ => o x (by omega) (by omega), K.tr.off fun x _ _ => o x (by omega) (by omega), K.cl.off fun x _ _ => o x (by omega) (by omega), K.pa.off fun x _ _ => o x (by omega) (by omega), K.k0.off fun x _ _ => o x (by omega) (by omega), K.k1.off fun x _ _ => o x (by omega) (by omega), K.he.off fun x _ _ => o x (by omega) (by omega), K.sh.off fun x _ _ => o x (by omega) (by omega), h2, K.pt.off fun x _ _ => o x (by omega) (by omega), K.dr.off fun x _ _ => o x (by omega) (by omega), K.ru.off fun x _ _ => o x (by have := K.rs; omega) (by have := K.rs; omega), K.sp.off fun x _ _ => o x (by have := K.rs; omega) (by have := K.rs; omega)⟩
theorem DA.uPR (K : DA hp D r s Tr z Z T U tx rw rt hs ss KT) (h1 : RowAt hp2 (D + 3) rw2) (h2 : PartAt hp2 (D + 157)) (o : ∀ x, (x < D + 157 ∨ D + 157 + 5 ≤ x) → (x < D + 3 ∨ D + 3 + 2 ≤ x) → hp2.2 x = hp.2 x) : DA hp2 D r s Tr z Z T U tx rw2 rt hs ss KT := ⟨(o _ (by omega) (by omega)).trans K.ob, K.rs, K.te.off fun x _ _ => o x (by omega) (by omega), h1, K.to.off fun x _ _ => o x (by omega) (by omega), K.tr.off fun x _ _ => o x (by omega) (by omega), K.cl.off fun x _ _ => o x (by omega) (by omega), K.pa.off fun x _ _ => o x (by omega) (by omega), K.k0.off fun x _ _ => o x (by omega) (by omega), K.k1.off fun x _ _ => o x (by omega) (by omega), K.he.off fun x _ _ => o x (by omega) (by omega), K.sh.off fun x _ _ => o x (by omega) (by omega), K.ga.off fun x _ _ => o x (by omega) (by omega), h2, K.dr.off fun x _ _ => o x (by omega) (by omega), K.ru.off fun x _ _ => o x (by have := K.rs; omega) (by have := K.rs; omega), K.sp.off fun x _ _ => o x (by have := K.rs; omega) (by have := K.rs; omega)⟩
theorem DA.uPT (K : DA hp D r s Tr z Z T U tx rw rt hs ss KT) {U2 : List (Nat → Int → Int)} {Z2 : Nat → Int → Int} (h1 : LAt hp2 (D + 23) U2 Z2) (h2 : TownAt hp2 (D + 5) T2) (o : ∀ x, (x < D + 23 ∨ D + 23 + 106 ≤ x) → (x < D + 5 ∨ D + 5 + 8 ≤ x) → hp2.2 x = hp.2 x) : DA hp2 D r s Tr z Z2 T2 U2 tx rw rt hs ss KT := ⟨(o _ (by omega) (by omega)).trans K.ob, K.rs, K.te.off fun x _ _ => o x (by omega) (by omega), K.ro.off fun x _ _ => o x (by omega) (by omega), h2, K.tr.off fun x _ _ => o x (by omega) (by omega), K.cl.off fun x _ _ => o x (by omega) (by omega), h1, K.k0.off fun x _ _ => o x (by omega) (by omega), K.k1.off fun x _ _ => o x (by omega) (by omega), K.he.off fun x _ _ => o x (by omega) (by omega), K.sh.off fun x _ _ => o x (by omega) (by omega), K.ga.off fun x _ _ => o x (by omega) (by omega), K.pt.off fun x _ _ => o x (by omega) (by omega), K.dr.off fun x _ _ => o x (by omega) (by omega), K.ru.off fun x _ _ => o x (by have := K.rs; omega) (by have := K.rs; omega), K.sp.off fun x _ _ => o x (by have := K.rs; omega) (by have := K.rs; omega)⟩
theorem RowAt.o (h : RowAt hp P rw) : OB hp P 6 := by obtain ⟨F, r0, r1⟩ := h; exact ⟨_, r0⟩
theorem TextAt.o (h : TextAt hp P tx) : OB hp P 9 := by obtain ⟨F, r0, r1⟩ := h; exact ⟨_, r0⟩
theorem TownAt.o (h : TownAt hp P T) : OB hp P 10 := ⟨_, h.1⟩
theorem ClockAt.o (h : ClockAt hp P) : OB hp P 0 := ⟨_, h.1⟩
theorem LAt.o (h : LAt hp P U Z) : OB hp P 5 := by obtain ⟨W, nx, p, q⟩ := h; exact ⟨_, p.1⟩
theorem KtA.o {e : Option (Nat → Int → Int)} (h : KtA hp P e) : OB hp P 10 := by obtain ⟨X, p, q⟩ := h; exact ⟨_, p.1⟩
theorem HrA.o (h : HrA hp P hs) : OB hp P 3 := by obtain ⟨A, V, p, q⟩ := h; exact ⟨_, p.1⟩
theorem ShA.o (h : ShA hp P ss) : OB hp P 8 := by obtain ⟨A, V, W, p, q⟩ := h; exact ⟨_, p.1⟩
theorem GamesAt.o (h : GamesAt hp P) : OB hp P 2 := ⟨_, h.1⟩
theorem PartAt.o (h : PartAt hp P) : OB hp P 4 := by obtain ⟨⟨n, p0⟩, p⟩ := h; exact ⟨_, p0⟩
theorem DrawAt.o (h : DrawAt hp P z) : OB hp P 1 := ⟨_, h⟩
theorem RuleAt.o {cs : List Int} (h : RuleAt hp P cs) : OB hp P 7 := by obtain ⟨⟨s, ln, at_, Sg, St, Sk, r0, rr⟩, h2⟩ := h; exact ⟨_, r0⟩
theorem RawAt.o (h : RawAt hp P) : OB hp P 7 := by obtain ⟨x, y, z, Sg, St, Sk, s, r0, rr⟩ := h; exact ⟨_, r0⟩
theorem DA.o (K : DA hp D r s Tr z Z T U tx rw rt hs ss KT) : OB hp D 11 := ⟨_, K.ob⟩
theorem wd_ias {M : MI} {R : Room} {Q : Option Value → Hp → Prop} {k n pc : Nat} {ls : List (Option Value)} {st : List Value} {i v : Int} {c L2 : Nat} {f : Int → Int} (d : decode M.2.1 pc = .ok (.iastore, 1)) (K : DA hp D r s Tr z Z T U tx rw rt hs ss KT) (O : SO hp0 hp D (D + 171)) (hc : hp.2 c = some (.inl (.int, L2, f))) (hc1 : D + 5 ≤ c ∧ c < D + 13) (h0 : 0 ≤ i) (h1 : i < L2) (hL : L2 < 2147483648) (hT : TownAt (hset hp c (.inl (.int, L2, updI f i v))) (D + 5) T2) (h : ∀ hp', DA hp' D r s Tr z Z T2 U tx rw rt hs ss KT → SO hp0 hp' D (D + 171) → wp g M R Q k n (pc + 1) ls st hp') : wp g M R Q k n pc ls (.int (I v) :: .int (I i) :: .ref c :: st) hp :=
  wp_iast d hc h0 h1 hL (h _ (K.uTo hT (SO.rf.set (by omega) (by omega))) (O.set (by omega) (by omega)))
theorem wd_pop {M : MI} {R : Room} {Q : Option Value → Hp → Prop} {k n pc idx : Nat} {ls : List (Option Value)} {st : List Value} {v : Int} {ty : FieldType} {fin : Bool} (d : decode M.2.1 pc = .ok (.putfield idx, 3)) (G : PF M.1.cls idx 10 8 ty fin) (K : DA hp D r s Tr z Z T U tx rw rt hs ss KT) (O : SO hp0 hp D (D + 171)) (hn : narrow ty (cv g (.int (I v))) = cv g (.int (I v))) (hfit : fits ty (cv g (.int (I v))) = true) (hini : fin = true → M.1.name = "<init>") (h : ∀ hp', DA hp' D r s Tr z Z (up T 8 0 v) U tx rw rt hs ss KT → SO hp0 hp' D (D + 171) → wp g M R Q k n (pc + 3) ls st hp') : wp g M R Q k n pc ls (.int (I v) :: .ref (D + 5) :: st) hp := by
  obtain ⟨t0, t1, t2, t3, t4, t5, t6, t7⟩ := K.to
  refine wp_putf d G t0 (by first | decide | exact Nat.lt_of_sub_pos (by decide) | simp) hn hfit hini (h _ (K.uTo ⟨?_, hset_at (by omega) t1, hset_at (by omega) t2, hset_at (by omega) t3, hset_at (by omega) t4, hset_at (by omega) t5, hset_at (by omega) t6, hset_at (by omega) t7⟩ (SO.rf.set (by omega) (by omega))) (O.set (by omega) (by omega)))
  rw [hset_eq]
  rfl
theorem sp_L_note (hP : LAt hp P U Z) (hT : TownAt hp h T) (hd : h + 8 ≤ P ∨ P + 106 ≤ h) : Sp g MX5_note (rm 2 0 0) [.ref P, .ref h] hp (Vod (fun hp2 => LAt hp2 P U T ∧ SO hp hp2 P (P + 106))) := by
  obtain ⟨W, nx, p, hW, e⟩ := hP
  have h1 := p.2.2.2.1
  have h2 := p.2.2.2.2
  refine Sp_post (sp_Past_note p hT hd) (fun v hp3 hv => ⟨hv.1, ⟨upW W nx T, nx, hv.2.1, fun i hi => ?_, if_pos rfl⟩, hv.2.2⟩)
  show (if _ = nx then T else W _) = _
  rw [if_neg (by omega)]
  exact hW i hi
theorem sp_L_keep (hP : LAt hp P U Z) : Sp g MX5_keepNoted (rm 1 0 0) [.ref P] hp (Vod (fun hp2 => (∃ Z2, LAt hp2 P ((Z :: U).take 12) Z2) ∧ SO hp hp2 P (P + 106))) := by
  obtain ⟨W, nx, p, hW, e⟩ := hP
  have h1 := p.2.2.2.1
  have h2 := p.2.2.2.2
  refine Sp_post (sp_Past_keepNoted p) (fun v hp3 hv => ⟨hv.1, ⟨_, W, (nx + 1) % 13, ?_, fun i hi => ?_, rfl⟩, hv.2.2⟩)
  · have e2 : ((Z :: U).take 12).length = min 12 (U.length + 1) := by rw [List.length_take]; rfl
    rw [e2]
    exact hv.2.1
  · have e2 : ((Z :: U).take 12).length = min 12 (U.length + 1) := by rw [List.length_take]; rfl
    rw [e2] at hi
    match i, hi with
    | 0, _ =>
      rw [show ((nx + 1) % 13 + 12 - 0) % 13 = nx by omega, e]
      simp
    | j + 1, hi =>
      have hj := hW j (by omega)
      rw [show ((nx + 1) % 13 + 12 - (j + 1)) % 13 = (nx + 12 - j) % 13 by omega, hj]
      simp only [List.getD_eq_getElem?_getD, List.getElem?_take]
      rw [if_pos (by omega)]
      rfl
theorem sp_L_forget (hP : LAt hp P U Z) : Sp g MX5_forgetAll (rm 0 0 0) [.ref P] hp (Vod (fun hp2 => LAt hp2 P [] Z ∧ SO hp hp2 P (P + 106))) := by
  obtain ⟨W, nx, p, hW, e⟩ := hP
  exact Sp_post (sp_Past_forgetAll p) (fun v hp3 hv => ⟨hv.1, ⟨W, nx, hv.2.1, fun i hi => absurd hi (by simp), e⟩, hv.2.2⟩)
theorem sp_L_size (hP : LAt hp P U Z) : Sp g MX5_size (rm 0 0 0) [.ref P] hp (Pur (.int (I (U.length : Int))) hp) := by
  obtain ⟨W, nx, p, hW, e⟩ := hP
  exact sp_Past_size p
theorem sp_L_back0 (hP : LAt hp P U Z) (h0 : U.length = 0) : Sp g MX5_back (rm 2 0 0) [.ref P, .ref h] hp (Pur (.int (B False)) hp) := by
  obtain ⟨W, nx, p, hW, e⟩ := hP
  rw [h0] at p
  exact sp_Past_back0 p
theorem sp_L_back (hP : LAt hp P U Z) (h0 : ¬ U.length = 0) (hT : TownAt hp h T) (hd : h + 8 ≤ P ∨ P + 106 ≤ h) : Sp g MX5_back (rm 2 0 0) [.ref P, .ref h] hp (Eff (.int (B True)) (fun hp2 => LAt hp2 P U.tail (U.headD T) ∧ TownAt hp2 h (U.headD T) ∧ (∀ x, (x < P ∨ P + 106 ≤ x) → (x < h ∨ h + 8 ≤ x) → hp2.2 x = hp.2 x) ∧ hp2.1 = hp.1)) := by
  obtain ⟨W, nx, p, hW, e⟩ := hP
  have h1 := p.2.2.2.1
  have h2 := p.2.2.2.2
  match U, h0, p, hW with
  | [], h0, _, _ => exact absurd rfl h0
  | Y :: U, _, p, hW =>
    have e0 : W ((nx + 12) % 13) = Y := hW 0 (by simp)
    refine Sp_post (sp_Past_back (sz := U.length) p hT hd) (fun v hp3 hv => ⟨hv.1, ⟨W, (nx + 12) % 13, hv.2.1, fun i hi => ?_, e0⟩, ?_, hv.2.2.2⟩)
    · have hl : (Y :: U).length = U.length + 1 := rfl
      have hi' : i < U.length := hi
      have := hW (i + 1) (by omega)
      rw [show ((nx + 12) % 13 + 12 - i) % 13 = (nx + 12 - (i + 1)) % 13 by omega, this]
      rfl
    · have := hv.2.2.1
      rw [e0] at this
      exact this
theorem sp_H_size (k : HrA hp P hs) : Sp g MX3_size (rm 0 0 0) [.ref P] hp (Pur (.int (I (hs.length : Int))) hp) := by
  obtain ⟨A, V, p, q⟩ := k
  exact sp_Hearsay_size p
theorem sp_H_clear (k : HrA hp P hs) : Sp g MX3_clear (rm 0 0 0) [.ref P] hp (Eff (.int (I (hs.length : Int))) (fun hp2 => HrA hp2 P [] ∧ SO hp hp2 P (P + 3))) := by
  obtain ⟨A, V, p, q⟩ := k
  exact Sp_post (sp_Hearsay_clear p) (fun v hp3 hv => ⟨hv.1, ⟨A, V, hv.2.1, fun i hi => absurd hi (by simp)⟩, hv.2.2⟩)
theorem sp_H_add (k : HrA hp P hs) (rx : InR x) (ry : InR y) : Sp g MX3_add (rm 1 0 0) [.ref P, .int (I x), .int (I y)] hp (Eff (.int (I (if heO2 hs x y then (hs.length : Int) + 1 else -1))) (fun hp2 => HrA hp2 P (if heO2 hs x y then hs ++ [(x, y)] else hs) ∧ SO hp hp2 P (P + 3))) := by
  obtain ⟨A, V, p, q⟩ := k
  refine Sp_post (sp_Hearsay_add p rx ry) (fun v hp3 hv => ⟨hv.1, ?_, hv.2.2⟩)
  have hv2 := hv.2.1
  by_cases c : heO2 hs x y
  · rw [if_pos c] at hv2 ⊢
    refine ⟨_, _, by rw [List.length_append]; exact hv2, fun i hi => ?_⟩
    rw [List.length_append] at hi
    have hi' : i < hs.length + 1 := hi
    by_cases e : i = hs.length
    · subst e
      rw [updI_eq, updI_eq]
      simp
    · rw [updI_ne (by omega), updI_ne (by omega)]
      have := q i (by omega)
      simp only [List.getD_eq_getElem?_getD, List.getElem?_append_left (show i < hs.length by omega)] at this ⊢
      exact this
  · rw [if_neg c] at hv2 ⊢
    exact ⟨A, V, hv2, q⟩
theorem allb_cg {P Q : Nat → Bool} : ∀ n : Nat, (∀ i, i < n → P i = Q i) → allb P n = allb Q n
  | 0, _ => rfl
  | n + 1, e => by
    show (allb P n && P n) = (allb Q n && Q n)
    rw [allb_cg n (fun i hi => e i (by omega)), e n (by omega)]
theorem sp_H_fit {R : Nat} {cs : List Int} (hI : TI T N) (d1 : P + 3 ≤ R ∨ R + 4 ≤ P) (d2 : h + 8 ≤ R ∨ R + 4 ≤ h) (k : HrA hp P hs) (hT : TownAt hp h T) (hR : RuleAt hp R cs) : Sp g MX3_fitting (rm 4 0 0) [.ref P, .ref h, .ref R] hp (Eff (.int (I ((bits (ftL cs T N hs) N : Nat) : Int))) (fun hp2 => RuleAt hp2 R cs ∧ SO hp hp2 R (R + 4))) := by
  obtain ⟨A, V, p, q⟩ := k
  have e : ftP cs T N A V hs.length = ftL cs T N hs := by
    funext k
    exact allb_cg _ (fun i hi => by rw [(q i hi).1, (q i hi).2])
  rw [← e]
  exact sp_Hearsay_fitting hI d1 d2 p hT hR
theorem sp_S_size (k : ShA hp P ss) : Sp g MX8_size (rm 0 0 0) [.ref P] hp (Pur (.int (I (ss.length : Int))) hp) := by
  obtain ⟨A, V, W, p, q⟩ := k
  exact sp_Shifts_size p
theorem sp_S_clear (k : ShA hp P ss) : Sp g MX8_clear (rm 0 0 0) [.ref P] hp (Eff (.int (I (ss.length : Int))) (fun hp2 => ShA hp2 P [] ∧ SO hp hp2 P (P + 5))) := by
  obtain ⟨A, V, W, p, q⟩ := k
  exact Sp_post (sp_Shifts_clear p) (fun v hp3 hv => ⟨hv.1, ⟨A, V, W, hv.2.1, fun i hi => absurd hi (by simp)⟩, hv.2.2⟩)
theorem sp_S_add {c : Int} (k : ShA hp P ss) (rx : InR x) (ry : InR y) (rc : InR c) : Sp g MX8_add (rm 0 0 0) [.ref P, .int (I x), .int (I y), .int (I c)] hp (Eff (.int (I (if liO ss x y c then (ss.length : Int) + 1 else -1))) (fun hp2 => ShA hp2 P (if liO ss x y c then ss ++ [(x, y, c)] else ss) ∧ SO hp hp2 P (P + 5))) := by
  obtain ⟨A, V, W, p, q⟩ := k
  refine Sp_post (sp_Shifts_add p rx ry rc) (fun v hp3 hv => ⟨hv.1, ?_, hv.2.2⟩)
  have hv2 := hv.2.1
  by_cases c' : liO ss x y c
  · rw [if_pos c'] at hv2 ⊢
    refine ⟨_, _, _, by rw [List.length_append]; exact hv2, fun i hi => ?_⟩
    rw [List.length_append] at hi
    have hi' : i < ss.length + 1 := hi
    by_cases e : i = ss.length
    · subst e
      rw [updI_eq, updI_eq, updI_eq]
      simp
    · rw [updI_ne (by omega), updI_ne (by omega), updI_ne (by omega)]
      have := q i (by omega)
      simp only [List.getD_eq_getElem?_getD, List.getElem?_append_left (show i < ss.length by omega)] at this ⊢
      exact this
  · rw [if_neg c'] at hv2 ⊢
    exact ⟨A, V, W, hv2, q⟩
end DS

