section CA
variable {g : GT} {M : MI} {R : Room} {Q : Option Value → Hp → Prop} {k n pc : Nat} {ls : List (Option Value)} {st : List Value} {hp : Hp}
def rm (d mc ms : Nat) : Room := { frames := d, cells := mc, slots := ms, locals := 45 * d }
/-! making -/
def NW (own : String) (idx ci N : Nat) (fs : List Value) : Prop := ∃ (C : String) (T : u_T) (ty0 : Nat → FieldType), classes[ci]? = some (C, T, N) ∧ (∀ w ∈ u_ws C T N, w ∈ gt) ∧ (∀ j, j < N → parseFieldDescriptor (T j).2.2.1 = some (ty0 j)) ∧ (∀ j, j < N → defaultValue (ty0 j) = vp_V fs j) ∧ Cond.classLink own idx C ∈ gt ∧ Cond.instantiable C N ∈ gt ∧ Cond.initialized C ∈ gt
theorem wp_new {idx ci N : Nat} {fs : List Value} (d : decode M.2.1 pc = .ok (.new idx, 3)) (G : NW M.1.cls idx ci N fs) (hfs : fs.map (cv g) = fs) (hk : k + 1 ≤ R.cells) (hn : n + N ≤ R.slots) (h : wp g M R Q (k + 1) (n + N) (pc + 3) ls (.ref (hp.1 + 4) :: st) (hnew hp (.inr (.inr (ci, fs))))) : wp g M R Q k n pc ls st hp := by
  intro p e s m args below meth c H locs lsA C P L A
  obtain ⟨CC, T, ty0, hc, hin, hty, hdf, h1, h2, h3⟩ := G
  have hts := C.2.2.2.2.2.1
  have hKn := C.2.2.2.2.2.2.2.2.1.1 ci _ hc
  refine W.newcK C.1 C.2.1 C.2.2.2.2.1 (hts _ h1) (hts _ h2) (hts _ h3) rfl d hk hn hKn.2.1 rfl fun H1 kC hkC e1 z1 o1 => ?_
  have ea := ad_new P
  have := h p e s m args below meth c H1 locs lsA C (P.new z1 o1 ⟨_, hc, by rw [ea, hfs]; exact (u_born ty0 hts hin hKn hkC e1 hty).to hdf⟩) L A
  rw [List.map_cons, show cv g (.ref (hp.1 + 4)) = .ref (ad g (hp.1 + 4)) from rfl, ea] at this
  exact this
theorem wp_newa {atype : ArrayType} {ty : FieldType} {N : Nat} {z : Int} (d : decode M.2.1 pc = .ok (.newarray atype, 2)) (hty : newarray.typeOf atype = ty) (hz : z = (N : Int)) (hN : N < 60000000) (hdv : defaultValue ty = vof ty 0) (hcb : componentBytes ty ≤ 8) (hA : Cond.arrayClass ty ∈ gt) (hk : k + 1 ≤ R.cells) (hn : n + N ≤ R.slots) (h : wp g M R Q (k + 1) (n + N) (pc + 2) ls (.ref (hp.1 + 4) :: st) (hnew hp (.inl (ty, N, fun _ => 0)))) : wp g M R Q k n pc ls (.int (I z) :: st) hp := by
  intro p e s m args below meth c H locs lsA C P L A
  subst hty
  subst hz
  have hts := C.2.2.2.2.2.1
  have ea := ad_new P
  have r : InR (N : Int) := by omega
  have e0 : (I (N : Int)).toNatClampNeg = N := by
    show (I (N : Int)).toInt.toNat = N
    rw [I_toInt r]; omega
  refine va_newaK C.1 C.2.1 (hts _ hA) rfl d rfl (by rw [← I_0, I_lt r (by omega)]; omega) e0 (Nat.le_trans (Nat.mul_le_mul_left N hcb) (by omega)) hk hn rfl fun H1 cA e1 z1 o1 hAr _ => ?_
  have := h p e s m args below meth c H1 locs lsA C (P.new z1 o1 ⟨cA, by rw [ea, e1, hdv], hAr⟩) L A
  rw [List.map_cons, show cv g (.ref (hp.1 + 4)) = .ref (ad g (hp.1 + 4)) from rfl, ea] at this
  exact this
theorem wp_anew {idx : Nat} {CN : String} {N : Nat} {z : Int} (d : decode M.2.1 pc = .ok (.anewarray idx, 3)) (h1 : Cond.classLink M.1.cls idx CN ∈ gt) (h2 : Cond.arrayOver (.object CN) ∈ lw_tbl) (hz : z = (N : Int)) (hN : N < 60000000) (hk : k + 1 ≤ R.cells) (hn : n + N ≤ R.slots) (h : wp g M R Q (k + 1) (n + N) (pc + 3) ls (.ref (hp.1 + 4) :: st) (hnew hp (.inr (.inl (CN, N, fun _ => none))))) : wp g M R Q k n pc ls (.int (I z) :: st) hp := by
  intro p e s m args below meth c H locs lsA C P L A
  subst hz
  have hts := C.2.2.2.2.2.1
  have ea := ad_new P
  have r : InR (N : Int) := by omega
  have e0 : (I (N : Int)).toNatClampNeg = N := by
    show (I (N : Int)).toInt.toNat = N
    rw [I_toInt r]; omega
  obtain ⟨s0, O, hal, -⟩ := C.2.2.2.2.2.2.2.2.2.2
  have hao : va_AO CN s := va_AO.moved hal (va_AO.of (O.2.2.2.2.2.1 _ h2))
  refine W.anew C.1 C.2.1 C.2.2.2.2.1 (hts _ h1) (va_AO.use hao) rfl d rfl (by rw [← I_0, I_lt r (by omega)]; omega) (by rw [e0]; omega) hk (by rw [e0]; exact hn) fun cA kA comp f1 f2 f3 f4 => ?_
  rw [e0]
  generalize hH1 : H.push ({ cls := cA, slots := Array.replicate N .null, vm := .none } : Cell) = H1
  have z1 : H1.size = H.size + 1 := by rw [← hH1, Array.size_push]
  have e1 : H1[H.size]? = some (arrV cA N (fun _ => .null)) := by rw [← hH1, Array.getElem?_push_size, ← arrV_new]
  have o1 : ∀ q : Nat, q < H.size → H1[q]? = H[q]? := fun q hq => by rw [← hH1, Array.getElem?_push, if_neg (Nat.ne_of_lt hq)]
  have hAr : ArrOfT s cA (.object CN) := fun N z => ⟨(fun k h => by cases h), kA, f2, comp, f3⟩
  have := h p e s m args below meth c H1 locs lsA C (P.new z1 o1 ⟨cA, by rw [ea, e1]; rfl, hAr, kA, comp, f2, f3, f4, f1⟩) L A
  rw [List.map_cons, show cv g (.ref (hp.1 + 4)) = .ref (ad g (hp.1 + 4)) from rfl, ea] at this
  exact this
def updR (f : Nat → Option Nat) (i : Nat) (v : Option Nat) : Nat → Option Nat := fun x => if x = i then v else f x
theorem wp_aald {a N b : Nat} {CN : String} {f : Nat → Option Nat} {i : Int} (d : decode M.2.1 pc = .ok (.aaload, 1)) (ho : hp.2 a = some (.inr (.inl (CN, N, f)))) (h0 : 0 ≤ i) (h1 : i < N) (hN : N < 2147483648) (hb : f i.toNat = some b) (h : wp g M R Q k n (pc + 1) ls (.ref b :: st) hp) : wp g M R Q k n pc ls (.int (I i) :: .ref a :: st) hp := by
  intro p e s m args below meth c H locs lsA C P L A
  obtain ⟨cA, g1, g2, -⟩ := (P.2.2 a _ ho).2
  obtain ⟨j1, j2⟩ := I_in h0 h1 hN
  have e1 : (I i).toNatClampNeg = i.toNat := by omega
  refine W.aald C.1 C.2.1 (v := .ref (ad g b)) g1 (g2 _ _) rfl (fun z => by cases z) (by rw [arrV_size]; exact j1) ?_ rfl rfl d (h p e s m args below meth c H locs lsA C P L A)
  rw [arrV_read _ _ (show _ < N by omega), e1]
  show some (orf g (f i.toNat)) = _
  rw [hb]
  rfl
theorem wp_aast {a N b ci : Nat} {CN : String} {fs : List Value} {f : Nat → Option Nat} {i : Int} (d : decode M.2.1 pc = .ok (.aastore, 1)) (ho : hp.2 a = some (.inr (.inl (CN, N, f)))) (h0 : 0 ≤ i) (h1 : i < N) (hN : N < 2147483648) (hb : hp.2 b = some (.inr (.inr (ci, fs)))) (hc : (classes[ci]?).map (fun r => r.1) = some CN) (h : wp g M R Q k n (pc + 1) ls st (hset hp a (.inr (.inl (CN, N, updR f i.toNat (some b)))))) : wp g M R Q k n pc ls (.ref b :: .int (I i) :: .ref a :: st) hp := by
  intro p e s m args below meth c H locs lsA C P L A
  obtain ⟨h2, cA, g1, g2, kA, comp, k1, k2, k3, k4⟩ := P.2.2 a _ ho
  obtain ⟨-, r, hr, cellV, v1, v2, v3, -⟩ := P.2.2 b _ hb
  obtain ⟨j1, j2⟩ := I_in h0 h1 hN
  have e1 : (I i).toNatClampNeg = i.toNat := by omega
  have hcls := (C.2.2.2.2.2.2.2.2.1.1 ci r hr).2
  have hrc : r.1 = CN := by rw [hr] at hc; exact Option.some.inj hc
  have hcomp : comp = (dCI g).1 ci := Option.some.inj (k3.symm.trans (by rw [← hrc]; exact hcls.1))
  subst hcomp
  obtain ⟨kC, hkC, -⟩ := hcls.2
  refine W.aast C.1 C.2.1 g1 (fun q h => by cases h) (fun h => by cases h) k1 k2 rfl hkC ⟨fun z => j1 (Or.inl z), by rw [arrV_size]; show _ < N; omega⟩ v1 (fun q h => by rw [v3] at h; cases h) (by rw [v2]; exact hkC) (by rw [v2]; exact va_assign hcls) rfl rfl d (fun H' e1' e2 e3 => ?_)
  refine h p e s m args below meth c H' _ lsA C (P.set ho e2 e3 ⟨cA, ?_, g2, kA, _, k1, k2, k3, k4⟩) (base_app L h2) A
  rw [e1', e1, arrV_store]
  congr 2
  funext q
  show (if q = i.toNat then Value.ref (ad g b) else orf g (f q)) = orf g (if q = i.toNat then some b else f q)
  by_cases z : q = i.toNat
  · rw [if_pos z, if_pos z]; rfl
  · rw [if_neg z, if_neg z]
/-! calls -/
theorem pre_blind {as : List Value} : FrameBlind (va_Pc (as.map (cv g)) (fun U => KK g U ∧ Rep g U hp U.heap)) := by
  intro a U fr mk q
  obtain ⟨q0, q1, q2⟩ := q
  exact ⟨q0, KK.same (s := U) (U := U.calling fr mk a) rfl q1, Rep.moved (s := U) (U := U.calling fr mk a) (Vm.Alike.refl U.vm) q2⟩
theorem pre_at {as : List Value} {s : State} {H : Heap} (hK : KK g s) (P : Rep g s hp H) : ∀ U : State, U.heap = H → s.WarmedH U.vm → va_Pc (as.map (cv g)) (fun U => KK g U ∧ Rep g U hp U.heap) (as.map (cv g)).toArray U := by
  intro U hU hW
  exact ⟨rfl, hK.moved hW, by rw [hU]; exact P.moved hW.alike⟩
theorem run_then {p : Program} {e : Env} {s : State} {m : MethodId} {args : Array Value} {below : List Frame} {meth : Method} {c : Code} {H : Heap} {locs : List Loc} {lsA : Array Slot} {mc ms : Nat} {Q' : Option Value → Hp → Prop} {a : Array Value} {st0 : List Value} (C : MC g M p s m args meth c) (L : ∀ q ∈ locs, bs g ≤ q.base) (A : LR g M.2.2.1 ls lsA)
    (hr : va_Run p g.1 e R s m args below meth c H locs k n mc ms (F0 m pc lsA st0) (st.map (cv g)) (QcOf g Q' a) (fun q => bs g ≤ q)) (h : ∀ v hp', Q' v hp' → wp g M R Q (k + mc) (n + ms) (pc + 3) ls (v.toList ++ st) hp') :
    W p g.1 e R s m args below meth c H locs k n (MQ below (QcOf g Q) args s R.cells R.slots (fun q => bs g ≤ q)) (F0 m pc lsA st0) := by
  intro T hT X
  obtain ⟨v, st₀, t, T', L', h0, X', hL, e1, e2, ⟨w, hp', hv, hq, hrep⟩, stp⟩ := hr T hT X
  cases hv
  have hal : t.vm.Alike s.vm := by rw [← e2]; exact X'.warmed.alike.symm
  have h1 := h w hp' hq p e s m args below meth c T'.heap (locs ++ L') lsA C (by rw [e1]; exact hrep.moved hal) (fun q hq => (List.mem_append.mp hq).elim (L q) (hL q)) A T' rfl X'
  obtain ⟨t2, a1, b1⟩ := h1
  refine ⟨t2, stp t2 ?_, b1⟩
  have : (w.toList ++ st).map (cv g) = (w.map (cv g)).toList ++ st.map (cv g) := by cases w <;> simp
  rw [this] at a1
  exact a1
/-- what a callee's name asks of the tables -/
def CB (own : String) (idx : Nat) (M' : MI) (j : Nat) : Prop := (Cond.methodLink own idx M'.1 ∈ gt ∨ ∃ host, Cond.methodLinkNest own idx M'.1 host ∈ nt) ∧ Cond.initialized M'.1.cls ∈ gt ∧ Cond.code M'.1 M'.2.1 M'.2.2.1 M'.2.2.2 ∈ gt ∧ (M'.1.cls ≠ "java/lang/invoke/MethodHandle" ∧ M'.1.cls ≠ "java/lang/invoke/VarHandle" ∧ (parseMethodDescriptor M'.1.desc).map (fun d => d.parameters.length) = some j)
def CV (own : String) (idx : Nat) (M' : MI) (j : Nat) : Prop := CB own idx M' j ∧ Cond.instanceMethod M'.1 ∈ gt ∧ Cond.selects M'.1.cls M'.1 M'.1 ∈ gt
def CS (own : String) (idx : Nat) (M' : MI) (j : Nat) : Prop := CB own idx M' j ∧ Cond.static M'.1 ∈ gt
def CI (own : String) (idx : Nat) (M' : MI) (j : Nat) : Prop := CB own idx M' j ∧ Cond.instanceMethod M'.1 ∈ gt ∧ M'.1.name = "<init>" ∧ M'.2.2.2 = none
theorem code_good {M' : MI} (h : Cond.code M'.1 M'.2.1 M'.2.2.1 M'.2.2.2 ∈ gt) : GoodIn gt (.code M'.1 M'.2.1 M'.2.2.1 M'.2.2.2 :: gt) := gt_good fun w hw => (List.mem_cons.mp hw).elim (fun e => by rw [e]; exact h) id
abbrev RmOk (R R' : Room) (mL k n : Nat) : Prop := R'.frames + 1 ≤ R.frames ∧ 8 + (mL + 11) + R'.locals ≤ R.locals ∧ k + R'.cells ≤ R.cells ∧ n + R'.slots ≤ R.slots
theorem wp_callV {M' : MI} {R' : Room} {as : List Value} {a idx ci : Nat} {fs : List Value} {Q' : Option Value → Hp → Prop} (d : decode M.2.1 pc = .ok (.invokevirtual idx, 3)) (G : CV M.1.cls idx M' as.length) (ho : hp.2 a = some (.inr (.inr (ci, fs)))) (hci : (classes[ci]?).map (fun r => r.1) = some M'.1.cls) (S : Sp g M' R' (.ref a :: as) hp Q') (hR : RmOk R R' M'.2.2.1 k n) (hst : (st.map fun v => v.category).sum ≤ 8) {st0 : List Value} (hs0 : st0 = as.reverse ++ .ref a :: st)
    (h : ∀ v hp', Q' v hp' → wp g M R Q (k + R'.cells) (n + R'.slots) (pc + 3) ls (v.toList ++ st) hp') : wp g M R Q k n pc ls st0 hp := by
  intro p e s m args below meth c H locs lsA C P L A
  subst hs0
  have hts := C.2.2.2.2.2.1
  have hK := C.2.2.2.2.2.2.2.2
  obtain ⟨⟨hl, hini, hcode, hd⟩, hin, hsel⟩ := G
  obtain ⟨r, hr, cellB, v1, v2, v3, -⟩ := (P.2.2 a _ ho).2
  have hrc : r.1 = M'.1.cls := by rw [hr] at hci; exact Option.some.inj hci
  have hrecv : ∃ cell : Cell, H[ad g a]? = some cell ∧ cell.vm.isStatics = false ∧ s.vm.findClass M'.1.cls = some cell.cls := ⟨cellB, v1, by rw [v3]; rfl, by rw [v2, ← hrc]; exact (hK.1.1 ci r hr).2.1⟩
  have hcat : ((st.map (cv g)).map fun v => v.category).sum ≤ 8 := by
    rw [List.map_map]
    exact Nat.le_trans (Nat.le_of_eq (congrArg List.sum (List.map_congr_left fun v _ => cv_cat g v))) hst
  have hstk : (as.reverse ++ Value.ref a :: st).map (cv g) = (as.map (cv g)).reverse ++ Value.ref (ad g a) :: st.map (cv g) := by simp [cv]
  have hPre : PreV s H M'.1.cls (ad g a) (va_Pc ((Value.ref a :: as).map (cv g)) (fun U => KK g U ∧ Rep g U hp U.heap)) (as.map (cv g)) := ⟨pre_blind, hrecv, pre_at (as := Value.ref a :: as) hK P⟩
  rw [hstk]
  refine run_then (a := (Value.ref (ad g a) :: as.map (cv g)).toArray) C L A ?_ h
  rcases hl with hl | ⟨host, hl⟩
  · exact va_runV (Ts := gt) (own := M.1.cls) (C := M'.1.cls) (As := as.map (cv g)) ⟨C.1, C.2.1, C.2.2.1, C.2.2.2.2.1, hts⟩ S ⟨callB_of as.length hts (code_good hcode) rfl rfl rfl (hts _ hini) (hts _ hl) hd ⟨hR.1, hR.2.1⟩, hts _ hin, hts _ hsel⟩ hPre rfl (by simp) A.1 rfl (lv_room hcat) d ⟨hR.2.2.1, hR.2.2.2⟩
  · exact va_runVN (Ts := gt) (own := M.1.cls) (C := M'.1.cls) (As := as.map (cv g)) ⟨C.1, C.2.1, C.2.2.1, C.2.2.2.2.1, hts⟩ S ⟨va_cnB as.length hts (code_good hcode) rfl rfl rfl (hK.2.1 _ hl) (hts _ hini) hd ⟨hR.1, hR.2.1⟩, hts _ hin, hts _ hsel⟩ hPre rfl (by simp) A.1 rfl (lv_room hcat) d ⟨hR.2.2.1, hR.2.2.2⟩
theorem wp_callS {M' : MI} {R' : Room} {as : List Value} {idx : Nat} {Q' : Option Value → Hp → Prop} (d : decode M.2.1 pc = .ok (.invokestatic idx, 3)) (G : CS M.1.cls idx M' as.length) (S : Sp g M' R' as hp Q') (hR : RmOk R R' M'.2.2.1 k n) (hst : (st.map fun v => v.category).sum ≤ 8) {st0 : List Value} (hs0 : st0 = as.reverse ++ st)
    (h : ∀ v hp', Q' v hp' → wp g M R Q (k + R'.cells) (n + R'.slots) (pc + 3) ls (v.toList ++ st) hp') : wp g M R Q k n pc ls st0 hp := by
  intro p e s m args below meth c H locs lsA C P L A
  subst hs0
  have hts := C.2.2.2.2.2.1
  have hK := C.2.2.2.2.2.2.2.2
  obtain ⟨⟨hl, hini, hcode, hd⟩, hsta⟩ := G
  have hcat : ((st.map (cv g)).map fun v => v.category).sum ≤ 8 := by
    rw [List.map_map]
    exact Nat.le_trans (Nat.le_of_eq (congrArg List.sum (List.map_congr_left fun v _ => cv_cat g v))) hst
  have hstk : (as.reverse ++ st).map (cv g) = (as.map (cv g)).reverse ++ st.map (cv g) := by simp
  have hPre : PreS s H (va_Pc (as.map (cv g)) (fun U => KK g U ∧ Rep g U hp U.heap)) (as.map (cv g)) := ⟨pre_blind, pre_at hK P⟩
  rw [hstk]
  refine run_then (a := (as.map (cv g)).toArray) C L A ?_ h
  rcases hl with hl | ⟨host, hl⟩
  · exact va_runS (Ts := gt) (own := M.1.cls) (As := as.map (cv g)) ⟨C.1, C.2.1, C.2.2.1, C.2.2.2.2.1, hts⟩ S ⟨callB_of as.length hts (code_good hcode) rfl rfl rfl (hts _ hini) (hts _ hl) hd ⟨hR.1, hR.2.1⟩, hts _ hsta⟩ hPre rfl (by simp) A.1 rfl (lv_room hcat) d ⟨hR.2.2.1, hR.2.2.2⟩
  · exact va_runSN (Ts := gt) (own := M.1.cls) (As := as.map (cv g)) ⟨C.1, C.2.1, C.2.2.1, C.2.2.2.2.1, hts⟩ S ⟨va_cnB as.length hts (code_good hcode) rfl rfl rfl (hK.2.1 _ hl) (hts _ hini) hd ⟨hR.1, hR.2.1⟩, hts _ hsta, trivial⟩ hPre rfl (by simp) A.1 rfl (lv_room hcat) d ⟨hR.2.2.1, hR.2.2.2⟩
theorem wp_callI {y : MethodName} {bytes : ByteArray} {mL : Nat} {R' : Room} {as : List Value} {a idx : Nat} {Q' : Option Value → Hp → Prop} (d : decode M.2.1 pc = .ok (.invokespecial idx, 3)) (G : CI M.1.cls idx (y, bytes, mL, none) as.length) (S : Sp g (y, bytes, mL, none) R' (.ref a :: as) hp Q') (hR : RmOk R R' mL k n) (hst : (st.map fun v => v.category).sum ≤ 8) {st0 : List Value} (hs0 : st0 = as.reverse ++ .ref a :: st)
    (h : ∀ v hp', Q' v hp' → wp g M R Q (k + R'.cells) (n + R'.slots) (pc + 3) ls (v.toList ++ st) hp') : wp g M R Q k n pc ls st0 hp := by
  intro p e s m args below meth c H locs lsA C P L A
  subst hs0
  have hts := C.2.2.2.2.2.1
  have hK := C.2.2.2.2.2.2.2.2
  obtain ⟨⟨hl, hini, hcode, hd⟩, hin, hnm, -⟩ := G
  have hcat : ((st.map (cv g)).map fun v => v.category).sum ≤ 8 := by
    rw [List.map_map]
    exact Nat.le_trans (Nat.le_of_eq (congrArg List.sum (List.map_congr_left fun v _ => cv_cat g v))) hst
  have hstk : (as.reverse ++ Value.ref a :: st).map (cv g) = (as.map (cv g)).reverse ++ Value.ref (ad g a) :: st.map (cv g) := by simp [cv]
  have hPre : PreS s H (va_Pc ((Value.ref a :: as).map (cv g)) (fun U => KK g U ∧ Rep g U hp U.heap)) (Value.ref (ad g a) :: as.map (cv g)) := ⟨pre_blind, pre_at (as := Value.ref a :: as) hK P⟩
  rw [hstk]
  refine run_then (a := (Value.ref (ad g a) :: as.map (cv g)).toArray) C L A ?_ h
  rcases hl with hl | ⟨host, hl⟩
  · exact va_runI (Ts := gt) (own := M.1.cls) (As := as.map (cv g)) ⟨C.1, C.2.1, C.2.2.1, C.2.2.2.2.1, hts⟩ S ⟨callB_of as.length hts (code_good hcode) rfl rfl rfl (hts _ hini) (hts _ hl) hd ⟨hR.1, hR.2.1⟩, hnm, hts _ hin⟩ hPre rfl (by simp) A.1 rfl (lv_room hcat) d ⟨hR.2.2.1, hR.2.2.2⟩
  · exact va_runIN (Ts := gt) (own := M.1.cls) (As := as.map (cv g)) ⟨C.1, C.2.1, C.2.2.1, C.2.2.2.2.1, hts⟩ S ⟨va_cnB as.length hts (code_good hcode) rfl rfl rfl (hK.2.1 _ hl) (hts _ hini) hd ⟨hR.1, hR.2.1⟩, hnm, hts _ hin⟩ hPre rfl (by simp) A.1 rfl (lv_room hcat) d ⟨hR.2.2.1, hR.2.2.2⟩
/-! a method's contract out of its walk -/
def ent : Nat → List Value → List (Option Value)
  | nL, [] => List.replicate nL none
  | nL, v :: vs => if v.category = 2 then some v :: none :: ent (nL - 2) vs else some v :: ent (nL - 1) vs
theorem ent_get : ∀ (vs : List Value) (nL i j : Nat) (v : Value), (ent nL vs)[i]? = some (some v) → (i + j, cv g v) ∈ lv_args j (vs.map (cv g))
  | [], nL, i, j, v, h => by
    have := List.mem_of_getElem? h
    have := List.eq_of_mem_replicate this
    cases this
  | w :: vs, nL, i, j, v, h => by
    unfold ent at h
    show _ ∈ (j, cv g w) :: lv_args (if (cv g w).category = 2 then j + 2 else j + 1) (vs.map (cv g))
    rw [cv_cat]
    by_cases hc : w.category = 2
    · rw [if_pos hc] at h ⊢
      match i, h with
      | 0, h =>
        have e : w = v := by simpa using h
        subst e
        rw [Nat.zero_add]
        exact List.mem_cons_self
      | 1, h => simp at h
      | i + 2, h =>
        have := ent_get vs _ i (j + 2) v (by simpa using h)
        rw [show i + 2 + j = i + (j + 2) by omega]
        exact List.mem_cons_of_mem _ this
    · rw [if_neg hc] at h ⊢
      match i, h with
      | 0, h =>
        have e : w = v := by simpa using h
        subst e
        rw [Nat.zero_add]
        exact List.mem_cons_self
      | i + 1, h =>
        have := ent_get vs _ i (j + 1) v (by simpa using h)
        rw [show i + 1 + j = i + (j + 1) by omega]
        exact List.mem_cons_of_mem _ this
def wid (vs : List Value) : Nat := (vs.map fun v => v.category).sum
theorem lg_len (vs : List Value) : (lg_sl (vs.map (cv g))).length = wid vs := by
  induction vs with
  | nil => rfl
  | cons v vs ih =>
    unfold wid lg_sl at *
    rw [List.map_cons, List.flatMap_cons, List.length_append, ih, List.map_cons, List.sum_cons, cv_cat]
    rcases lv_cat v with h | h <;> simp [h]
theorem Sp_mk {as : List Value} (hy : plainName M.1.cls = true) (hw : wid as ≤ M.2.2.1) (h : wp g M R Q 0 0 0 (ent M.2.2.1 as) [] hp) : Sp g M R as hp Q := by
  refine Met.ofW (cc := M.2.1) (maxL := M.2.2.1) (ret := M.2.2.2) hy rfl ?_
  intro p e s m args below meth c s₁ Bd hml hv
  obtain ⟨rfl, hK, hP⟩ := hv
  have hts : ∀ w ∈ gt, w.before (as.map (cv g)).toArray s = true := fun w hw => atoms_spec (ws := .code M.1 M.2.1 M.2.2.1 M.2.2.2 :: gt) Bd.pre w (List.mem_cons_of_mem _ hw)
  have hl := lv_entry (as.map (cv g)) (n := M.2.2.1) (by rw [lg_len]; exact hw)
  rw [lg_entry_eq]
  have hown : s.vm.findClass M.1.cls = some m.cls := findClass_of_methodNamed Bd.named
  exact h p e s m _ below meth c s.heap [] _ ⟨Bd.exec, Bd.bytes, hml, Bd.returns, hown, hts, Bd.notSynchronized, (name_of_methodNamed Bd.named Bd.method).1, hK⟩ hP (fun q hq => by cases hq) ⟨hl.1, hl.2.1, fun i v hi => hl.2.2 (i, cv g v) (by have := ent_get (g := g) as M.2.2.1 i 0 v hi; simpa using this)⟩
theorem Sp_post {as : List Value} {Q' : Option Value → Hp → Prop} (S : Sp g M R as hp Q') (h : ∀ v hp', Q' v hp' → Q v hp') : Sp g M R as hp Q := by
  intro p e ha hc hk s m args below hf hap hP hT
  obtain ⟨t, o, h1, h2, h3, ⟨⟨v, hp', e1, e2, e3⟩, h5⟩⟩ := S p e ha hc hk s m args below hf hap hP hT
  exact ⟨t, o, h1, h2, h3, ⟨⟨v, hp', e1, h _ _ e2, e3⟩, h5⟩⟩
end CA
