section HE
variable {g : GT} {M : MI} {R : Room} {Q : Option Value → Hp → Prop} {k n pc : Nat} {ls : List (Option Value)} {st : List Value} {hp : Hp}
/-- a field's link, its class's number and its slot -/
def GF (own : String) (idx ci kf : Nat) : Prop := ∃ (C : String) (T : u_T) (N : Nat), classes[ci]? = some (C, T, N) ∧ kf < N ∧ (∀ w ∈ u_ws C T N, w ∈ gt) ∧ (Cond.fieldLink own idx (T kf).1 (T kf).2.1 (T kf).2.2.1 ∈ gt ∨ ∃ host, Cond.fieldLinkNest own idx (T kf).1 (T kf).2.1 (T kf).2.2.1 host ∈ nt)
theorem wp_getf {idx a : Nat} {fs : List Value} {v : Value} {ci kf : Nat} (d : decode M.2.1 pc = .ok (.getfield idx, 3)) (G : GF M.1.cls idx ci kf) (ho : hp.2 a = some (.inr (.inr (ci, fs)))) (hv : fs[kf]? = some v) (h : wp g M R Q k n (pc + 3) ls (v :: st) hp) : wp g M R Q k n pc ls (.ref a :: st) hp := by
  intro p e s m args below meth c H locs lsA C P L A
  obtain ⟨CC, T, N, hc, hk, hin, hl⟩ := G
  have hP : va_P (dCI g) classes [(ad g a, .inr (ci, fs.map (cv g)))] H := by
    intro j q hq
    match j, hq with
    | 0, hq => cases hq; exact (P.2.2 a _ ho).2
    | j + 1, hq => simp at hq
  have hv' : (fs.map (cv g))[kf]? = some (cv g v) := by rw [List.getElem?_map, hv]; rfl
  rcases hl with hl | ⟨host, hl⟩
  · exact va_get C.1 C.2.1 C.2.2.2.2.2.1 hin C.2.2.2.2.1 C.2.2.2.2.2.2.2.2.1 hP 0 rfl hc kf hk (C.2.2.2.2.2.1 _ hl) (fun _ h => h) hv' d (h p e s m args below meth c H locs lsA C P L A)
  · exact va_getN C.1 C.2.1 C.2.2.2.2.2.1 hin C.2.2.2.2.1 C.2.2.2.2.2.2.2.2.1 hP 0 rfl hc kf hk (va_Nw.use rfl (C.2.2.2.2.2.2.2.2.2.1 _ hl)) (fun _ h => h) hv' d (h p e s m args below meth c H locs lsA C P L A)
/-- what a stored field asks of its class -/
def PF (own : String) (idx ci kf : Nat) (ty : FieldType) (fin : Bool) : Prop := ∃ (C : String) (T : u_T) (N : Nat) (ty0 : Nat → FieldType), classes[ci]? = some (C, T, N) ∧ kf < N ∧ (∀ w ∈ u_ws C T N, w ∈ gt) ∧ (∀ j, j < N → parseFieldDescriptor (T j).2.2.1 = some (ty0 j)) ∧ (∀ a, a < N → ∀ b, b < N → a ≠ b → (T a).2.1 ≠ (T b).2.1) ∧ ty0 kf = ty ∧ (T kf).2.2.2 = fin ∧ (fin = true → (T kf).1 = own) ∧ (Cond.fieldLink own idx (T kf).1 (T kf).2.1 (T kf).2.2.1 ∈ gt ∨ (fin = false ∧ ∃ host, Cond.fieldLinkNest own idx (T kf).1 (T kf).2.1 (T kf).2.2.1 host ∈ nt))
theorem map_set_cv (fs : List Value) (kf : Nat) (v : Value) : (fs.set kf v).map (cv g) = (fs.map (cv g)).set kf (cv g v) := List.map_set
theorem wp_putf {idx a : Nat} {fs : List Value} {v : Value} {ci kf : Nat} {ty : FieldType} {fin : Bool} (d : decode M.2.1 pc = .ok (.putfield idx, 3)) (G : PF M.1.cls idx ci kf ty fin) (ho : hp.2 a = some (.inr (.inr (ci, fs)))) (hl : kf < fs.length) (hn : narrow ty (cv g v) = cv g v) (hfit : fits ty (cv g v) = true) (hini : fin = true → M.1.name = "<init>") (h : wp g M R Q k n (pc + 3) ls st (hset hp a (.inr (.inr (ci, fs.set kf v))))) : wp g M R Q k n pc ls (v :: .ref a :: st) hp := by
  intro p e s m args below meth c H locs lsA C P L A
  obtain ⟨CC, T, N, ty0, hc, hk, hin, hty, hnm, hd, hfin, hdecl, hlk⟩ := G
  have hts := C.2.2.2.2.2.1
  have hown := C.2.2.2.2.1
  have hK := C.2.2.2.2.2.2.2.2.1
  have hcell := (P.2.2 a _ ho).2
  have h2 := (P.2.2 a _ ho).1
  have hap := va_apart (own := M.1.cls) hts hin ty0 hty hnm hK hc
  obtain ⟨r, h1, cell, q1, q2, q3, q4⟩ := hcell
  have hr : r = (CC, T, N) := Option.some.inj (h1.symm.trans hc)
  subst hr
  obtain ⟨hS, hfc, kC, hkC, hkind⟩ := hK.1 ci _ hc
  obtain ⟨cf, kf', fi, f, hi, hsl⟩ := hS kf hk
  have hlay := hts _ (hin _ (u_in_lay hk))
  unfold u_lay at hlay
  have hd' : parseFieldDescriptor (T kf).2.2.1 = some ty := by rw [hty kf hk, hd]
  have hst := (u_facts hfc hkC (u_lays hts hin hk) hi).1
  have fin' : ∀ (H' : Heap) (locs' : List Loc), (∀ q ∈ locs', bs g ≤ q.base) → H'[ad g a]? = some (cell.setSlot f.slot (cv g v)) → H'.size = H.size → (∀ q, q ≠ ad g a → H'[q]? = H[q]?) → W p g.1 e R s m args below meth c H' locs' k n (MQ below (QcOf g Q) args s R.cells R.slots (fun q => bs g ≤ q)) (F0 m (pc + 3) lsA (st.map (cv g))) := by
    intro H' locs' hL' e1 e2 e3
    rw [hsl] at e1
    refine h p e s m args below meth c H' locs' lsA C (P.set ho e2 e3 ⟨_, hc, ?_⟩) hL' A
    have := t_OB.to (V := updV (vp_V (fs.map (cv g))) kf (cv g v)) (V' := vp_V ((fs.map (cv g)).set kf (cv g v))) ⟨_, e1, q2, q3, t_set q4 hap hk (cv g v)⟩ (fun j _ => vp_updV_set (by rw [List.length_map]; exact hl) (cv g v) j)
    show t_OB (ad g a) _ _ _ _ (vp_V ((fs.set kf v).map (cv g)))
    rw [map_set_cv]
    exact this
  have hL1 : ∀ q ∈ locs ++ [(⟨ad g a, f.slot⟩ : Loc)], bs g ≤ q.base := by
    intro q hq
    rcases List.mem_append.mp hq with z | z
    · exact L q z
    · rw [List.mem_singleton.mp z]
      show bs g ≤ ad g a
      rw [ad_eq h2]; omega
  cases fin with
  | false =>
    rw [if_neg (by rw [hfin]; decide)] at hlay
    have h6 := u_store hfc hkC hkind hlay hi hd' hn hfit
    rcases hlk with hlk | ⟨-, host, hlk⟩
    · exact W.putK C.1 C.2.1 (f := f) ⟨hown, hts _ hlk, ⟨_, _, _, hi⟩, hst⟩ (by rw [q2]; exact h6) q1 q3 (by rw [hsl]; exact k2_hasslot (q4 kf hk)) rfl rfl d fun H' e1 e2 e3 => fin' H' _ hL1 e1 e2 e3
    · exact va_WputK C.1 C.2.1 (f := f) hown (va_Nw.use rfl (C.2.2.2.2.2.2.2.2.2.1 _ hlk)) hi hst (by rw [q2]; exact h6) q1 q3 (by rw [hsl]; exact k2_hasslot (q4 kf hk)) rfl rfl d fun H' e1 e2 e3 => fin' H' _ hL1 e1 e2 e3
  | true =>
    rw [if_pos hfin] at hlay
    have hcf : m.cls = cf := by
      obtain ⟨_, _, c', _, _, _, -, -, hf', -, -, -, hown2, -⟩ := Cond.laysFinal_spec hlay
      have e1 : c' = cf := by have := hi.symm.trans hf'; simp at this; exact this.1.symm
      rw [hdecl rfl] at hown2
      rw [← e1]; exact Option.some.inj (hown.symm.trans hown2)
    have h6 := u_fits hfc hkC hkind (Or.inr hlay) hi hd' hn hfit
    rcases hlk with hlk | ⟨z, -⟩
    · exact W.putFinK C.1 C.2.1 hown (hts _ hlk) hi hst hcf (by rw [C.2.2.2.2.2.2.2.1]; exact hini rfl) (by rw [q2]; exact h6) q1 q3 (by rw [hsl]; exact k2_hasslot (q4 kf hk)) rfl rfl d fun H' e1 e2 e3 => fin' H' _ hL1 e1 e2 e3
    · cases z
/-! arrays -/
def updI (f : Int → Int) (i v : Int) : Int → Int := fun x => if x = i then v else f x
theorem I_in {i : Int} {N : Nat} (h0 : 0 ≤ i) (h1 : i < N) (hN : N < 2147483648) : ¬ (I i < 0 ∨ N ≤ (I i).toNatClampNeg) ∧ ((I i).toNatClampNeg : Int) = i := by
  have r : InR i := by omega
  have e : (I i).toNatClampNeg = i.toNat := by
    show (I i).toInt.toNat = i.toNat
    rw [I_toInt r]
  refine ⟨?_, by rw [e]; omega⟩
  rw [e, ← I_0, I_lt r (by omega)]
  omega
theorem wp_alen {a N : Nat} {ty : FieldType} {f : Int → Int} (d : decode M.2.1 pc = .ok (.arraylength, 1)) (ho : hp.2 a = some (.inl (ty, N, f))) (h : wp g M R Q k n (pc + 1) ls (.int (I N) :: st) hp) : wp g M R Q k n pc ls (.ref a :: st) hp := by
  intro p e s m args below meth c H locs lsA C P L A
  obtain ⟨cA, h1, h2⟩ := (P.2.2 a _ ho).2
  exact W.alen C.1 C.2.1 h1 (h2 _ _) (by rw [arrV_size]; rfl) rfl rfl d (h p e s m args below meth c H locs lsA C P L A)
theorem wp_slen (d : decode M.2.1 pc = .ok (.arraylength, 1)) (h : wp g M R Q k n (pc + 1) ls (.int (I (scL g)) :: st) hp) : wp g M R Q k n pc ls (.ref 0 :: st) hp := by
  intro p e s m args below meth c H locs lsA C P L A
  obtain ⟨s0, O, hal, -⟩ := C.2.2.2.2.2.2.2.2.2.2
  obtain ⟨scr, h1, h2, h3, h4, h5⟩ := va_X.moved hal O.2.2.2.2.1
  exact W.alen C.1 C.2.1 (show H[ad g 0]? = some scr from (P.2.1 _ O.2.2.1).trans h1) h2 (by rw [h4]; rfl) rfl rfl d (h p e s m args below meth c H locs lsA C P L A)
theorem wp_sald {i : Int} (d : decode M.2.1 pc = .ok (.iaload, 1)) (h0 : 0 ≤ i) (h1 : i < scL g) (hN : scL g < 2147483648) (h : wp g M R Q k n (pc + 1) ls (.int (scX g i.toNat) :: st) hp) : wp g M R Q k n pc ls (.int (I i) :: .ref 0 :: st) hp := by
  intro p e s m args below meth c H locs lsA C P L A
  obtain ⟨s0, O, hal, -⟩ := C.2.2.2.2.2.2.2.2.2.2
  obtain ⟨scr, g1, g2, g3, g4, g5⟩ := va_X.moved hal O.2.2.2.2.1
  obtain ⟨j1, j2⟩ := I_in h0 h1 hN
  have e1 : (I i).toNatClampNeg = i.toNat := by omega
  refine W.iald C.1 C.2.1 (v := .int (scX g i.toNat)) (show H[ad g 0]? = some scr from (P.2.1 _ O.2.2.1).trans g1) g2 g3 (by rw [g4]; exact j1) ?_ rfl rfl d (h p e s m args below meth c H locs lsA C P L A)
  rw [e1]
  exact g5 _ (by omega)
theorem wp_iald {a N : Nat} {f : Int → Int} {i : Int} (d : decode M.2.1 pc = .ok (.iaload, 1)) (ho : hp.2 a = some (.inl (.int, N, f))) (h0 : 0 ≤ i) (h1 : i < N) (hN : N < 2147483648) (h : wp g M R Q k n (pc + 1) ls (.int (I (f i)) :: st) hp) : wp g M R Q k n pc ls (.int (I i) :: .ref a :: st) hp := by
  intro p e s m args below meth c H locs lsA C P L A
  obtain ⟨cA, g1, g2⟩ := (P.2.2 a _ ho).2
  obtain ⟨j1, j2⟩ := I_in h0 h1 hN
  refine W.iald C.1 C.2.1 (v := .int (I (f i))) g1 (g2 _ _) (fun z => by cases z) (by rw [arrV_size]; exact j1) ?_ rfl rfl d (h p e s m args below meth c H locs lsA C P L A)
  rw [arrV_read _ _ (show _ < N by omega), j2]
  rfl
theorem wp_lald {a N : Nat} {f : Int → Int} {i : Int} (d : decode M.2.1 pc = .ok (.laload, 1)) (ho : hp.2 a = some (.inl (.long, N, f))) (h0 : 0 ≤ i) (h1 : i < N) (hN : N < 2147483648) (h : wp g M R Q k n (pc + 1) ls (.long (J (f i)) :: st) hp) : wp g M R Q k n pc ls (.int (I i) :: .ref a :: st) hp := by
  intro p e s m args below meth c H locs lsA C P L A
  obtain ⟨cA, g1, g2⟩ := (P.2.2 a _ ho).2
  obtain ⟨j1, j2⟩ := I_in h0 h1 hN
  refine W.lald C.1 C.2.1 (v := .long (J (f i))) g1 (g2 _ _) (fun z => by cases z) (by rw [arrV_size]; exact j1) ?_ rfl rfl d (h p e s m args below meth c H locs lsA C P L A)
  rw [arrV_read _ _ (show _ < N by omega), j2]
  rfl
theorem wp_bald {a N : Nat} {f : Int → Int} {i : Int} (d : decode M.2.1 pc = .ok (.baload, 1)) (ho : hp.2 a = some (.inl (.byte, N, f))) (h0 : 0 ≤ i) (h1 : i < N) (hN : N < 2147483648) (h : wp g M R Q k n (pc + 1) ls (.int (I (f i)) :: st) hp) : wp g M R Q k n pc ls (.int (I i) :: .ref a :: st) hp := by
  intro p e s m args below meth c H locs lsA C P L A
  obtain ⟨cA, g1, g2⟩ := (P.2.2 a _ ho).2
  obtain ⟨j1, j2⟩ := I_in h0 h1 hN
  refine W.bald C.1 C.2.1 (v := .int (I (f i))) g1 (g2 _ _) (fun z => by cases z) (by rw [arrV_size]; exact j1) ?_ rfl rfl d (h p e s m args below meth c H locs lsA C P L A)
  rw [arrV_read _ _ (show _ < N by omega), j2]
  rfl
theorem wp_zald {a N : Nat} {f : Int → Int} {i : Int} (d : decode M.2.1 pc = .ok (.baload, 1)) (ho : hp.2 a = some (.inl (.boolean, N, f))) (h0 : 0 ≤ i) (h1 : i < N) (hN : N < 2147483648) (h : wp g M R Q k n (pc + 1) ls (.int (I (f i)) :: st) hp) : wp g M R Q k n pc ls (.int (I i) :: .ref a :: st) hp := by
  intro p e s m args below meth c H locs lsA C P L A
  obtain ⟨cA, g1, g2⟩ := (P.2.2 a _ ho).2
  obtain ⟨j1, j2⟩ := I_in h0 h1 hN
  refine W.zald C.1 C.2.1 (v := .int (I (f i))) g1 (g2 _ _) (fun z => by cases z) (by rw [arrV_size]; exact j1) ?_ rfl rfl d (h p e s m args below meth c H locs lsA C P L A)
  rw [arrV_read _ _ (show _ < N by omega), j2]
  rfl
theorem base_app {locs : List Loc} {a j : Nat} (L : ∀ q ∈ locs, bs g ≤ q.base) (h2 : 4 ≤ a) : ∀ q ∈ locs ++ [(⟨ad g a, j⟩ : Loc)], bs g ≤ q.base := by
  intro q hq
  rcases List.mem_append.mp hq with z | z
  · exact L q z
  · rw [List.mem_singleton.mp z]
    show bs g ≤ ad g a
    rw [ad_eq h2]; omega
theorem arr_upd {cA : ClassId} {N : Nat} {ty : FieldType} {f : Int → Int} {i v : Int} {j : Nat} (e : (j : Int) = i) : (arrV cA N (fun x => vof ty (f (x : Int)))).setSlot j (vof ty v) = arrV cA N (fun x => vof ty (updI f i v (x : Int))) := by
  rw [arrV_store]
  congr 1
  funext x
  subst e
  unfold updV updI
  by_cases z : x = j
  · rw [if_pos z, if_pos (by rw [z])]
  · rw [if_neg z, if_neg (by omega)]
theorem wp_iast {a N : Nat} {f : Int → Int} {i v : Int} (d : decode M.2.1 pc = .ok (.iastore, 1)) (ho : hp.2 a = some (.inl (.int, N, f))) (h0 : 0 ≤ i) (h1 : i < N) (hN : N < 2147483648) (h : wp g M R Q k n (pc + 1) ls st (hset hp a (.inl (.int, N, updI f i v)))) : wp g M R Q k n pc ls (.int (I v) :: .int (I i) :: .ref a :: st) hp := by
  intro p e s m args below meth c H locs lsA C P L A
  obtain ⟨h2, cA, g1, g2⟩ := P.2.2 a _ ho
  obtain ⟨j1, j2⟩ := I_in h0 h1 hN
  refine W.iast C.1 C.2.1 g1 (g2 _ _) (fun z => by cases z) (by rw [arrV_size]; exact j1) rfl rfl d (fun H' e1 e2 e3 => ?_)
  refine h p e s m args below meth c H' _ lsA C (P.set ho e2 e3 ⟨cA, ?_, g2⟩) (base_app L h2) A
  rw [e1]
  exact congrArg some (arr_upd (ty := .int) j2)
theorem wp_last {a N : Nat} {f : Int → Int} {i v : Int} (d : decode M.2.1 pc = .ok (.lastore, 1)) (ho : hp.2 a = some (.inl (.long, N, f))) (h0 : 0 ≤ i) (h1 : i < N) (hN : N < 2147483648) (h : wp g M R Q k n (pc + 1) ls st (hset hp a (.inl (.long, N, updI f i v)))) : wp g M R Q k n pc ls (.long (J v) :: .int (I i) :: .ref a :: st) hp := by
  intro p e s m args below meth c H locs lsA C P L A
  obtain ⟨h2, cA, g1, g2⟩ := P.2.2 a _ ho
  obtain ⟨j1, j2⟩ := I_in h0 h1 hN
  refine W.last C.1 C.2.1 g1 (g2 _ _) (fun z => by cases z) (by rw [arrV_size]; exact j1) rfl rfl d (fun H' e1 e2 e3 => ?_)
  refine h p e s m args below meth c H' _ lsA C (P.set ho e2 e3 ⟨cA, ?_, g2⟩) (base_app L h2) A
  rw [e1]
  exact congrArg some (arr_upd (ty := .long) j2)
theorem wp_bast {a N : Nat} {f : Int → Int} {i v : Int} {x : Int32} (d : decode M.2.1 pc = .ok (.bastore, 1)) (ho : hp.2 a = some (.inl (.byte, N, f))) (h0 : 0 ≤ i) (h1 : i < N) (hN : N < 2147483648) (hx : x.toInt8.toInt32 = I v) (h : wp g M R Q k n (pc + 1) ls st (hset hp a (.inl (.byte, N, updI f i v)))) : wp g M R Q k n pc ls (.int x :: .int (I i) :: .ref a :: st) hp := by
  intro p e s m args below meth c H locs lsA C P L A
  obtain ⟨h2, cA, g1, g2⟩ := P.2.2 a _ ho
  obtain ⟨j1, j2⟩ := I_in h0 h1 hN
  refine W.bast C.1 C.2.1 g1 (g2 _ _) (fun z => by cases z) (by rw [arrV_size]; exact j1) rfl rfl d (fun H' e1 e2 e3 => ?_)
  refine h p e s m args below meth c H' _ lsA C (P.set ho e2 e3 ⟨cA, ?_, g2⟩) (base_app L h2) A
  rw [e1, narrow_byte, hx]
  exact congrArg some (arr_upd (ty := .byte) j2)
theorem wp_zast {a N : Nat} {f : Int → Int} {i v : Int} {x : Int32} (d : decode M.2.1 pc = .ok (.bastore, 1)) (ho : hp.2 a = some (.inl (.boolean, N, f))) (h0 : 0 ≤ i) (h1 : i < N) (hN : N < 2147483648) (hx : narrow .boolean (.int x) = .int (I v)) (h : wp g M R Q k n (pc + 1) ls st (hset hp a (.inl (.boolean, N, updI f i v)))) : wp g M R Q k n pc ls (.int x :: .int (I i) :: .ref a :: st) hp := by
  intro p e s m args below meth c H locs lsA C P L A
  obtain ⟨h2, cA, g1, g2⟩ := P.2.2 a _ ho
  obtain ⟨j1, j2⟩ := I_in h0 h1 hN
  refine W.zast C.1 C.2.1 g1 (g2 _ _) (fun z => by cases z) (by rw [arrV_size]; exact j1) rfl rfl d (fun H' e1 e2 e3 => ?_)
  refine h p e s m args below meth c H' _ lsA C (P.set ho e2 e3 ⟨cA, ?_, g2⟩) (base_app L h2) A
  rw [e1, hx]
  exact congrArg some (arr_upd (ty := .boolean) j2)
/-- an array's contents beyond its length mean nothing -/
theorem arr_same {cA : ClassId} {N : Nat} {ty : FieldType} {f f' : Int → Int} (e : ∀ i : Int, 0 ≤ i → i < N → f i = f' i) : arrV cA N (fun x => vof ty (f (x : Int))) = arrV cA N (fun x => vof ty (f' (x : Int))) := by
  unfold arrV
  congr 1
  apply congrArg
  funext j
  exact congrArg (vof ty) (e _ (Int.natCast_nonneg _) (by have := j.isLt; omega))
theorem wp_retell {a N : Nat} {ty : FieldType} {f f' : Int → Int} (ho : hp.2 a = some (.inl (ty, N, f))) (e : ∀ i : Int, 0 ≤ i → i < N → f i = f' i) (h : wp g M R Q k n pc ls st (hset hp a (.inl (ty, N, f')))) : wp g M R Q k n pc ls st hp := by
  refine wp_hp (fun s H P => ?_) h
  obtain ⟨h2, cA, g1, g2⟩ := P.2.2 a _ ho
  exact P.set ho rfl (fun _ _ => rfl) ⟨cA, by rw [g1]; exact congrArg some (arr_same e), g2⟩
end HE
