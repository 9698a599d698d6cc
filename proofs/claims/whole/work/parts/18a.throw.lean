/-! throwing, and catching -/
section TH
variable {g : GT} {M : MI} {R : Room} {E : Code → Prop} {Z : List Frame → Array Value → State → State → Prop} {pc : Nat} {ls : List (Option Value)} {st : List Value} {hp : Hp}
/-- as wp, while nothing is written yet: the heap is the one at the start; E is what is known of the code's table, Z the end -/
def wq (g : GT) (M : MI) (R : Room) (E : Code → Prop) (Z : List Frame → Array Value → State → State → Prop) (pc : Nat) (ls : List (Option Value)) (st : List Value) (hp : Hp) : Prop :=
  ∀ (p : Program) (e : Env) (s : State) (m : MethodId) (args : Array Value) (below : List Frame) (meth : Method) (c : Code) (lsA : Array Slot), MC g M p s m args meth c → E c → Rep g s hp s.heap → LR g M.2.2.1 ls lsA →
    W p g.1 e R s m args below meth c s.heap [] 0 0 (Z below args s) (F0 m pc lsA (st.map (cv g)))
theorem wq_aload_n {z : Fin 4} {x : Nat} (d : decode M.2.1 pc = .ok (.aload_n z, 1)) (hl : ls[(z : Nat)]? = some (some (.ref x))) (h : wq g M R E Z (pc + 1) ls (.ref x :: st) hp) : wq g M R E Z pc ls st hp := by
  intro p e s m args below meth c lsA C X P A
  exact lv_aload_n C.1 C.2.1 d rfl (A.2.2 _ _ hl) (h p e s m args below meth c lsA C X P A)
theorem wq_aload {i : Nat} {x : Nat} (d : decode M.2.1 pc = .ok (.aload i, 2)) (hl : ls[i]? = some (some (.ref x))) (h : wq g M R E Z (pc + 2) ls (.ref x :: st) hp) : wq g M R E Z pc ls st hp := by
  intro p e s m args below meth c lsA C X P A
  exact lv_aload C.1 C.2.1 d (A.2.2 _ _ hl) (h p e s m args below meth c lsA C X P A)
theorem wq_iload_n {z : Fin 4} {x : Int32} (d : decode M.2.1 pc = .ok (.iload_n z, 1)) (hl : ls[(z : Nat)]? = some (some (.int x))) (h : wq g M R E Z (pc + 1) ls (.int x :: st) hp) : wq g M R E Z pc ls st hp := by
  intro p e s m args below meth c lsA C X P A
  exact lv_iload_n C.1 C.2.1 d rfl (A.2.2 _ _ hl) (h p e s m args below meth c lsA C X P A)
theorem wq_iload {i : Nat} {x : Int32} (d : decode M.2.1 pc = .ok (.iload i, 2)) (hl : ls[i]? = some (some (.int x))) (h : wq g M R E Z (pc + 2) ls (.int x :: st) hp) : wq g M R E Z pc ls st hp := by
  intro p e s m args below meth c lsA C X P A
  exact lv_iload C.1 C.2.1 d (A.2.2 _ _ hl) (h p e s m args below meth c lsA C X P A)
theorem wq_iconst {z : Int} (d : decode M.2.1 pc = .ok (.iconst z, 1)) (h : wq g M R E Z (pc + 1) ls (.int (I z) :: st) hp) : wq g M R E Z pc ls st hp := by
  intro p e s m args below meth c lsA C X P A
  exact lv_iconst C.1 C.2.1 d rfl (h p e s m args below meth c lsA C X P A)
theorem wq_goto {off : Int} (tgt : Nat) (d : decode M.2.1 pc = .ok (.goto off, 3)) (ht : (pc : Int) + off = (tgt : Int)) (h : wq g M R E Z tgt ls st hp) : wq g M R E Z pc ls st hp := by
  intro p e s m args below meth c lsA C X P A
  exact lv_goto C.1 C.2.1 d ht (h p e s m args below meth c lsA C X P A)
theorem wq_icmp_lt {a b off : Int} (tgt : Nat) (d : decode M.2.1 pc = .ok (.if_icmp .lt off, 3)) (ht : (pc : Int) + off = (tgt : Int)) (ra : InR a) (rb : InR b) (hT : a < b → wq g M R E Z tgt ls st hp) (hF : ¬ (a < b) → wq g M R E Z (pc + 3) ls st hp) : wq g M R E Z pc ls (.int (I b) :: .int (I a) :: st) hp := by
  intro p e s m args below meth c lsA C X P A
  exact lv_icmp_lt C.1 C.2.1 d ht (fun z => hT ((I_lt ra rb).mp z) p e s m args below meth c lsA C X P A) (fun z => hF (fun y => z ((I_lt ra rb).mpr y)) p e s m args below meth c lsA C X P A)
theorem wq_icmp_ge {a b off : Int} (tgt : Nat) (d : decode M.2.1 pc = .ok (.if_icmp .ge off, 3)) (ht : (pc : Int) + off = (tgt : Int)) (ra : InR a) (rb : InR b) (hT : b ≤ a → wq g M R E Z tgt ls st hp) (hF : ¬ (b ≤ a) → wq g M R E Z (pc + 3) ls st hp) : wq g M R E Z pc ls (.int (I b) :: .int (I a) :: st) hp := by
  intro p e s m args below meth c lsA C X P A
  exact lv_icmp_ge C.1 C.2.1 d ht (fun z => hT ((I_le rb ra).mp z) p e s m args below meth c lsA C X P A) (fun z => hF (fun y => z ((I_le rb ra).mpr y)) p e s m args below meth c lsA C X P A)
theorem wq_icmp_eq {a b off : Int} (tgt : Nat) (d : decode M.2.1 pc = .ok (.if_icmp .eq off, 3)) (ht : (pc : Int) + off = (tgt : Int)) (ra : InR a) (rb : InR b) (hT : a = b → wq g M R E Z tgt ls st hp) (hF : ¬ (a = b) → wq g M R E Z (pc + 3) ls st hp) : wq g M R E Z pc ls (.int (I b) :: .int (I a) :: st) hp := by
  intro p e s m args below meth c lsA C X P A
  exact lv_icmp_eq C.1 C.2.1 d ht (fun z => hT ((I_eq ra rb).mp z) p e s m args below meth c lsA C X P A) (fun z => hF (fun y => z ((I_eq ra rb).mpr y)) p e s m args below meth c lsA C X P A)
theorem wq_icmp_ne {a b off : Int} (tgt : Nat) (d : decode M.2.1 pc = .ok (.if_icmp .ne off, 3)) (ht : (pc : Int) + off = (tgt : Int)) (ra : InR a) (rb : InR b) (hT : ¬ (a = b) → wq g M R E Z tgt ls st hp) (hF : a = b → wq g M R E Z (pc + 3) ls st hp) : wq g M R E Z pc ls (.int (I b) :: .int (I a) :: st) hp := by
  intro p e s m args below meth c lsA C X P A
  exact lv_icmp_ne C.1 C.2.1 d ht (fun z => hT (fun y => z ((I_eq ra rb).mpr y)) p e s m args below meth c lsA C X P A) (fun z => hF ((I_eq ra rb).mp z) p e s m args below meth c lsA C X P A)
theorem wq_if_lt {a off : Int} (tgt : Nat) (d : decode M.2.1 pc = .ok (.ifCond .lt off, 3)) (ht : (pc : Int) + off = (tgt : Int)) (ra : InR a) (hT : a < 0 → wq g M R E Z tgt ls st hp) (hF : ¬ (a < 0) → wq g M R E Z (pc + 3) ls st hp) : wq g M R E Z pc ls (.int (I a) :: st) hp := by
  intro p e s m args below meth c lsA C X P A
  have rb : InR 0 := by omega
  exact lv_if_lt C.1 C.2.1 d ht (fun z => hT ((I_lt ra rb).mp z) p e s m args below meth c lsA C X P A) (fun z => hF (fun y => z ((I_lt ra rb).mpr y)) p e s m args below meth c lsA C X P A)
theorem wq_if_ge {a off : Int} (tgt : Nat) (d : decode M.2.1 pc = .ok (.ifCond .ge off, 3)) (ht : (pc : Int) + off = (tgt : Int)) (ra : InR a) (hT : 0 ≤ a → wq g M R E Z tgt ls st hp) (hF : ¬ (0 ≤ a) → wq g M R E Z (pc + 3) ls st hp) : wq g M R E Z pc ls (.int (I a) :: st) hp := by
  intro p e s m args below meth c lsA C X P A
  have rb : InR 0 := by omega
  exact lv_if_ge C.1 C.2.1 d ht (fun z => hT ((I_le rb ra).mp z) p e s m args below meth c lsA C X P A) (fun z => hF (fun y => z ((I_le rb ra).mpr y)) p e s m args below meth c lsA C X P A)
theorem wq_ifb_eq {q : Prop} [Decidable q] {off : Int} (tgt : Nat) (d : decode M.2.1 pc = .ok (.ifCond .eq off, 3)) (ht : (pc : Int) + off = (tgt : Int)) (hT : ¬ q → wq g M R E Z tgt ls st hp) (hF : q → wq g M R E Z (pc + 3) ls st hp) : wq g M R E Z pc ls (.int (B q) :: st) hp := by
  intro p e s m args below meth c lsA C X P A
  exact lv_if_eq C.1 C.2.1 d ht (fun z => hT ((B_eq0 q).mp z) p e s m args below meth c lsA C X P A) (fun z => hF (Classical.byContradiction fun y => z ((B_eq0 q).mpr y)) p e s m args below meth c lsA C X P A)
theorem wq_ifb_ne {q : Prop} [Decidable q] {off : Int} (tgt : Nat) (d : decode M.2.1 pc = .ok (.ifCond .ne off, 3)) (ht : (pc : Int) + off = (tgt : Int)) (hT : q → wq g M R E Z tgt ls st hp) (hF : ¬ q → wq g M R E Z (pc + 3) ls st hp) : wq g M R E Z pc ls (.int (B q) :: st) hp := by
  intro p e s m args below meth c lsA C X P A
  exact lv_if_ne C.1 C.2.1 d ht (fun z => hT (Classical.byContradiction fun y => z ((B_eq0 q).mpr y)) p e s m args below meth c lsA C X P A) (fun z => hF ((B_eq0 q).mp z) p e s m args below meth c lsA C X P A)
theorem wq_getf {idx a : Nat} {fs : List Value} {v : Value} {ci kf : Nat} (d : decode M.2.1 pc = .ok (.getfield idx, 3)) (G : GF M.1.cls idx ci kf) (ho : hp.2 a = some (.inr (.inr (ci, fs)))) (hv : fs[kf]? = some v) (h : wq g M R E Z (pc + 3) ls (v :: st) hp) : wq g M R E Z pc ls (.ref a :: st) hp := by
  intro p e s m args below meth c lsA C X P A
  obtain ⟨CC, T, N, hc, hk, hin, hl⟩ := G
  have hP : va_P (dCI g) classes [(ad g a, .inr (ci, fs.map (cv g)))] s.heap := by
    intro j q hq
    match j, hq with
    | 0, hq => cases hq; exact (P.2.2 a _ ho).2
    | j + 1, hq => simp at hq
  have hv' : (fs.map (cv g))[kf]? = some (cv g v) := by rw [List.getElem?_map, hv]; rfl
  rcases hl with hl | ⟨host, hl⟩
  · exact va_get C.1 C.2.1 C.2.2.2.2.2.1 hin C.2.2.2.2.1 C.2.2.2.2.2.2.2.2.1 hP 0 rfl hc kf hk (C.2.2.2.2.2.1 _ hl) (fun _ h => h) hv' d (h p e s m args below meth c lsA C X P A)
  · exact va_getN C.1 C.2.1 C.2.2.2.2.2.1 hin C.2.2.2.2.1 C.2.2.2.2.2.2.2.2.1 hP 0 rfl hc kf hk (va_Nw.use rfl (C.2.2.2.2.2.2.2.2.2.1 _ hl)) (fun _ h => h) hv' d (h p e s m args below meth c lsA C X P A)
theorem wq_tswOut {dflt lo hi : Int} {offs : Array Int} {len : Nat} {a : Int} (tgt : Nat) (d : decode M.2.1 pc = .ok (.tableswitch dflt lo hi offs, len)) (ra : InR a) (ho : a < lo ∨ hi < a) (ht : (pc : Int) + dflt = (tgt : Int)) (h : wq g M R E Z tgt ls st hp) : wq g M R E Z pc ls (.int (I a) :: st) hp := by
  intro p e s m args below meth c lsA C X P A
  exact lv_tableOut C.1 C.2.1 d (by rw [I_toInt ra]; exact ho) ht (h p e s m args below meth c lsA C X P A)
def QzOf (g : GT) (Q : Option Value → Prop) : Array Value → State → Outcome → State → Prop := fun _ s0 o t => ∃ v : Option Value, o = .returned (v.map (cv g)) ∧ Q v ∧ t.heap = s0.heap
def Sz (g : GT) (M : MI) (R : Room) (as : List Value) (hp : Hp) (Q : Option Value → Prop) : Prop :=
  Met g.1 M.1 (.code M.1 M.2.1 M.2.2.1 M.2.2.2 :: gt) R (va_Pc (as.map (cv g)) (fun U => KK g U ∧ Rep g U hp U.heap)) (QzOf g Q) 0 0 (fun _ => False)
abbrev Zz (g : GT) (Q : Option Value → Prop) : List Frame → Array Value → State → State → Prop := fun below args s => MQ below (QzOf g Q) args s 0 0 (fun _ => False)
abbrev noE : Code → Prop := fun c => c.exceptionTable.isEmpty = true
theorem wq_in {as : List Value} {p : Program} {e : Env} {s : State} {m : MethodId} {below : List Frame} {meth : Method} {c : Code} {s₁ : State} {wd : Cond} (hw : wid as ≤ M.2.2.1) (h : wq g M R E Z 0 (ent M.2.2.1 as) [] hp)
    (Bd : BodyLoose p g.1 M.1 (headSpec (wd :: gt) R) M.2.1 M.2.2.1 M.2.2.2 e s m (as.map (cv g)).toArray below meth c s₁) (hE : E c) (hml : c.maxLocals = M.2.2.1) (hK : KK g s) (hP : Rep g s hp s.heap) :
    W p g.1 e R s m (as.map (cv g)).toArray below meth c s.heap [] 0 0 (Z below (as.map (cv g)).toArray s) (entryFrame m (as.map (cv g)).toArray M.2.2.1) := by
  have hts : ∀ w ∈ gt, w.before (as.map (cv g)).toArray s = true := fun w hw => atoms_spec (ws := wd :: gt) Bd.pre w (List.mem_cons_of_mem _ hw)
  have hl := lv_entry (as.map (cv g)) (n := M.2.2.1) (by rw [lg_len]; exact hw)
  rw [lg_entry_eq]
  have hown : s.vm.findClass M.1.cls = some m.cls := findClass_of_methodNamed Bd.named
  exact h p e s m _ below meth c _ ⟨Bd.exec, Bd.bytes, hml, Bd.returns, hown, hts, Bd.notSynchronized, (name_of_methodNamed Bd.named Bd.method).1, hK⟩ hE hP ⟨hl.1, hl.2.1, fun i v hi => hl.2.2 (i, cv g v) (by have := ent_get (g := g) as M.2.2.1 i 0 v hi; simpa using this)⟩
theorem Sz_mk {as : List Value} {Q : Option Value → Prop} (hy : plainName M.1.cls = true) (hw : wid as ≤ M.2.2.1) (h : wq g M R noE (Zz g Q) 0 (ent M.2.2.1 as) [] hp) : Sz g M R as hp Q := by
  refine Met.ofW (cc := M.2.1) (maxL := M.2.2.1) (ret := M.2.2.2) hy rfl ?_
  intro p e s m args below meth c s₁ Bd hml hv
  obtain ⟨rfl, hK, hP⟩ := hv
  exact wq_in hw h Bd (Bd.noHandlers (atoms_spec (ws := .code M.1 M.2.1 M.2.2.1 M.2.2.2 :: gt) Bd.pre _ List.mem_cons_self)) hml hK hP
theorem wq_zr {q : Prop} [Decidable q] {Q : Option Value → Prop} (d : decode M.2.1 pc = .ok (.ireturn, 1)) (hr : M.2.2.2 = some .boolean) (h : Q (some (.int (B q)))) : wq g M R E (Zz g Q) pc ls [.int (B q)] hp := by
  intro p e s m args below meth c lsA C X P A
  refine W.zret C.1 C.2.1 (by rw [C.2.2.2.1]; exact hr) ?_ (fun t ht hW => ⟨some (.int (B q)), rfl, h, ht⟩) (fun q hq => by cases hq) d C.2.2.2.2.2.2.1
  by_cases z : q
  · rw [B_t z]; rfl
  · rw [B_f z]; rfl
theorem wq_z1 {q : Prop} [Decidable q] {Q : Option Value → Prop} (d : decode M.2.1 pc = .ok (.ireturn, 1)) (hr : M.2.2.2 = some .boolean) (hq : q) (h : Q (some (.int (B q)))) : wq g M R E (Zz g Q) pc ls [.int (I 1)] hp := by
  have e : I 1 = B q := by rw [B_t hq]; rfl
  rw [e]
  exact wq_zr d hr h
theorem wq_z0 {q : Prop} [Decidable q] {Q : Option Value → Prop} (d : decode M.2.1 pc = .ok (.ireturn, 1)) (hr : M.2.2.2 = some .boolean) (hq : ¬ q) (h : Q (some (.int (B q)))) : wq g M R E (Zz g Q) pc ls [.int (I 0)] hp := by
  have e : I 0 = B q := by rw [B_f hq]; rfl
  rw [e]
  exact wq_zr d hr h
theorem wq_ir {a b : Int} {Q : Option Value → Prop} (d : decode M.2.1 pc = .ok (.ireturn, 1)) (hr : M.2.2.2 = some .int) (e : a = b) (h : Q (some (.int (I b)))) : wq g M R E (Zz g Q) pc ls [.int (I a)] hp := by
  subst e
  intro p e s m args below meth c lsA C X P A
  exact W.iret C.1 C.2.1 (by rw [C.2.2.2.1]; exact hr) (fun t ht hW => ⟨some (.int (I a)), rfl, h, ht⟩) (fun q hq => by cases hq) d C.2.2.2.2.2.2.1
theorem wq_V {M' : MI} {R' : Room} {as : List Value} {a idx ci : Nat} {fs : List Value} {x : Value} (d : decode M.2.1 pc = .ok (.invokevirtual idx, 3)) (G : CV M.1.cls idx M' as.length) (S : Sz g M' R' (.ref a :: as) hp (fun v => v = some x)) {st0 : List Value} (hs0 : st0 = as.reverse ++ .ref a :: st) (ho : hp.2 a = some (.inr (.inr (ci, fs)))) (hci : (classes[ci]?).map (fun r => r.1) = some M'.1.cls) (hR : R'.frames + 1 ≤ R.frames ∧ 8 + (M'.2.2.1 + 11) + R'.locals ≤ R.locals ∧ R'.cells = 0 ∧ R'.slots = 0) (hst : (st.map fun v => v.category).sum ≤ 8)
    (h : wq g M R E Z (pc + 3) ls (x :: st) hp) : wq g M R E Z pc ls st0 hp := by
  intro p e s m args below meth c lsA C X P A
  subst hs0
  have hts := C.2.2.2.2.2.1
  have hK := C.2.2.2.2.2.2.2.2
  obtain ⟨⟨hl, hini, hcode, hd⟩, hin, hsel⟩ := G
  obtain ⟨r, hr, cellB, v1, v2, v3, -⟩ := (P.2.2 a _ ho).2
  have hrc : r.1 = M'.1.cls := by rw [hr] at hci; exact Option.some.inj hci
  have hrecv : ∃ cell : Cell, s.heap[ad g a]? = some cell ∧ cell.vm.isStatics = false ∧ s.vm.findClass M'.1.cls = some cell.cls := ⟨cellB, v1, by rw [v3]; rfl, by rw [v2, ← hrc]; exact (hK.1.1 ci r hr).2.1⟩
  have hcat : ((st.map (cv g)).map fun v => v.category).sum ≤ 8 := by
    rw [List.map_map]
    exact Nat.le_trans (Nat.le_of_eq (congrArg List.sum (List.map_congr_left fun v _ => cv_cat g v))) hst
  have hstk : (as.reverse ++ Value.ref a :: st).map (cv g) = (as.map (cv g)).reverse ++ Value.ref (ad g a) :: st.map (cv g) := by simp [cv]
  have hPre : PreV s s.heap M'.1.cls (ad g a) (va_Pc ((Value.ref a :: as).map (cv g)) (fun U => KK g U ∧ Rep g U hp U.heap)) (as.map (cv g)) := ⟨pre_blind, hrecv, pre_at (as := Value.ref a :: as) hK P⟩
  rw [hstk]
  have hrun : va_Run p g.1 e R s m args below meth c s.heap [] 0 0 0 0 (F0 m pc lsA ((as.map (cv g)).reverse ++ Value.ref (ad g a) :: st.map (cv g))) (st.map (cv g)) (QzOf g (fun v => v = some x) (Value.ref (ad g a) :: as.map (cv g)).toArray) (fun _ => False) := by
    rcases hl with hl | ⟨host, hl⟩
    · exact va_runV (Ts := gt) (own := M.1.cls) (C := M'.1.cls) (As := as.map (cv g)) ⟨C.1, C.2.1, C.2.2.1, C.2.2.2.2.1, hts⟩ S ⟨callB_of as.length hts (code_good hcode) rfl hR.2.2.1 hR.2.2.2 (hts _ hini) (hts _ hl) hd ⟨hR.1, hR.2.1⟩, hts _ hin, hts _ hsel⟩ hPre rfl (by simp) A.1 rfl (lv_room hcat) d ⟨Nat.zero_le _, Nat.zero_le _⟩
    · exact va_runVN (Ts := gt) (own := M.1.cls) (C := M'.1.cls) (As := as.map (cv g)) ⟨C.1, C.2.1, C.2.2.1, C.2.2.2.2.1, hts⟩ S ⟨va_cnB as.length hts (code_good hcode) rfl hR.2.2.1 hR.2.2.2 (hK.2.1 _ hl) (hts _ hini) hd ⟨hR.1, hR.2.1⟩, hts _ hin, hts _ hsel⟩ hPre rfl (by simp) A.1 rfl (lv_room hcat) d ⟨Nat.zero_le _, Nat.zero_le _⟩
  intro T hT XT
  obtain ⟨v, st₀, t, T', L', h0, X', hL, e1, e2, ⟨w, hv, hq, hh⟩, stp⟩ := hrun T hT XT
  cases hv
  cases hq
  have hL0 : L' = [] := by
    cases L' with
    | nil => rfl
    | cons y ys => exact absurd (hL y List.mem_cons_self) id
  subst hL0
  have hT' : T'.heap = s.heap := by rw [e1, hh, h0]
  obtain ⟨t2, a1, b1⟩ := h p e s m args below meth c lsA C X P A T' hT' X'
  exact ⟨t2, stp t2 a1, b1⟩

/-! a new exception thrown -/
def xNS : String := "java/util/NoSuchElementException"
def upNS : List String := ["java/lang/RuntimeException", "java/lang/Exception"]
def TQ (g : GT) (hp : Hp) : Array Value → State → Outcome → State → Prop := fun _ s0 o t => ∃ (q : Addr) (ce : Cell), o = .threw q ∧ q = ad g (hp.1 + 4) ∧ s0.WarmedH t.vm ∧ s0.sameButNew ({ t with vm := s0.vm } : State) [] 1 6 ∧ t.heap[q]? = some ce ∧ ce.vm = .none ∧ s0.vm.findClass xNS = some ce.cls ∧ Rep g t (hp.1 + 1, hp.2) t.heap
abbrev TZ (g : GT) (hp : Hp) : List Frame → Array Value → State → State → Prop := fun below args s t => ∃ o, t.status = .running ∧ Ended t below o ∧ TQ g hp args s o t
def Tp (g : GT) (M : MI) (R : Room) (as : List Value) (hp : Hp) : Prop :=
  MetFree g.1 M.1 (headSpec (.code M.1 M.2.1 M.2.2.1 M.2.2.2 :: gt) R) (va_Pc (as.map (cv g)) (fun U => KK g U ∧ Rep g U hp U.heap)) (fun _ _ _ _ _ => True) (TQ g hp)
theorem Tp_mk {as : List Value} (hy : plainName M.1.cls = true) (hw : wid as ≤ M.2.2.1) (h : wq g M R noE (TZ g hp) 0 (ent M.2.2.1 as) [] hp) : Tp g M R as hp := by
  refine MetFree.of_bodyS (code := M.2.1) (maxLocals := M.2.2.1) (ret := M.2.2.2) hy ?_ ?_
  · intro args s m h hn
    obtain ⟨meth, c, h1, h2, h3, h4, h5, h6, -, -⟩ := Cond.code_spec hn (atoms_spec (ws := .code M.1 M.2.1 M.2.2.1 M.2.2.2 :: gt) h _ List.mem_cons_self)
    exact ⟨meth, c, h1, h2, h3, h4, h5, h6⟩
  · intro p e s m args below meth c s₁ Bd hml hP _
    obtain ⟨rfl, hK, hP⟩ := hP
    have hh0 : s₁.heap = s.heap := by rw [Bd.state]; rfl
    obtain ⟨t, a1, o, b1, b2, b3⟩ := wq_in hw h Bd (Bd.noHandlers (atoms_spec (ws := .code M.1 M.2.1 M.2.2.1 M.2.2.2 :: gt) Bd.pre _ List.mem_cons_self)) hml hK hP s₁ hh0 (Stand.of_body Bd)
    exact ⟨t, o, a1, b1, b2, b3⟩
theorem th_ref {s : State} {args : Array Value} {C n d : String} (hK : KK g s) (P : Rep g s hp s.heap) (h1 : Cond.laysStatic C n d ∈ lw_tbl) (h2 : Cond.initialized C ∈ lw_tbl) (h3 : ∀ s0 : State, (Jvm.Cond.and given_1 narrow_1).before #[Value.ref (scA g)] s0 = true → (Cond.isRef (.static C n d)).before #[Value.ref (scA g)] s0 = true) : (Cond.isRef (.static C n d)).before args s = true := by
  obtain ⟨-, -, s0, ho, hal, -⟩ := hK
  obtain ⟨o1, o2, -, -, -, o6, o7, -⟩ := ho
  have hr := h3 s0 o7
  simp only [Cond.before, Cond.holds, Cond.value] at hr
  cases hv : (Term.static C n d).eval #[Value.ref (scA g)] s0 none [] s0 with
  | none => rw [hv] at hr; simp at hr
  | some v =>
    rw [hv] at hr
    have hZ := va_Zof (A := fun q => bs g ≤ q) (o6 _ h1) (o6 _ h2) hv (fun a ha => by rw [o1, o2] at ha; omega)
    have hZ2 := va_Z.moved hal hZ
    rw [o1] at hZ2
    have hZ3 := va_Z.kept hZ2 (H1 := s.heap) (fun a ha hb => P.2.1 a (by omega))
    obtain ⟨cf, kf, fi, f, a, cell, e1, e2, e3, e4, e5, e6, e7, -⟩ := hZ3
    have ev : (Term.static C n d).eval args s none [] s = some v := by
      simp [Term.eval, State.fieldNamed?, e1, e2, e4, e5, e6, e7]
    simp only [Cond.before, Cond.holds, Cond.value, ev]
    exact hr
theorem th_ls {s : State} {args : Array Value} {C n d : String} (hK : KK g s) (P : Rep g s hp s.heap) (h1 : Cond.laysStatic C n d ∈ lw_tbl) : (Cond.laysStatic C n d).before args s = true := by
  obtain ⟨-, -, s0, ho, hal, -⟩ := hK
  obtain ⟨o1, o2, -, -, -, o6, o7, -⟩ := ho
  have h := Cond.laysStatic_setVm hal (o6 _ h1)
  obtain ⟨c, k, i, f, a, cell, a1, a2, a3, a4, a5, a6, a7, a8, a9⟩ := Cond.laysStatic_spec h
  have a5' : (hp0 g)[a]? = some cell := by rw [← o1]; exact a5
  have hlt : a < bs g := by rw [← o2]; exact (Array.getElem?_eq_some_iff.mp a5').1
  exact Cond.laysStatic_of (s := s) a1 a2 a3 a4 ((P.2.1 a hlt).trans a5') a6 a7 a8 a9
theorem th_face {s : State} {args : Array Value} {w : Cond} (hK : KK g s) (h1 : w ∈ lw_tbl) (h2 : w.faceAtom = true) (h3 : ∀ (a a' : Array Value) (u u' : State), u.vm = u'.vm → w.before a u = true → w.before a' u' = true) : w.before args s = true := by
  obtain ⟨-, -, s0, ho, hal, -⟩ := hK
  exact h3 _ _ (s0.setVm s.vm) s rfl (Cond.faceAtom_setVm hal w h2 (ho.2.2.2.2.2.1 w h1))
def tqL : List Cond := (Bundle.ownAtoms0 "DeadTillSix" 153 xNS upNS).filter goodWord
theorem tqL_ok : ∀ w ∈ tqL, w ∈ gt := by
  have h : (tqL.all fun w => decide (w ∈ lw_tbl)) = true := by decide +kernel
  intro w hw
  have h1 := List.all_eq_true.mp h w hw
  rw [decide_eq_true_eq] at h1
  exact gt_mem h1 (List.mem_filter.mp hw).2
theorem th_de {x : MethodName} : ∀ (a a' : Array Value) (u u' : State), u.vm = u'.vm → (Cond.declares x).before a u = true → (Cond.declares x).before a' u' = true := by
  intro a a' u u' e h
  obtain ⟨m, mt, n1, n2, n3, n4⟩ := Cond.declares_spec h
  have : (Cond.declares x).before a' u' = (Cond.declares x).before a u := by
    simp only [Cond.before, Cond.holds, Cond.value, State.methodFound?, State.methodNamed?, e]
  rw [this]
  exact h
theorem th_ca {x y : String} : ∀ (a a' : Array Value) (u u' : State), u.vm = u'.vm → (Cond.castable x y).before a u = true → (Cond.castable x y).before a' u' = true := by
  intro a a' u u' e h
  have : (Cond.castable x y).before a' u' = (Cond.castable x y).before a u := by
    simp only [Cond.before, Cond.holds, Cond.value, e]
  rw [this]
  exact h
theorem th_atoms {s : State} {args : Array Value} (hts : ∀ w ∈ gt, w.before args s = true) (hK : KK g s) (P : Rep g s hp s.heap) : ∀ w ∈ Bundle.ownAtoms0 "DeadTillSix" 153 xNS upNS, w.before args s = true := by
  intro w hw
  by_cases c : goodWord w = true
  · exact hts w (tqL_ok w (List.mem_filter.mpr ⟨hw, c⟩))
  · have h : ∀ w ∈ Bundle.ownAtoms0 "DeadTillSix" 153 xNS upNS, goodWord w = true ∨ w ∈ [Cond.isRef (.static "java/lang/Throwable" "UNASSIGNED_STACK" "[Ljava/lang/StackTraceElement;"), Cond.isRef (.static "java/lang/Throwable" "SUPPRESSED_SENTINEL" "Ljava/util/List;"), Cond.laysStatic "java/lang/Throwable" "UNASSIGNED_STACK" "[Ljava/lang/StackTraceElement;", Cond.laysStatic "java/lang/Throwable" "SUPPRESSED_SENTINEL" "Ljava/util/List;", Cond.declares ⟨"java/lang/RuntimeException", "<init>", "()V"⟩, Cond.declares ⟨"java/lang/Exception", "<init>", "()V"⟩, Cond.declares ⟨"java/lang/Throwable", "<init>", "()V"⟩, Cond.castable xNS xNS] := by decide +kernel
    rcases h w hw with q | q
    · exact absurd q c
    · simp only [List.mem_cons, List.not_mem_nil, or_false] at q
      rcases q with q | q | q | q | q | q | q | q
      · rw [q]
        exact th_ref hK P (by decide +kernel) (by decide +kernel) (fun s0 h => flat_of_before _ h _ (by decide +kernel))
      · rw [q]
        exact th_ref hK P (by decide +kernel) (by decide +kernel) (fun s0 h => flat_of_before _ h _ (by decide +kernel))
      · rw [q]; exact th_ls hK P (by decide +kernel)
      · rw [q]; exact th_ls hK P (by decide +kernel)
      · rw [q]; exact th_face hK (by decide +kernel) rfl th_de
      · rw [q]; exact th_face hK (by decide +kernel) rfl th_de
      · rw [q]; exact th_face hK (by decide +kernel) rfl th_de
      · rw [q]; exact th_face hK (by decide +kernel) rfl th_ca
theorem th_mem : Cond.classLink "DeadTillSix" 151 xNS ∈ gt ∧ Cond.instantiable xNS 6 ∈ gt ∧ Cond.initialized xNS ∈ gt := ⟨gt_mem (by decide +kernel) rfl, gt_mem (by decide +kernel) rfl, gt_mem (by decide +kernel) rfl⟩
theorem same_heap {s t : State} {k n : Nat} (h : s.sameButNew t [] k n) : ∀ a, a < s.heap.size → t.heap[a]? = s.heap[a]? := by
  intro a ha
  obtain ⟨c, hc⟩ : ∃ c, s.heap[a]? = some c := ⟨s.heap[a], Array.getElem?_eq_getElem ha⟩
  obtain ⟨c', h1, h2, h3, h4⟩ := h.2.2.2.2.2 a c hc
  rw [h1, hc]
  have h5 : c'.slots = c.slots := Array.ext_getElem? fun i => h4 i (by simp)
  rw [h2, h5]
theorem wq_throw (hM : M.1.cls = "DeadTillSix") (d0 : decode M.2.1 pc = .ok (.new 151, 3)) (d3 : decode M.2.1 (pc + 3) = .ok (.dup, 1)) (d4 : decode M.2.1 (pc + 4) = .ok (.invokespecial 153, 3)) (d7 : decode M.2.1 (pc + 7) = .ok (.athrow, 1)) (hR : 6 ≤ R.frames ∧ 100 ≤ R.locals ∧ 1 ≤ R.cells ∧ 6 ≤ R.slots) : wq g M R noE (TZ g hp) pc ls [] hp := by
  intro p e s m args below meth c lsA C X P A T hT XT
  have hts := C.2.2.2.2.2.1
  have hK := C.2.2.2.2.2.2.2.2
  have hown : s.vm.findClass "DeadTillSix" = some m.cls := by rw [← hM]; exact C.2.2.2.2.1
  have htr : e.platform.stackTraces = false := by
    obtain ⟨-, -, s0, ho, -⟩ := hK
    rw [Example.NoTraceControls.admits_follows XT.admits]
    exact ho.2.2.2.1
  obtain ⟨vm₁, cX, kX, hfX, hkX, -, -, X₁, st1⟩ := XT.newCold C.1 (own := "DeadTillSix") (C := xNS) (index := 151) (n := 6) hown (hts _ th_mem.1) (hts _ th_mem.2.1) (hts _ th_mem.2.2)
    (g := F0 m pc lsA []) rfl (by rw [C.2.1]; exact d0) hR.2.2.1 hR.2.2.2
  generalize hT1 : (T.setVm vm₁).pushCell { cls := cX, slots := kX.instanceTypes.map defaultValue, vm := .none } = T1 at X₁ st1
  have hcellA : T1.heap[T.heap.size]? = some (freshCell cX kX) := by rw [← hT1]; exact State.heap_pushCell_size _ _
  have K : W p g.1 e R s m args below meth c T1.heap [] 1 6 (TZ g hp below args s) (F0 m (pc + 3) lsA [.ref T.heap.size]) := by
    refine lv_dup C.1 C.2.1 d3 rfl ?_
    intro T2 hT2 X2
    obtain ⟨U, hsteps, hrun, hend, hW, hsame, ce, hce, hO⟩ := X2.ctorThrow0 C.1 htr (own := "DeadTillSix") (cls := xNS) (names := upNS) (ic := 153) hown (by decide +kernel) (by decide +kernel)
      (th_atoms hts hK P) (fun y hy => by cases hy) hfX hkX (by rw [hT2]; exact hcellA) (by rw [hT]; exact Nat.le_refl _)
      (g := F0 m (pc + 4) lsA [.ref T.heap.size, .ref T.heap.size]) rfl (by rw [A.1, C.2.2.1]) rfl rfl (rest := []) rfl
      (by rw [C.2.1]; exact d4) (by rw [C.2.1]; exact d7) (covers_of_empty X _) (by show 2 + 3 < R.frames; omega) (by show 2 * 0 + (1 + 0) + (13 * (2 + 1) + 41) ≤ R.locals; omega) (hlocks := C.2.2.2.2.2.2.1)
    have hz : s.heap.size = bs g + hp.1 := P.1
    have hce' : U.heap[s.heap.size]? = some ce := by rw [← hT]; exact hce
    have hsz : U.heap.size = s.heap.size + 1 := by
      have h1 := (Array.getElem?_eq_some_iff.mp hce').1
      have h2 : U.heap.size ≤ s.heap.size + 1 := hsame.2.2.1
      omega
    have hq : T.heap.size = ad g (hp.1 + 4) := by rw [hT, ad_new P]
    refine ⟨U, hsteps, .threw T.heap.size, hrun, hend, T.heap.size, ce, rfl, hq, hW, hsame, hce, hO.vm, hO.cls, ?_⟩
    have hal : s.vm.Alike U.vm := hW.alike
    have hold := same_heap hsame
    refine ⟨by rw [hsz, hz]; show _ = bs g + (hp.1 + 1); omega, fun q hq => ?_, fun k x hk => ?_⟩
    · have : U.heap[q]? = s.heap[q]? := hold q (by omega)
      rw [this]
      exact P.2.1 q hq
    · have h3 := P.2.2 k x hk
      exact ⟨h3.1, (h3.2.moved hal).kept (hold _ h3.2.lt)⟩
  obtain ⟨t, a1, b1⟩ := K T1 rfl X₁
  exact ⟨t, st1 t a1, b1⟩
/-! caught by the caller -/
abbrev exE (en hpc : Nat) : Code → Prop := fun c => c.exceptionTable.toList = [⟨0, en, hpc, 13⟩]
theorem th_mem2 : Cond.classLink "DeadTillSixLaw" 13 xNS ∈ gt := gt_mem (by decide +kernel) rfl
theorem wq_catch {M' : MI} {R' : Room} {as : List Value} {a idx ci en hpc : Nat} {fs : List Value} {Q : Option Value → Hp → Prop} (hM : M.1.cls = "DeadTillSixLaw") (d : decode M.2.1 pc = .ok (.invokevirtual idx, 3)) (G : CV M.1.cls idx M' as.length) (hl : Cond.methodLink M.1.cls idx M'.1 ∈ gt) (S : Tp g M' R' (.ref a :: as) hp) {st0 : List Value} (hs0 : st0 = as.reverse ++ .ref a :: st) (ho : hp.2 a = some (.inr (.inr (ci, fs)))) (hci : (classes[ci]?).map (fun r => r.1) = some M'.1.cls)
    (hR : R'.frames + 1 ≤ R.frames ∧ 8 + (M'.2.2.1 + 11) + R'.locals ≤ R.locals ∧ R'.cells = 1 ∧ R'.slots = 6 ∧ 1 ≤ R.cells ∧ 6 ≤ R.slots) (hst : (st.map fun v => v.category).sum ≤ 8) (hpc1 : pc < en)
    (h : wp g M R Q 1 6 hpc ls [.ref (hp.1 + 4)] (hp.1 + 1, hp.2)) : wq g M R (exE en hpc) (fun below args s => MQ below (QcOf g Q) args s R.cells R.slots (fun q => bs g ≤ q)) pc ls st0 hp := by
  intro p e s m args below meth c lsA C X P A T hT XT
  subst hs0
  have hts := C.2.2.2.2.2.1
  have hK := C.2.2.2.2.2.2.2.2
  obtain ⟨⟨-, hini, hcode, hd⟩, hin, hsel⟩ := G
  obtain ⟨r, hr, cellB, v1, v2, v3, -⟩ := (P.2.2 a _ ho).2
  have hrc : r.1 = M'.1.cls := by rw [hr] at hci; exact Option.some.inj hci
  have hcls : s.vm.findClass M'.1.cls = some cellB.cls := by rw [v2, ← hrc]; exact (hK.1.1 ci r hr).2.1
  have hobj : cellB.vm.isStatics = false := by rw [v3]; rfl
  have hcat : ((st.map (cv g)).map fun v => v.category).sum ≤ 8 := by
    rw [List.map_map]
    exact Nat.le_trans (Nat.le_of_eq (congrArg List.sum (List.map_congr_left fun v _ => cv_cat g v))) hst
  have hstk : (as.reverse ++ Value.ref a :: st).map (cv g) = (as.map (cv g)).reverse ++ Value.ref (ad g a) :: st.map (cv g) := by simp [cv]
  have hgood := code_good hcode
  have hws : ∀ w ∈ (Cond.code M'.1 M'.2.1 M'.2.2.1 M'.2.2.2 :: gt), ∀ (a' : Array Value) (U : State), s.WarmedH U.vm → w.before a' U = true := fun w hw a' U hW => word_at hW (hgood w hw).2 (hts w (hgood w hw).1)
  have hB : BackT g.1 R p e below s args M'.1 3 8 (PreOf R 1 6 (va_Pc ((Value.ref a :: as).map (cv g)) (fun U => KK g U ∧ Rep g U hp U.heap))) (fun A a' x B => ∃ ce : Cell, B.U.heap[x]? = some ce ∧ ce.vm = .none ∧ A.U.vm.findClass xNS = some ce.cls ∧ x = ad g (hp.1 + 4) ∧ Rep g B.U (hp.1 + 1, hp.2) B.U.heap ∧ B.locs = A.locs ∧ B.cells = A.cells + 1 ∧ B.slots = A.slots + 6) := by
    refine BackT.of_free (S := headSpec (Cond.code M'.1 M'.2.1 M'.2.2.1 M'.2.2.2 :: gt) R') (bytes := M'.2.1) (maxL := M'.2.2.1) (ret := M'.2.2.2) (E := fun a first o t L k n => L = [] ∧ k = 1 ∧ n = 6) S hR.1 hR.2.1 ?_ ?_ (fun _ _ _ _ _ _ _ _ _ => trivial) ?_ ?_
    · intro m meth c A a' X hp'
      exact ⟨atoms_intro fun w hw => hws w hw _ _ X.warmed, hws _ List.mem_cons_self _ _ X.warmed, hws _ (List.mem_cons_of_mem _ hini) _ _ X.warmed, by show A.cells + R'.cells ≤ _; rw [hR.2.2.1]; exact hp'.1, by show A.slots + R'.slots ≤ _; rw [hR.2.2.2.1]; exact hp'.2.1⟩
    · intro m meth c A a' g' mk X hp'
      exact pre_blind _ _ _ _ hp'.2.2
    · intro a' first o t hq
      obtain ⟨q, ce, q1, q2, q3, q4, q5⟩ := hq
      exact ⟨[], 1, 6, ⟨⟨q, q1⟩, q3, q4⟩, rfl, rfl, rfl⟩
    · intro m meth c A a' g' mk v t L k n X hp' hq hF hE
      obtain ⟨e1, e2, e3⟩ := hE
      subst e1 e2 e3
      obtain ⟨q, ce, q1, q2, q3, q4, q5, q6, q7, q8⟩ := hq
      cases q1
      exact ⟨ce, q5, q6, q7, q2, q8.moved (Vm.Alike.refl _), List.append_nil _, rfl, rfl⟩
  obtain ⟨mk, methM, hnamed, hmethM, hstM, habM⟩ := Cond.instanceMethod_spec (hts _ hin)
  obtain ⟨methM', cM, hmethM', -, -, -, -, -, -, hsigM⟩ := Cond.code_spec hnamed (hts _ hcode)
  cases hmethM.symm.trans hmethM'
  obtain ⟨c2, r2, m2, q1, q2, q3, q4, kP, hkP, hkPi⟩ := Cond.selects_spec (hts _ hsel)
  cases hcls.symm.trans q1
  cases (State.methodFound?_of_named hnamed ⟨hd.1, hd.2.1⟩).symm.trans q2
  cases hnamed.symm.trans q3
  have hselP : selectMethod e.platform s.vm cellB.cls mk = .method mk := by rw [Launch.admits_selectMethod XT.admits]; exact q4
  have hlen : as.length = methM.sig.parameters.length := by
    have := hd.2.2
    rw [hsigM] at this
    exact (Option.some.inj this).symm
  rw [hstk]
  obtain ⟨vm₁, X₁, hstep₁⟩ := XT.invokevirtual C.1 C.2.2.2.2.1 (hts _ hl) hnamed hmethM hstM hkP hkPi ⟨hd.1, hd.2.1⟩ (a := ad g a) (cell := cellB) (by rw [hT]; exact v1)
    (fun z h => by rw [h] at hobj; cases hobj) hselP hmethM habM hkP hkPi (g := F0 m pc lsA ((as.map (cv g)).reverse ++ Value.ref (ad g a) :: st.map (cv g))) rfl (argsL := as.map (cv g)) (rest := st.map (cv g)) (by rw [List.length_map]; exact hlen) rfl (by rw [C.2.1]; exact d)
  obtain ⟨v, B, X', ⟨ce, w1, w2, w3, w4, w5, w6, w7, w8⟩, hsteps⟩ := hB m meth c ⟨T.setVm vm₁, [], 0, 0⟩ (F0 m pc lsA (st.map (cv g))) (.invokevirtual idx) mk (Value.ref (ad g a) :: as.map (cv g)).toArray X₁ rfl (by rw [A.1, C.2.2.1]) (by rw [C.2.1]; exact d) (lv_room hcat) (X₁.named hnamed) ⟨hR.2.2.2.2.1, hR.2.2.2.2.2, pre_at (as := Value.ref a :: as) hK P _ hT X₁.warmed⟩
  obtain ⟨U, lU, cU, sU⟩ := B
  dsimp only [Pt.U, Pt.locs, Pt.cells, Pt.slots] at X' w1 w3 w5 w6 w7 w8 hsteps
  subst w6 w7 w8
  have hcT : s.vm.findClass xNS = some ce.cls := by
    obtain ⟨cc, hcc, -⟩ := Cond.castable_spec (th_face (args := args) hK (w := Cond.castable xNS xNS) (by decide +kernel) rfl th_ca)
    obtain ⟨c4, k1, k2, -⟩ := id (Cond.castable_spec (th_face (args := args) hK (w := Cond.castable xNS xNS) (by decide +kernel) rfl th_ca))
    rw [X₁.warmed.alike.findClass] at w3
    exact w3
  obtain ⟨c3, c4, hc3, hc4, hasg⟩ := Cond.castable_spec (th_face (args := args) hK (w := Cond.castable xNS xNS) (by decide +kernel) rfl th_ca)
  cases hcT.symm.trans hc3
  cases hcT.symm.trans hc4
  have hown : s.vm.findClass "DeadTillSixLaw" = some m.cls := by rw [← hM]; exact C.2.2.2.2.1
  obtain ⟨hend, hk0⟩ := X'.catches_of_link hown (x := ⟨0, en, hpc, 13⟩) (show (13 : Nat) ≠ 0 by decide) (hts _ th_mem2) hcT hasg
  obtain ⟨vm', X'', hsteps2⟩ := X'.thenCaughtThrough v (g := F0 m pc lsA (st.map (cv g))) rfl (hstep₁ _ fun acts => by rw [doInvoke_state]; exact hsteps) w1 (by rw [w2]; rfl) hk0 [] ⟨0, en, hpc, 13⟩ [] X (fun y hy => by cases hy) (by simp [covers]; exact hpc1) hend
  obtain ⟨t, a1, b1⟩ := h p e s m args below meth c U.heap [] lsA C (w5.moved X'.warmed.alike.symm) (fun q hq => by cases hq) A (U.setVm vm') rfl X''
  refine ⟨t, hsteps2.trans ?_, b1⟩
  subst w4
  exact a1
def SpW (g : GT) (M : MI) (hh : List (Nat × Nat × Nat × Nat)) (R : Room) (as : List Value) (hp : Hp) (Q : Option Value → Hp → Prop) : Prop :=
  Met g.1 M.1 (.codeWith M.1 M.2.1 M.2.2.1 M.2.2.2 hh :: gt) R (va_Pc (as.map (cv g)) (fun U => KK g U ∧ Rep g U hp U.heap)) (QcOf g Q) R.cells R.slots (fun q => bs g ≤ q)
theorem SpW_q {as : List Value} {Q : Option Value → Hp → Prop} {en hpc : Nat} (hy : plainName M.1.cls = true) (hw : wid as ≤ M.2.2.1) (h : wq g M R (exE en hpc) (fun below args s => MQ below (QcOf g Q) args s R.cells R.slots (fun q => bs g ≤ q)) 0 (ent M.2.2.1 as) [] hp) : SpW g M [(0, en, hpc, 13)] R as hp Q := by
  refine va_MetW (cc := M.2.1) (maxL := M.2.2.1) (ret := M.2.2.2) (hh := [(0, en, hpc, 13)]) (ws' := gt) hy rfl ?_
  intro p e s m args below meth c s₁ Bd hml hv
  obtain ⟨rfl, hK, hP⟩ := hv
  refine wq_in hw h Bd ?_ hml hK hP
  obtain ⟨m9, meth9, c9, hn9, h1, h2, h3, h4, h5, h6⟩ := Cond.codeWith_spec (atoms_spec (ws := .codeWith M.1 M.2.1 M.2.2.1 M.2.2.2 [(0, en, hpc, 13)] :: gt) Bd.pre _ List.mem_cons_self)
  cases Bd.named.symm.trans hn9
  cases Bd.method.symm.trans h1
  cases (Stand.of_body Bd).code.symm.trans h2
  show c.exceptionTable.toList = _
  cases e : c.exceptionTable.toList with
  | nil => rw [e] at h5; simp at h5
  | cons x r =>
    rw [e] at h5
    cases r with
    | nil =>
      obtain ⟨x1, x2, x3, x4⟩ := x
      simp at h5
      obtain ⟨rfl, rfl, rfl, rfl⟩ := h5
      rfl
    | cons y ys => simp at h5
theorem SpW_w {as : List Value} {Q : Option Value → Hp → Prop} {hh : List (Nat × Nat × Nat × Nat)} (hy : plainName M.1.cls = true) (hw : wid as ≤ M.2.2.1) (h : wp g M R Q 0 0 0 (ent M.2.2.1 as) [] hp) : SpW g M hh R as hp Q := by
  refine va_MetW (cc := M.2.1) (maxL := M.2.2.1) (ret := M.2.2.2) (hh := hh) (ws' := gt) hy rfl ?_
  intro p e s m args below meth c s₁ Bd hml hv
  obtain ⟨rfl, hK, hP⟩ := hv
  exact wq_in (E := fun _ => True) (Z := fun below args s => MQ below (QcOf g Q) args s R.cells R.slots (fun q => bs g ≤ q)) hw (fun p e s m args below meth c lsA C _ P A => h p e s m args below meth c s.heap [] lsA C P (fun q hq => by cases hq) A) Bd trivial hml hK hP
theorem wp_SW {M' : MI} {hh : List (Nat × Nat × Nat × Nat)} {R' : Room} {as : List Value} {idx k n : Nat} {Q Q' : Option Value → Hp → Prop} (d : decode M.2.1 pc = .ok (.invokestatic idx, 3)) (hl : Cond.methodLink M.1.cls idx M'.1 ∈ gt) (hsta : Cond.static M'.1 ∈ gt) (hini : Cond.initialized M'.1.cls ∈ gt) (hcw : Cond.codeWith M'.1 M'.2.1 M'.2.2.1 M'.2.2.2 hh ∈ gt) (hy : M'.1.cls ≠ "java/lang/invoke/MethodHandle" ∧ M'.1.cls ≠ "java/lang/invoke/VarHandle") (hd : (parseMethodDescriptor M'.1.desc).map (fun d => d.parameters.length) = some as.length) (S : SpW g M' hh R' as hp Q') (hR : RmOk R R' M'.2.2.1 k n) (hst : (st.map fun v => v.category).sum ≤ 8) {st0 : List Value} (hs0 : st0 = as.reverse ++ st)
    (h : ∀ v hp', Q' v hp' → wp g M R Q (k + R'.cells) (n + R'.slots) (pc + 3) ls (v.toList ++ st) hp') : wp g M R Q k n pc ls st0 hp := by
  intro p e s m args below meth c H locs lsA C P L A
  subst hs0
  have hts := C.2.2.2.2.2.1
  have hK := C.2.2.2.2.2.2.2.2
  have hcat : ((st.map (cv g)).map fun v => v.category).sum ≤ 8 := by
    rw [List.map_map]
    exact Nat.le_trans (Nat.le_of_eq (congrArg List.sum (List.map_congr_left fun v _ => cv_cat g v))) hst
  have hstk : (as.reverse ++ st).map (cv g) = (as.map (cv g)).reverse ++ st.map (cv g) := by simp
  rw [hstk]
  refine run_then (a := (as.map (cv g)).toArray) C L A ?_ h
  have hgood : GoodIn gt (Cond.codeWith M'.1 M'.2.1 M'.2.2.1 M'.2.2.2 hh :: gt) := gt_good fun w hw => (List.mem_cons.mp hw).elim (fun e => by rw [e]; exact hcw) id
  have hB : Back g.1 R p e below s args M'.1 3 8 (PreOf R R'.cells R'.slots (va_Pc (as.map (cv g)) (fun U => KK g U ∧ Rep g U hp U.heap))) (PostOf (QcOf g Q') R'.cells R'.slots (fun q => bs g ≤ q)) :=
    va_backW (hh := hh) (bytes := M'.2.1) (maxL := M'.2.2.1) (ret := M'.2.2.2) S pre_blind rfl rfl hR.1 hR.2.1 (fun w hw a' U hW => word_at hW (hgood w hw).2 (hts w (hgood w hw).1)) List.mem_cons_self (fun a' U hW => word_at hW (hgood _ (List.mem_cons_of_mem _ hini)).2 (hts _ hini))
  intro T hT X
  obtain ⟨mk, methM, cM, hnamed, hmethM, -, -, -, -, -, -, hsigM⟩ := Cond.codeWith_spec (hts _ hcw)
  have hstatic : methM.isStatic = true := Cond.static_spec hnamed hmethM (hts _ hsta)
  obtain ⟨kP, hkP, -⟩ := className_of_methodNamed hnamed
  have hinitP : kP.init = .initialized := Cond.initialized_spec (findClass_of_methodNamed hnamed) hkP (hts _ hini)
  have hlen : as.length = methM.sig.parameters.length := by
    have := hd
    rw [hsigM] at this
    exact (Option.some.inj this).symm
  obtain ⟨vm₁, X₁, hstep₁⟩ := X.invokestatic C.1 C.2.2.2.2.1 (hts _ hl) hnamed hmethM hstatic hkP hinitP hy (g := F0 m pc lsA ((as.map (cv g)).reverse ++ st.map (cv g))) rfl (argsL := as.map (cv g)) (rest := st.map (cv g)) (by rw [List.length_map]; exact hlen) rfl (by rw [C.2.1]; exact d)
  obtain ⟨v, ⟨U', l2, c2, s2⟩, X', ⟨g', mk', t, L', e1, e2, hq, h1, hL, h2, h3⟩, hsteps⟩ := hB m meth c ⟨T.setVm vm₁, locs, k, n⟩ (F0 m pc lsA (st.map (cv g))) (.invokestatic idx) mk (as.map (cv g)).toArray X₁ rfl (by rw [A.1, C.2.2.1]) (by rw [C.2.1]; exact d) (lv_room hcat) (X₁.named hnamed) ⟨hR.2.2.1, hR.2.2.2, pre_at hK P _ hT X₁.warmed⟩
  dsimp only [Pt.U, Pt.locs, Pt.cells, Pt.slots] at X' e1 e2 h1 h2 h3 hsteps
  subst h1 h2 h3
  exact ⟨v, _, t, U', L', hT, X', hL, e1, e2, hq, fun target hh => hstep₁ _ fun acts => by rw [doInvoke_state]; exact hsteps.trans hh⟩
end TH

