/-! the law: its script, the state of both -/
section LS1
variable {g : GT} {M : MI} {R : Room} {Q : Option Value → Hp → Prop} {k n pc D q ot N : Nat} {ls : List (Option Value)} {st : List Value} {hp hp2 : Hp} {i th B : Int} {T : Nat → Int → Int} {U : List (Nat → Int → Int)} {tx rw rt : List Int} {hs : List (Int × Int)} {ss : List (Int × Int × Int)} {KT : Nat → Option (Nat → Int → Int)}
def sv (g : GT) (i : Int) : Int := (scX g i.toNat).toInt
theorem sv_R (g : GT) (i : Int) : InR (sv g i) := by
  have h1 := Int32.le_toInt (scX g i.toNat)
  have h2 := Int32.toInt_lt (scX g i.toNat)
  unfold sv
  omega
theorem scr_at {s : State} {H : Heap} (hK : KK g s) (P : Rep g s hp H) : va_X (scA g) (scL g) (scX g) s H := by
  obtain ⟨-, -, s0, ho, hal, -⟩ := hK
  obtain ⟨o1, o2, o3, -, o5, -⟩ := ho
  exact (o5.moved hal).kept (P.2.1 _ o3)
theorem wp_sld (d : decode M.2.1 pc = .ok (.iaload, 1)) (h0 : 0 ≤ i) (h1 : i < scL g) (hL : scL g ≤ 2560) (h : wp g M R Q k n (pc + 1) ls (.int (I (sv g i)) :: st) hp) : wp g M R Q k n pc ls (.int (I i) :: .ref 0 :: st) hp := by
  intro p e s m args below meth c H locs lsA C P L A
  obtain ⟨scr, x1, x2, x3, x4, x5⟩ := scr_at C.2.2.2.2.2.2.2.2 P
  obtain ⟨y1, y2⟩ := I_in (i := i) (N := scL g) h0 h1 (by omega)
  have e1 : (I i).toNatClampNeg = i.toNat := by omega
  have e2 : Value.int (I (sv g i)) = Value.int (scX g (I i).toNatClampNeg) := by
    rw [e1]
    unfold sv
    rw [← I_of]
  have hk := h p e s m args below meth c H locs lsA C P L A
  refine W.iald (v := .int (I (sv g i))) C.1 C.2.1 x1 x2 x3 (by rw [x4]; exact y1) (by rw [e2]; exact x5 _ (by omega)) rfl rfl d hk
theorem wp_scl (d : decode M.2.1 pc = .ok (.arraylength, 1)) (h : wp g M R Q k n (pc + 1) ls (.int (I (scL g : Int)) :: st) hp) : wp g M R Q k n pc ls (.ref 0 :: st) hp := by
  intro p e s m args below meth c H locs lsA C P L A
  obtain ⟨scr, x1, x2, x3, x4, x5⟩ := scr_at C.2.2.2.2.2.2.2.2 P
  have hk := h p e s m args below meth c H locs lsA C P L A
  have e : I (scL g : Int) = Int32.ofNat (scL g) := rfl
  rw [e] at hk
  exact W.alen (n := Int32.ofNat (scL g)) C.1 C.2.1 x1 x2 (by rw [x4] <;> rfl) rfl rfl d hk
theorem MAt.o (h : MAt hp q th N T U tx rw rt hs ss KT) : OB hp q 12 := by
  obtain ⟨V, A, rd, K, h⟩ := h
  exact ⟨_, K.1⟩
theorem ModAt.mv {V : Nat → Int} {A : Nat → Int → Int} {rd rl : Value} (K : ModAt hp q V A rd rl) (h : ∀ x, q ≤ x → x < q + 25 → hp2.2 x = hp.2 x) : ModAt hp2 q V A rd rl := ⟨(h q (by omega) (by omega)).trans K.1, fun j h1 h2 => (h (q + j) (by omega) (by omega)).trans (K.2 j h1 h2)⟩
theorem MAt.mv (hM : MAt hp q th N T U tx rw rt hs ss KT) (h : ∀ x, q ≤ x → x < q + 25 → hp2.2 x = hp.2 x) : MAt hp2 q th N T U tx rw rt hs ss KT := by
  obtain ⟨V, A, rd, K, r⟩ := hM
  exact ⟨V, A, rd, K.mv h, r⟩
/-- class at D, reference at q, the row of one long at o: one state, and it is a good one -/
def LSt (hp : Hp) (D q ot : Nat) (B : Int) : Prop := ∃ N T U tx rw rt hs ss KT th, DX hp D T U tx rw rt hs ss KT ∧ MAt hp q th N T U tx rw rt hs ss KT ∧ (∃ f, hp.2 ot = some (.inl (.long, 1, f))) ∧ XI B N T U tx hs ss KT
theorem TG.hoT {cs : List Int} {x : Int} (h : TG T N B) (hb : B < 1800000000) : TG (hoT cs T N x) N (B + 1000) := by
  unfold Jvm.Pilot.CDeadTillSixLaw_law_r7334_a3e82d.hoT
  split
  · exact (h.run hb x.toNat (by omega)).mo (by omega)
  · exact h.mo (by omega)
theorem TG.she {x y f st : Int} (h : TG T N B) : TG (if shO x y then shT T x y f st N else T) N B := by
  split
  · exact h.sht
  · exact h
theorem XI.k8 (h : XI B N T U tx hs ss KT) : ∀ k X, KT k = some X → InR (X 8 0) := fun k X q => by
  obtain ⟨n, h1, h2⟩ := h.2.2.2.2.2 k X q
  have := h2.1.men
  have := h.1.1.men.2
  omega
end LS1

