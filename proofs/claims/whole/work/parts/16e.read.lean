/-! the reference: one act read -/
section MQb
variable {g : GT} {hp hp0 : Hp} {q N N2 n a s k p F m r tp p1 p2 p3 : Nat} {V V2 V3 : Nat → Int} {A A2 A3 : Nat → Int → Int} {rd rl : Value} {i j x v b c y z w th o d u w1 w2 w3 u1 u2 u3 : Int} {T T2 X : Nat → Int → Int} {l t cs tx rw rw2 rt : List Int} {G f D Y C : Int → Int}
/-- how many digits an act of this letter has -/
def nd (c : Int) : Nat := if c = 104 ∨ c = 99 then 1 else if c = 100 then 2 else if c = 108 ∨ c = 112 then 3 else 0
/-- the first wrong place of the act at p; -1 if it is right -/
def abd (l : List Int) (p : Nat) : Int := if nd (hr l 60 p) = 0 then (p : Int) else if ¬ (48 ≤ hr l 60 (p + 1) ∧ hr l 60 (p + 1) < 48 + 10) then ((p + 1 : Nat) : Int) else if nd (hr l 60 p) = 1 then -1 else if nd (hr l 60 p) = 2 then (if 49 ≤ hr l 60 (p + 1 + 1) ∧ hr l 60 (p + 1 + 1) < 49 + 9 then -1 else ((p + 1 + 1 : Nat) : Int)) else if ¬ (48 ≤ hr l 60 (p + 1 + 1) ∧ hr l 60 (p + 1 + 1) < 48 + 10) then ((p + 1 + 1 : Nat) : Int) else if 49 ≤ hr l 60 (p + 1 + 1 + 1) ∧ hr l 60 (p + 1 + 1 + 1) < 49 + 9 then -1 else ((p + 1 + 1 + 1 : Nat) : Int)
def RA (l : List Int) (p k : Nat) (A0 C : Int → Int) (p' : Nat) (w' : Int) : Prop := w' = abd l p ∧ (abd l p = -1 → p' = p + 1 + nd (hr l 60 p)) ∧ (abd l p ≠ -1 → (p' : Int) = abd l p) ∧ (∀ j : Int, j < 4 * (k : Int) → C j = A0 j) ∧ (abd l p = -1 → C (4 * (k : Int)) = hr l 60 p ∧ C (4 * (k : Int) + 1) = hr l 60 (p + 1) - 48 ∧ (2 ≤ nd (hr l 60 p) → C (4 * (k : Int) + 2) = hr l 60 (p + 1 + 1) - 48) ∧ (3 ≤ nd (hr l 60 p) → C (4 * (k : Int) + 3) = hr l 60 (p + 1 + 1 + 1) - 48))
/-- what one sign asked for comes to -/
def OO (l : List Int) (tp : Nat) (c b : Int) (p : Nat) (w : Int) (p1 : Nat) (w1 u1 : Int) : Prop := (w = -1 ∧ (c ≤ hr l tp p ∧ hr l tp p < c + b) ∧ p1 = p + 1 ∧ w1 = -1 ∧ u1 = hr l tp p - c) ∨ (w = -1 ∧ ¬ (c ≤ hr l tp p ∧ hr l tp p < c + b) ∧ p1 = p ∧ w1 = (p : Int) ∧ u1 = 0) ∨ (w ≠ -1 ∧ p1 = p ∧ w1 = w ∧ u1 = 0)
theorem oo : ∃ (p1 : Nat) (w1 u1 : Int), (if w = -1 ∧ c ≤ hr l tp p ∧ hr l tp p < c + b then p + 1 else p) = p1 ∧ (if w = -1 ∧ ¬ (c ≤ hr l tp p ∧ hr l tp p < c + b) then (p : Int) else w) = w1 ∧ (if w = -1 ∧ c ≤ hr l tp p ∧ hr l tp p < c + b then hr l tp p - c else 0) = u1 ∧ OO l tp c b p w p1 w1 u1 := by
  refine ⟨_, _, _, rfl, rfl, rfl, ?_⟩
  unfold OO
  by_cases h1 : w = -1
  · by_cases h2 : c ≤ hr l tp p ∧ hr l tp p < c + b
    · exact .inl ⟨h1, h2, if_pos ⟨h1, h2⟩, by rw [if_neg (fun z => z.2 h2)]; exact h1, if_pos ⟨h1, h2⟩⟩
    · exact .inr (.inl ⟨h1, h2, if_neg (fun z => h2 z.2), if_pos ⟨h1, h2⟩, if_neg (fun z => h2 z.2)⟩)
  · exact .inr (.inr ⟨h1, if_neg (fun z => h1 z.1), if_neg (fun z => h1 z.1), if_neg (fun z => h1 z.1)⟩)
theorem OO.le (h : OO l tp c b p w p1 w1 u1) (hw : InR w) (hp : p < 100) : InR w1 ∧ p1 ≤ p + 1 := by
  unfold OO at h
  omega
theorem ra0 (h : nd (hr l 60 p) = 0) : RA l p k f f p (p : Int) := by
  have e : abd l p = (p : Int) := if_pos h
  exact ⟨e.symm, fun z => by omega, fun _ => e.symm, fun _ _ => rfl, fun z => by omega⟩
theorem ra1 (h : nd (hr l 60 p) = 1) (h1 : OO l 60 48 10 (p + 1) (-1) p1 w1 u1) : RA l p k f (updI (updI f (4 * (k : Int)) (hr l 60 p)) (4 * (k : Int) + 1) u1) p1 w1 := by
  have h0 : ¬ nd (hr l 60 p) = 0 := by omega
  have hf : ∀ j : Int, j < 4 * (k : Int) → updI (updI f (4 * (k : Int)) (hr l 60 p)) (4 * (k : Int) + 1) u1 j = f j := fun j hj => by rw [updI_ne (by omega), updI_ne (by omega)]
  rcases h1 with ⟨-, d, rfl, rfl, rfl⟩ | ⟨-, d, rfl, rfl, rfl⟩ | ⟨z, -⟩
  · have e : abd l p = -1 := by unfold abd; rw [if_neg h0, if_neg (fun z => z d), if_pos h]
    refine ⟨e.symm, fun _ => by omega, fun z => absurd e z, hf, fun _ => ⟨?_, updI_eq, fun z => by omega, fun z => by omega⟩⟩
    rw [updI_ne (by omega), updI_eq]
  · have e : abd l p = ((p + 1 : Nat) : Int) := by unfold abd; rw [if_neg h0, if_pos d]
    exact ⟨e.symm, fun z => by omega, fun _ => e.symm, hf, fun z => by omega⟩
  · exact absurd rfl z
theorem ra2 (h : nd (hr l 60 p) = 2) (h1 : OO l 60 48 10 (p + 1) (-1) p1 w1 u1) (h2 : OO l 60 49 9 p1 w1 p2 w2 u2) : RA l p k f (updI (updI (updI f (4 * (k : Int)) (hr l 60 p)) (4 * (k : Int) + 1) u1) (4 * (k : Int) + 2) (u2 + 1)) p2 w2 := by
  have h0 : ¬ nd (hr l 60 p) = 0 := by omega
  have hf : ∀ j : Int, j < 4 * (k : Int) → updI (updI (updI f (4 * (k : Int)) (hr l 60 p)) (4 * (k : Int) + 1) u1) (4 * (k : Int) + 2) (u2 + 1) j = f j := fun j hj => by rw [updI_ne (by omega), updI_ne (by omega), updI_ne (by omega)]
  rcases h1 with ⟨-, d, rfl, rfl, rfl⟩ | ⟨-, d, rfl, rfl, rfl⟩ | ⟨z, -⟩
  · rcases h2 with ⟨-, d2, rfl, rfl, rfl⟩ | ⟨-, d2, rfl, rfl, rfl⟩ | ⟨z, -⟩
    · have e : abd l p = -1 := by unfold abd; rw [if_neg h0, if_neg (fun z => z d), if_neg (by omega), if_pos h, if_pos d2]
      refine ⟨e.symm, fun _ => by omega, fun z => absurd e z, hf, fun _ => ⟨?_, ?_, fun _ => ?_, fun z => by omega⟩⟩
      · rw [updI_ne (by omega), updI_ne (by omega), updI_eq]
      · rw [updI_ne (by omega), updI_eq]
      · rw [updI_eq]; omega
    · have e : abd l p = ((p + 1 + 1 : Nat) : Int) := by unfold abd; rw [if_neg h0, if_neg (fun z => z d), if_neg (by omega), if_pos h, if_neg d2]
      exact ⟨e.symm, fun z => by omega, fun _ => e.symm, hf, fun z => by omega⟩
    · exact absurd rfl z
  · have e : abd l p = ((p + 1 : Nat) : Int) := by unfold abd; rw [if_neg h0, if_pos d]
    rcases h2 with ⟨z, -⟩ | ⟨z, -⟩ | ⟨-, rfl, rfl, rfl⟩
    · omega
    · omega
    · exact ⟨e.symm, fun z => by omega, fun _ => e.symm, hf, fun z => by omega⟩
  · exact absurd rfl z
theorem ra3 (h : nd (hr l 60 p) = 3) (h1 : OO l 60 48 10 (p + 1) (-1) p1 w1 u1) (h2 : OO l 60 48 10 p1 w1 p2 w2 u2) (h3 : OO l 60 49 9 p2 w2 p3 w3 u3) : RA l p k f (updI (updI (updI (updI f (4 * (k : Int)) (hr l 60 p)) (4 * (k : Int) + 1) u1) (4 * (k : Int) + 2) u2) (4 * (k : Int) + 3) (u3 + 1)) p3 w3 := by
  have h0 : ¬ nd (hr l 60 p) = 0 := by omega
  have hf : ∀ j : Int, j < 4 * (k : Int) → updI (updI (updI (updI f (4 * (k : Int)) (hr l 60 p)) (4 * (k : Int) + 1) u1) (4 * (k : Int) + 2) u2) (4 * (k : Int) + 3) (u3 + 1) j = f j := fun j hj => by rw [updI_ne (by omega), updI_ne (by omega), updI_ne (by omega), updI_ne (by omega)]
  rcases h1 with ⟨-, d, rfl, rfl, rfl⟩ | ⟨-, d, rfl, rfl, rfl⟩ | ⟨z, -⟩
  · rcases h2 with ⟨-, d2, rfl, rfl, rfl⟩ | ⟨-, d2, rfl, rfl, rfl⟩ | ⟨z, -⟩
    · rcases h3 with ⟨-, d3, rfl, rfl, rfl⟩ | ⟨-, d3, rfl, rfl, rfl⟩ | ⟨z, -⟩
      · have e : abd l p = -1 := by unfold abd; rw [if_neg h0, if_neg (fun z => z d), if_neg (by omega), if_neg (by omega), if_neg (fun z => z d2), if_pos d3]
        refine ⟨e.symm, fun _ => by omega, fun z => absurd e z, hf, fun _ => ⟨?_, ?_, fun _ => ?_, fun _ => ?_⟩⟩
        · rw [updI_ne (by omega), updI_ne (by omega), updI_ne (by omega), updI_eq]
        · rw [updI_ne (by omega), updI_ne (by omega), updI_eq]
        · rw [updI_ne (by omega), updI_eq]
        · rw [updI_eq]; omega
      · have e : abd l p = ((p + 1 + 1 + 1 : Nat) : Int) := by unfold abd; rw [if_neg h0, if_neg (fun z => z d), if_neg (by omega), if_neg (by omega), if_neg (fun z => z d2), if_neg d3]
        exact ⟨e.symm, fun z => by omega, fun _ => e.symm, hf, fun z => by omega⟩
      · exact absurd rfl z
    · have e : abd l p = ((p + 1 + 1 : Nat) : Int) := by unfold abd; rw [if_neg h0, if_neg (fun z => z d), if_neg (by omega), if_neg (by omega), if_pos d2]
      rcases h3 with ⟨z, -⟩ | ⟨z, -⟩ | ⟨-, rfl, rfl, rfl⟩
      · omega
      · omega
      · exact ⟨e.symm, fun z => by omega, fun _ => e.symm, hf, fun z => by omega⟩
    · exact absurd rfl z
  · have e : abd l p = ((p + 1 : Nat) : Int) := by unfold abd; rw [if_neg h0, if_pos d]
    rcases h2 with ⟨z, -⟩ | ⟨z, -⟩ | ⟨-, rfl, rfl, rfl⟩
    · omega
    · omega
    · rcases h3 with ⟨z, -⟩ | ⟨z, -⟩ | ⟨-, rfl, rfl, rfl⟩
      · omega
      · omega
      · exact ⟨e.symm, fun z => by omega, fun _ => e.symm, hf, fun z => by omega⟩
  · exact absurd rfl z
end MQb

