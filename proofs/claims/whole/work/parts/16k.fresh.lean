/-! the reference, fresh -/
section MRb
variable {hp : Hp} {q : Nat}
theorem flat_T0 : (fun _ => 0 : Int → Int) = flat T0 := by
  funext x
  unfold flat T0
  (repeat' split) <;> rfl
theorem MAt_new (K : ModAt hp q (fun _ => 0) (fun _ _ => 0) .null (.ref (q + 5))) : MAt hp q 0 0 T0 [] [] [] [] [] [] (fun _ => none) :=
  ⟨_, _, _, K, rfl, rfl, flat_T0, Mtx.em rfl, Mrw.z rfl, ⟨rfl, ⟨fun _ h => (by cases h), fun _ h => (by cases h)⟩, rfl⟩, MU.em rfl, ⟨rfl, by decide, fun _ h => (by cases h)⟩, ⟨rfl, by decide, fun _ h => (by cases h)⟩, ⟨by decide, by decide, rfl, rfl⟩⟩
end MRb

