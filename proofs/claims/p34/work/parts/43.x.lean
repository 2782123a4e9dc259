section
variable {sc : Nat × (Nat → Int32)} {g : SG} {Q : Option Value → ri_W → Prop}
theorem ii_399 {x : Int32} : (∃ d, d < 400 ∧ x = nI d ∧ ii x 0 399 = 1) ∨ ii x 0 399 = 0 := by
  rcases ii_cases (v := x) (n := 400) (by decide) with ⟨k, h1, h2, h3⟩ | ⟨-, h3⟩
  · exact .inl ⟨k, h1, h2, h3⟩
  · exact .inr h3
end
