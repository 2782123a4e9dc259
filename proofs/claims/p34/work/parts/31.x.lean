theorem inv_C {s : SV} (h : inv s) {c m : Nat} (hx : hC s c m = true) : c < nC s ∧ m < slS s := by
  obtain ⟨r, h1, h2⟩ := (h.2.2.2.2.1.2.2.1 c m).mp hx
  have := h.2.2.2.2.1.1 c r m h1 h2
  exact ⟨this.1, this.2.2⟩
section
variable {sc : Nat × (Nat → Int32)} {g : SG} {s : SV} {Q : Option Value → ri_W → Prop}
theorem nAt {k n : Nat} (h : k < n) (hn : n < 2 ^ 31) : ri_in (nI k) n = true := in_nI h hn
theorem bI_1 {b : Bool} : (bI b = 1) = (b = true) := by cases b <;> simp [bI]
end
