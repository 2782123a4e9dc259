theorem inv_C {s : SV} (h : inv s) {c m : Nat} (hx : hC s c m = true) : c < nC s ∧ m < slS s := by
  obtain ⟨r, h1, h2⟩ := (h.2.2.2.2.1.2.2.1 c m).mp hx
  have := h.2.2.2.2.1.1 c r m h1 h2
  exact ⟨this.1, this.2.2⟩
section
variable {sc : Nat × (Nat → Int32)} {g : SG} {s : SV} {Q : Option Value → ri_W → Prop}
theorem nAt {k n : Nat} (h : k < n) (hn : n < 2 ^ 31) : ri_in (nI k) n = true := in_nI h hn
theorem m3 : (3 : Int32).toNatClampNeg = 3 := rfl
theorem m5 : (5 : Int32).toNatClampNeg = 5 := rfl
theorem r1 : ri_in 1 1892 = true := by decide
theorem r2 : ri_in 2 1892 = true := by decide
theorem r3 : ri_in 3 1892 = true := by decide
theorem bI_1 {b : Bool} : (bI b = 1) = (b = true) := by cases b <;> simp [bI]
end
