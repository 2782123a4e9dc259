section
variable {sc : Nat × (Nat → Int32)} {g : SG} {s : SV} {Q : Option Value → ri_W → Prop}
theorem m3 : (3 : Int32).toNatClampNeg = 3 := rfl
theorem m5 : (5 : Int32).toNatClampNeg = 5 := rfl
theorem r1 : ri_in 1 1892 = true := by decide
theorem r2 : ri_in 2 1892 = true := by decide
end
