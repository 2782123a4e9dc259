section
variable {sc : Nat × (Nat → Int32)} {g : SG} {s : SV} {Q : Option Value → ri_W → Prop}
theorem nR_eq (hI : inv s) : s.1 4 = nI (nR s) := hI.2.1.2.2.2.2.1.1
theorem nR6 (hI : inv s) : nR s ≤ 6 := hI.2.1.2.2.2.2.1.2
theorem nT8 (hI : inv s) : nT s ≤ 8 := hI.2.1.2.2.2.1.2
theorem nG8 (hI : inv s) : nG s ≤ 8 := hI.2.1.2.2.1.2
end
