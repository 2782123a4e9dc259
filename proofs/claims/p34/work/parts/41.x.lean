section
variable {sc : Nat × (Nat → Int32)} {g : SG} {Q : Option Value → ri_W → Prop}
theorem nT_eq (hI : inv (g.1 0)) : (g.1 0).1 3 = nI (nT (g.1 0)) := hI.2.1.2.2.2.1.1
theorem nG_eq (hI : inv (g.1 0)) : (g.1 0).1 2 = nI (nG (g.1 0)) := hI.2.1.2.2.1.1
end
