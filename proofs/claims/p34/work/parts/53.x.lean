section
variable {sc : Nat × (Nat → Int32)} {g : SG} {fs n j : Nat} {Q : Option Value → ri_W → Prop}
/-- what the plain form has put aside -/
def k5 (g : SG) : Nat → Int32 := segW (g.2.2.2.2 1) 9460 1892 (mdl (g.1 0))
end
