section
variable {sc : Nat × (Nat → Int32)} {g : SG} {fs n : Nat} {Q : Option Value → ri_W → Prop}
theorem sN_at {s : SV} {i : Nat} {f : Nat → Int32} : (sN s i f).2.1 i = f := upF_at
end
