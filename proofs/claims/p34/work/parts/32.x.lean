/-- the first for which it holds, as a number -/
def fdI (p : Nat → Bool) (i d : Nat) : Int32 := match (List.range' i d).find? p with
  | some r => nI r
  | none => -5
theorem fdI_succ {p : Nat → Bool} {i d : Nat} : fdI p i (d + 1) = if p i = true then nI i else fdI p (i + 1) d := by
  unfold fdI
  rw [List.range'_succ, List.find?_cons]
  cases p i <;> rfl
section
variable {sc : Nat × (Nat → Int32)} {g : SG} {s : SV} {Q : Option Value → ri_W → Prop}
theorem sl48 (hI : inv s) : slS s ≤ 48 ∧ 4 ≤ slS s := nDP hI.2.1
theorem sl_eq (hI : inv s) : s.1 0 * s.1 1 = nI (slS s) := nP_slots hI.2.1
theorem nC_eq (hI : inv s) : s.1 5 = nI (nC s) := hI.2.1.2.2.2.2.2.1
theorem nC20 (hI : inv s) : nC s ≤ 20 := hI.2.1.2.2.2.2.2.2
theorem nP_eq (hI : inv s) : s.1 1 = nI (nP s) := hI.2.1.2.1.1
theorem nP6 (hI : inv s) : nP s ≤ 6 := hI.2.1.2.1.2.2
theorem nD_eq (hI : inv s) : s.1 0 = nI (nD s) := hI.2.1.1.1
theorem nD8 (hI : inv s) : nD s ≤ 8 := hI.2.1.1.2.2
end
