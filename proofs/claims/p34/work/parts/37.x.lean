theorem upF_tw {α : Type} {F : Nat → α} {k : Nat} {f h : α} : upF (upF F k f) k h = upF F k h := by
  funext q
  unfold upF
  by_cases e : q = k
  · rw [if_pos e, if_pos e]
  · rw [if_neg e, if_neg e, if_neg e]
section
variable {sc : Nat × (Nat → Int32)} {Q : Option Value → ri_W → Prop}
/-- what is kept after one more state is recorded -/
def recN (n : Nat) : Nat := if n = 4 then 3 else n
end
