section
variable {sc : Nat × (Nat → Int32)} {g : SG} {s : SV} {Q : Option Value → ri_W → Prop}
theorem isFor_tk (hI : inv s) {c x h : Nat} (hc : c < nC s) (hx : x < 8) (hh : h = 1 ∨ h = 2) : isForS s c (nI x) (nI h) = tk s c (x * 2 + h - 1) := by
  obtain ⟨⟨a1, a2⟩, a3⟩ := grp hI hc
  have q1 : (nI (fG s c) = nI x) = (fG s c = x) := propext (nI_eq (by omega) (by omega))
  have e0 : ¬ nI h = 0 := nI_ne0 (by omega) (by omega)
  unfold isForS tk
  rw [a1]
  have e1 : (x * 2 + h - 1) / 2 = x := by omega
  have e2 : (x * 2 + h - 1) % 2 + 1 = h := by omega
  rw [e1, e2]
  rcases a3 with ⟨a3, a4⟩ | ⟨a3, a4, a5, a6⟩
  · have : ¬ (-5 : Int32) = nI x := fun e => nI_n5 (show x < 2 ^ 31 by omega) e.symm
    rw [a3]
    simp [this, q1, e0]
  · have q2 : (nI (fJ s c) = nI x) = (fJ s c = x) := propext (nI_eq (by omega) (by omega))
    rw [a6]
    have a7 : decide (fact s c 1 = -5) = false := decide_eq_false a5
    rw [a7, a3]
    simp [q1, q2, Bool.or_comm]
theorem nI_sub {a b : Nat} (h : b ≤ a) : nI a - nI b = nI (a - b) := by
  obtain ⟨d, rfl⟩ := Nat.exists_eq_add_of_le h
  rw [← nI_add, Nat.add_sub_cancel_left, Int32.add_comm, Int32.add_sub_cancel]
end
