section
variable {g : SG}
theorem ns_map {f : Nat → ri_E} {M : Nat} (h : ∀ q, ri_sz (f q) ≤ M) : ∀ l : List Nat, ri_ns (l.map f) ≤ l.length * M
  | [] => Nat.zero_le _
  | q :: l => by
    have h1 := ns_map h l
    have h2 := h q
    unfold ri_ns at h1 ⊢
    simp only [List.map_cons, List.sum_cons, List.length_cons]
    rw [Nat.succ_mul]
    omega
theorem sz_st {s : SV} {B c : Nat} : ri_sz (st_cell s B c) ≤ 20000 := by
  unfold st_cell
  split <;> exact Nat.le_of_ble_eq_true rfl
theorem sz_ot {c : Nat} : ri_sz (ot_cell g c) ≤ 20000 := by
  unfold ot_cell
  split <;> exact Nat.le_of_ble_eq_true rfl
theorem sz_ce {k : Nat} : ri_sz (ce g k) ≤ 20000 := by
  unfold ce
  split
  · exact Nat.le_of_ble_eq_true rfl
  · split
    · exact sz_st
    · split
      · exact Nat.le_of_ble_eq_true rfl
      · split
        · exact sz_st
        · exact sz_ot
end
