def rmS (s : SV) (c m : Nat) : Option Nat := (List.range' 0 6).find? (fun r => hX s c r m)
def rmI : Option Nat → Int32
  | some r => nI r
  | none => -5
section
variable {s : SV}
theorem rm_iff (hu : bXu s) {c m r : Nat} : rmS s c m = some r ↔ r < 6 ∧ hX s c r m = true := by
  unfold rmS
  constructor
  · intro h
    have h1 := List.find?_some h
    have h2 := List.mem_of_find?_eq_some h
    rw [List.mem_range'_1] at h2
    exact ⟨by omega, h1⟩
  · rintro ⟨h1, h2⟩
    cases e : (List.range' 0 6).find? (fun r => hX s c r m) with
    | none =>
      rw [List.find?_eq_none] at e
      exact absurd h2 (e r (List.mem_range'_1.mpr (by omega)))
    | some r2 =>
      have h3 := List.find?_some e
      have h4 := List.mem_of_find?_eq_some e
      rw [List.mem_range'_1] at h4
      rw [hu c r2 r m (by omega) h1 h3 h2]
/-- the room that the class finds is the room of the plain form -/
theorem roomS_rm (h : inv s) {c m : Nat} : roomS s c m = rmI (rmS s c m) := by
  obtain ⟨h0, hn, hf, hl, ⟨b1, b2, -⟩, -⟩ := h
  have hnR : nR s ≤ 6 := hn.2.2.2.2.1.2
  unfold roomS
  cases e : (List.range' 0 (nR s)).find? (fun r => hX s c r m) with
  | some r =>
    have h1 := List.find?_some e
    have h2 := List.mem_of_find?_eq_some e
    rw [List.mem_range'_1] at h2
    rw [(rm_iff b2).mpr ⟨by omega, h1⟩]
    rfl
  | none =>
    cases e2 : rmS s c m with
    | none => rfl
    | some r =>
      obtain ⟨h1, h2⟩ := (rm_iff b2).mp e2
      have h3 := (b1 c r m h1 h2).2.1
      rw [List.find?_eq_none] at e
      exact absurd h2 (e r (List.mem_range'_1.mpr (by omega)))
end
