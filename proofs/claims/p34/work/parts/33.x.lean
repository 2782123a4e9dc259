section
variable {s : SV}
theorem fT_iff (hI : inv s) {c t : Nat} (hc : c < nC s) (ht : t < 8) : decide (fact s c 3 = nI t) = decide (fT s c = t) := by
  have h1 := (hI.2.2.1 c hc).2.2.2
  have h2 := hI.2.1.2.2.2.1.2
  rw [h1.1]
  rw [decide_eq_decide]
  exact nI_eq (by omega) (by omega)
theorem any_T (hI : inv s) {t m : Nat} (ht : t < 8) : anyB (fun c => decide (fact s c 3 = nI t) && hC s c m) (nC s) = hT s t m := by
  rw [Bool.eq_iff_iff, anyB_iff, hI.2.2.2.2.1.2.2.2.1 t m]
  constructor
  · rintro ⟨c, h1, h2⟩
    rw [fT_iff hI h1 ht] at h2
    simp only [Bool.and_eq_true, decide_eq_true_eq] at h2
    exact ⟨c, h2.2, h2.1⟩
  · rintro ⟨c, h1, h2⟩
    have h3 := (inv_C hI h1).1
    refine ⟨c, h3, ?_⟩
    rw [fT_iff hI h3 ht, h1, h2]
    simp
/-- the facts of a course about its groups, in numbers -/
theorem grp (hI : inv s) {c : Nat} (hc : c < nC s) : (fact s c 0 = nI (fG s c) ∧ fG s c < 8) ∧ (fact s c 1 = -5 ∧ (fact s c 2 = 0 ∨ fact s c 2 = 1 ∨ fact s c 2 = 2) ∨ (fact s c 1 = nI (fJ s c) ∧ fJ s c < 8 ∧ ¬ fact s c 1 = -5 ∧ fact s c 2 = 0)) := by
  have h1 := hI.2.2.1 c hc
  have h2 := hI.2.1.2.2.1.2
  refine ⟨⟨h1.1.1, by omega⟩, ?_⟩
  rcases h1.2.1 with h3 | ⟨h3, h4, h5⟩
  · refine .inl ⟨h3, ?_⟩
    obtain ⟨h6, h7⟩ := h1.2.2.1
    have : fP s c = 0 ∨ fP s c = 1 ∨ fP s c = 2 := by omega
    rcases this with h8 | h8 | h8
    · exact .inl (by rw [h6, h8]; rfl)
    · exact .inr (.inl (by rw [h6, h8]; rfl))
    · exact .inr (.inr (by rw [h6, h8]; rfl))
  · exact .inr ⟨h3, by omega, by rw [h3]; exact nI_n5 (by omega), h5⟩
end
