section
variable {s : SV}
theorem errS_0 (hI : inv s) {v m r : Int32} (h : errS s v m r = 0) : ∃ c q o, v = nI c ∧ m = nI q ∧ r = nI o ∧ c < nC s ∧ q < slS s ∧ o < nR s ∧ fstS s c q o = 0 := by
  have hsl := sl_eq hI
  have h48 := (sl48 hI).1
  have h20 := nC20 hI
  have h6 := nR6 hI
  unfold errS at h
  rw [hsl, nR_eq hI, nC_eq hI] at h
  rcases ii_cases (v := v) (n := nC s) (by omega) with ⟨c, c1, rfl, c2⟩ | ⟨-, c2⟩
  · rcases ii_cases (v := m) (n := slS s) (by omega) with ⟨q, q1, rfl, q2⟩ | ⟨-, q2⟩
    · rcases ii_cases (v := r) (n := nR s) (by omega) with ⟨o, o1, rfl, o2⟩ | ⟨-, o2⟩
      · rw [c2, q2, o2, nI_clamp (show c < 2 ^ 31 by omega), nI_clamp (show q < 2 ^ 31 by omega), nI_clamp (show o < 2 ^ 31 by omega)] at h
        refine ⟨c, q, o, rfl, rfl, rfl, c1, q1, o1, ?_⟩
        by_cases e : fstS s c q o = 0
        · exact e
        · simp [e] at h
      · rw [c2, q2, o2] at h
        simp at h
    · rw [c2, q2] at h
      simp at h
  · rw [c2] at h
    simp at h
theorem klS_1 (hI : inv s) {v m : Int32} : klS s v m = 0 ∨ (klS s v m = 1 ∧ ∃ c q r, v = nI c ∧ m = nI q ∧ c < nC s ∧ q < slS s ∧ r < nR s ∧ hC s c q = true ∧ hX s c r q = true ∧ rmS s c q = some r) := by
  have hsl := sl_eq hI
  have h48 := (sl48 hI).1
  have h20 := nC20 hI
  unfold klS
  rw [hsl, nC_eq hI]
  rcases ii_cases (v := v) (n := nC s) (by omega) with ⟨c, c1, rfl, c2⟩ | ⟨-, c2⟩
  · rcases ii_cases (v := m) (n := slS s) (by omega) with ⟨q, q1, rfl, q2⟩ | ⟨-, q2⟩
    · rw [c2, q2, nI_clamp (show c < 2 ^ 31 by omega), nI_clamp (show q < 2 ^ 31 by omega)]
      cases e : hC s c q
      · left
        simp [bI]
      · right
        obtain ⟨r, h1, h2⟩ := (hI.2.2.2.2.1.2.2.1 c q).mp e
        exact ⟨by simp [bI], c, q, r, rfl, rfl, c1, q1, (hI.2.2.2.2.1.1 c r q h1 h2).2.1, e, h2, (rm_iff hI.2.2.2.2.1.2.1).mpr ⟨h1, h2⟩⟩
    · rw [c2, q2]
      left
      simp
  · rw [c2]
    left
    simp
end
section
variable {sc : Nat × (Nat → Int32)} {g : SG} {fs n j : Nat} {Q : Option Value → ri_W → Prop}
theorem s_set1 (hj : j < 7) (hI : inv (g.1 j)) {c m r : Nat} (hc : c < nC (g.1 j)) (hr : r < 6) : ev sc 31 [.ref (bs j), .int (nI c), .int (nI m), .int (nI r), .int 1] (Wd g) Q = Q none (Wd (stS g j (setL (g.1 j) c m r true))) := s_setLesson (b := true) hj hI.2.1 hI.2.2.1 hc hr
theorem s_set0 (hj : j < 7) (hI : inv (g.1 j)) {c m r : Nat} (hc : c < nC (g.1 j)) (hr : r < 6) : ev sc 31 [.ref (bs j), .int (nI c), .int (nI m), .int (nI r), .int 0] (Wd g) Q = Q none (Wd (stS g j (setL (g.1 j) c m r false))) := s_setLesson (b := false) hj hI.2.1 hI.2.2.1 hc hr
end
