theorem iiR {x A B : Int32} {a b : Nat} (hA : A.toInt = a) (hB : B.toInt = b) (hb : b < 2 ^ 31) : (∃ k, a ≤ k ∧ k ≤ b ∧ x = nI k ∧ ii x A B = 1) ∨ ii x A B = 0 := by
  unfold ii
  by_cases h1 : x < A
  · exact .inr (if_pos h1)
  · by_cases h2 : B < x
    · exact .inr (by rw [if_neg h1, if_pos h2])
    · left
      have h3 : x.toInt ≤ B.toInt := Int32.le_iff_toInt_le.mp (Int32.not_lt.mp h2)
      have h4 : A.toInt ≤ x.toInt := Int32.le_iff_toInt_le.mp (Int32.not_lt.mp h1)
      have h5 : x = nI x.toInt.toNat := Int32.toInt_inj.mp (by
        rw [nI_toInt (by omega)]
        omega)
      exact ⟨x.toInt.toNat, by omega, by omega, h5, by rw [if_neg h1, if_neg h2]⟩
section
variable {sc : Nat × (Nat → Int32)} {g : SG} {fs n j : Nat} {Q : Option Value → ri_W → Prop}
theorem w_clear (hj : j < 7) (h0 : nf (g.1 j)) : ev sc 11 [.ref (bs j + 9)] (Wd g) Q = Q none (Wd (stS g j (sJ (g.1 j) 1 (fun _ => 0)))) := by
  have := s_clear (sc := sc) (Q := Q) (jo1 (g := g) hj) (jj1 hj) (by omega) (by decide) (fun q hq => h0.2.2 1 q hq)
  rw [js1 hj] at this
  exact this
end
