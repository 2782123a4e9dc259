section
variable {s : SV} {c m r : Nat}
theorem inv_in (h : inv s) (hc : c < nC s) (hr : r < nR s) (hm : m < slS s) (hx : fstS s c m r = 0) : inv (setL s c m r true) := by
  obtain ⟨h0, hn, hf, hl, ⟨b1, b2, b3, b4, b5, b6, b7, b8, b9⟩, bp, bd, bb, bo⟩ := h
  obtain ⟨p1, p2, p3, p4, p5, p6⟩ := fst0 hl hf hc hx
  have hnR : nR s ≤ 6 := hn.2.2.2.2.1.2
  have hr6 : r < 6 := by omega
  have hm6 : m < 64 := by
    have := (nDP hn).1
    unfold slS at hm
    omega
  have q4 : ∀ c', hC s c' m = true → fT s c' ≠ fT s c := fun c' h1 h2 => by
    have := (b4 (fT s c) m).mpr ⟨c', h1, h2⟩
    rw [p4] at this
    exact absurd this (by decide)
  have q3 : hC s c m = false := by
    cases e : hC s c m
    · rfl
    · exact absurd rfl (q4 c e)
  have q2 : ∀ r', r' < 6 → hX s c r' m = false := fun r' h1 => by
    cases e : hX s c r' m
    · rfl
    · have := (b3 c m).mpr ⟨r', h1, e⟩
      rw [q3] at this
      exact absurd this (by decide)
  have q6 : ∀ c', hX s c' r m = false := fun c' => by
    cases e : hX s c' r m
    · rfl
    · have := (b6 r m hr6).mpr ⟨c', e⟩
      rw [p6] at this
      exact absurd this (by decide)
  have q8 : ∀ c' k, hC s c' m = true → tk s c' k = true → tk s c k = false := fun c' k h1 h2 => by
    cases e : tk s c k
    · rfl
    · have := (b8 k m).mpr ⟨c', h1, h2⟩
      rw [p5 k e] at this
      exact absurd this (by decide)
  refine ⟨setL_nf h0 hn hf hc hr6, setL_okN hn, setL_okF hf, setL_okL hl, ⟨?_, ?_, ?_, ?_, ?_, ?_, ?_, ?_, ?_⟩, ?_, ?_, ?_, ?_⟩
  · intro c' r' m' hr' hx'
    rw [setL_X hm6 hr6 hr'] at hx'
    rw [setL_nC, setL_nR, setL_sl]
    split at hx'
    · rename_i e
      rw [e.1, e.2.1, e.2.2]
      exact ⟨hc, hr, hm⟩
    · exact b1 c' r' m' hr' hx'
  · intro c' r1 r2 m' hr1 hr2 h1 h2
    rw [setL_X hm6 hr6 hr1] at h1
    rw [setL_X hm6 hr6 hr2] at h2
    split at h1
    · rename_i e1
      obtain ⟨rfl, rfl, rfl⟩ := e1
      split at h2
      · rename_i e2
        exact e2.2.1.symm
      · rw [q2 r2 hr2] at h2
        exact absurd h2 (by decide)
    · split at h2
      · rename_i e2
        obtain ⟨rfl, rfl, rfl⟩ := e2
        rw [q2 r1 hr1] at h1
        exact absurd h1 (by decide)
      · exact b2 c' r1 r2 m' hr1 hr2 h1 h2
  · intro c' m'
    rw [setL_C hm6]
    constructor
    · intro h1
      split at h1
      · rename_i e
        obtain ⟨rfl, rfl⟩ := e
        exact ⟨r, hr6, by rw [setL_X hm6 hr6 hr6, if_pos ⟨rfl, rfl, rfl⟩]⟩
      · rename_i e
        obtain ⟨r', hr', hx'⟩ := (b3 c' m').mp h1
        refine ⟨r', hr', ?_⟩
        rw [setL_X hm6 hr6 hr', if_neg (fun e2 => e ⟨e2.1, e2.2.2⟩)]
        exact hx'
    · rintro ⟨r', hr', hx'⟩
      rw [setL_X hm6 hr6 hr'] at hx'
      split
      · rfl
      · rename_i e
        rw [if_neg (fun e2 => e ⟨e2.1, e2.2.2⟩)] at hx'
        exact (b3 c' m').mpr ⟨r', hr', hx'⟩
  · intro t' m'
    rw [setL_T hm6]
    simp only [setL_fT]
    constructor
    · intro h1
      split at h1
      · rename_i e
        obtain ⟨rfl, rfl⟩ := e
        exact ⟨c, by rw [setL_C hm6, if_pos ⟨rfl, rfl⟩], rfl⟩
      · obtain ⟨c', hc', rfl⟩ := (b4 t' m').mp h1
        refine ⟨c', ?_, rfl⟩
        rw [setL_C hm6]
        split
        · rfl
        · exact hc'
    · rintro ⟨c', hc', rfl⟩
      rw [setL_C hm6] at hc'
      split
      · rfl
      · rename_i e
        rw [if_neg (by rintro ⟨rfl, rfl⟩; exact e ⟨rfl, rfl⟩)] at hc'
        exact (b4 _ m').mpr ⟨c', hc', rfl⟩
  · intro c1 c2 m' h1 h2 h3
    rw [setL_C hm6] at h1 h2
    rw [setL_fT, setL_fT] at h3
    split at h1
    · rename_i e1
      obtain ⟨rfl, rfl⟩ := e1
      split at h2
      · rename_i e2
        exact e2.1.symm
      · exact absurd h3.symm (q4 c2 h2)
    · split at h2
      · rename_i e2
        obtain ⟨rfl, rfl⟩ := e2
        exact absurd h3 (q4 c1 h1)
      · exact b5 c1 c2 m' h1 h2 h3
  · intro r' m' hr'
    rw [setL_R hm6]
    constructor
    · intro h1
      split at h1
      · rename_i e
        obtain ⟨rfl, rfl⟩ := e
        exact ⟨c, by rw [setL_X hm6 hr6 hr6, if_pos ⟨rfl, rfl, rfl⟩]⟩
      · obtain ⟨c', hc'⟩ := (b6 r' m' hr').mp h1
        refine ⟨c', ?_⟩
        rw [setL_X hm6 hr6 hr']
        split
        · rfl
        · exact hc'
    · rintro ⟨c', hc'⟩
      rw [setL_X hm6 hr6 hr'] at hc'
      split
      · rfl
      · rename_i e
        rw [if_neg (fun e2 => e e2.2)] at hc'
        exact (b6 r' m' hr').mpr ⟨c', hc'⟩
  · intro c1 c2 r' m' hr' h1 h2
    rw [setL_X hm6 hr6 hr'] at h1 h2
    split at h1
    · rename_i e1
      obtain ⟨rfl, rfl, rfl⟩ := e1
      split at h2
      · rename_i e2
        exact e2.1.symm
      · rw [q6 c2] at h2
        exact absurd h2 (by decide)
    · split at h2
      · rename_i e2
        obtain ⟨rfl, rfl, rfl⟩ := e2
        rw [q6 c1] at h1
        exact absurd h1 (by decide)
      · exact b7 c1 c2 r' m' hr' h1 h2
  · intro k' m'
    rw [setL_H hm6]
    simp only [setL_tk]
    constructor
    · intro h1
      split at h1
      · rename_i e
        obtain ⟨e1, rfl⟩ := e
        exact ⟨c, by rw [setL_C hm6, if_pos ⟨rfl, rfl⟩], e1⟩
      · obtain ⟨c', hc', h2⟩ := (b8 k' m').mp h1
        refine ⟨c', ?_, h2⟩
        rw [setL_C hm6]
        split
        · rfl
        · exact hc'
    · rintro ⟨c', hc', h2⟩
      rw [setL_C hm6] at hc'
      split
      · rfl
      · rename_i e
        rw [if_neg (by rintro ⟨rfl, rfl⟩; exact e ⟨h2, rfl⟩)] at hc'
        exact (b8 _ m').mpr ⟨c', hc', h2⟩
  · intro c1 c2 k' m' h1 h2 h3 h4
    rw [setL_C hm6] at h1 h2
    rw [setL_tk] at h3 h4
    split at h1
    · rename_i e1
      obtain ⟨rfl, rfl⟩ := e1
      split at h2
      · rename_i e2
        exact e2.1.symm
      · rw [q8 c2 k' h2 h4] at h3
        exact absurd h3 (by decide)
    · split at h2
      · rename_i e2
        obtain ⟨rfl, rfl⟩ := e2
        rw [q8 c1 k' h1 h3] at h4
        exact absurd h4 (by decide)
      · exact b9 c1 c2 k' m' h1 h2 h3 h4
  · intro c' hc'
    rw [setL_nC] at hc'
    rw [setL_fL]
    have e1 : plc (setL s c m r true) c' = ct (fun k => hC (setL s c m r true) c' k) 64 := rfl
    have e2 : plc s c' = ct (fun k => hC s c' k) 64 := rfl
    have hk : ∀ k, k ≠ m ∨ c' ≠ c → hC (setL s c m r true) c' k = hC s c' k := fun k hk => by
      rw [setL_C hm6, if_neg (by rintro ⟨rfl, rfl⟩; simp at hk)]
    by_cases e : c' = c
    · subst e
      have := ct_one (p := fun k => hC (setL s c' m r true) c' k) (q := fun k => hC s c' k) (a := m) (n := 64) (fun k _ hk' => hk k (.inl hk'))
      omega
    · have h3 := bp c' hc'
      rw [e1, ct_cong (q := fun k => hC s c' k) (fun k _ => hk k (.inr e)), ← e2]
      exact h3
  · intro c' d
    rw [setL_nP]
    have hk : ∀ k, k ≠ m ∨ c' ≠ c → hC (setL s c m r true) c' k = hC s c' k := fun k hk => by
      rw [setL_C hm6, if_neg (by rintro ⟨rfl, rfl⟩; simp at hk)]
    by_cases e : c' = c ∧ d = m / nP s
    · obtain ⟨rfl, rfl⟩ := e
      have := ct_one (p := fun k => hC (setL s c' m r true) c' (m / nP s * nP s + k)) (q := fun k => hC s c' (m / nP s * nP s + k)) (a := m - m / nP s * nP s) (n := nP s) (fun k _ hk' => hk _ (.inl (by
        have := Nat.div_mul_le_self m (nP s)
        omega)))
      omega
    · refine Nat.le_trans (Nat.le_of_eq ?_) (bd c' d)
      refine ct_cong (fun k hk' => hk _ ?_)
      by_cases e2 : c' = c
      · refine .inl (fun e3 => e ⟨e2, ?_⟩)
        rw [← e3]
        have : 0 < nP s := by omega
        rw [Nat.mul_comm d, Nat.mul_add_div this, Nat.div_eq_of_lt hk', Nat.add_zero]
      · exact .inr e2
  · intro t m' hm'
    rw [setL_B hm6] at hm'
    rw [setL_sl]
    exact bb t m' hm'
  · intro d hd
    rw [setL_D hm6] at hd
    exact bo d hd
end
