theorem sm_tail {f : Nat → Nat} {n : Nat} : ∀ {m : Nat}, (∀ k, n ≤ k → k < n + m → f k = 0) → sm f (n + m) = sm f n
  | 0, _ => rfl
  | m + 1, h => by
    show sm f (n + m) + f (n + m) = _
    rw [sm_tail (fun k h1 h2 => h k h1 (by omega)), h (n + m) (by omega) (by omega), Nat.add_zero]
theorem ct_blocks {p : Nat → Bool} {w : Nat} : ∀ n, ct p (w * n) = sm (fun q => ct (fun k => p (w * q + k)) w) n
  | 0 => rfl
  | n + 1 => by
    rw [Nat.mul_succ, ct_split, ct_blocks n]
    rfl
section
variable {s : SV}
theorem row_sl (hI : inv s) {i k : Nat} (h : ∀ m, bt6 (s.2.2 i k) m = true → m < slS s) : pcn (s.2.2 i k) = ct (bt6 (s.2.2 i k)) (slS s) := by
  have h48 := (sl48 hI).1
  have e : (64 : Nat) = slS s + (64 - slS s) := by omega
  show ct (bt6 (s.2.2 i k)) 64 = _
  rw [e, ct_split, ct_zero (p := fun q => bt6 (s.2.2 i k) (slS s + q)), Nat.add_zero]
  intro q _
  cases e2 : bt6 (s.2.2 i k) (slS s + q)
  · rfl
  · have := h _ e2
    omega
theorem plcAll_eq (hI : inv s) : plcAll s = sm (plc s) (nC s) := by
  have h20 := nC20 hI
  have e : (20 : Nat) = nC s + (20 - nC s) := by omega
  unfold plcAll
  rw [e, sm_tail]
  intro k h1 _
  refine ct_zero (fun m _ => ?_)
  cases e2 : bt6 (s.2.2 3 k) m
  · rfl
  · have := (inv_C hI (c := k) (m := m) e2).1
    omega
theorem holAll_eq (hI : inv s) : holAll s = ct (hol s) 400 := by
  have h1 : holAll s = ct (hol s) (64 * 7) := by
    rw [ct_blocks]
    refine sm_cong (fun q _ => ct_cong (fun k hk => ?_))
    unfold hol
    rw [show (64 * q + k) / 64 = q by omega, show (64 * q + k) % 64 = k by omega]
  rw [h1, show 64 * 7 = 400 + 48 by decide, ct_split, ct_zero (p := fun k => hol s (400 + k)), Nat.add_zero]
  intro k _
  cases e : hol s (400 + k)
  · rfl
  · have := hI.2.2.2.2.2.2.2.2 _ e
    omega
end
section
variable {sc : Nat × (Nat → Int32)} {g : SG} {Q : Option Value → ri_W → Prop}
theorem s_sizeB {j : Nat} (hj : j < 7) {t : Nat} (ht : t < 8) : ev sc 6 [.ref (bs j + 9), .int (nI t)] (Wd g) Q = Q (some (.int (nI (pcn ((g.1 j).2.2 1 t))))) (Wd g) := s_size (jo1 hj) (jj1 hj) ht (by decide)
end
