theorem big {x : Int32} {N : Nat} (hN : N < 2 ^ 31) (h : ∀ k, k < N → x ≠ nI k) : x.toInt < 0 ∨ (N : Int) ≤ x.toInt := by
  by_cases h1 : x.toInt < 0
  · exact .inl h1
  · by_cases h2 : (N : Int) ≤ x.toInt
    · exact .inr h2
    · exfalso
      have h3 : x.toInt.toNat < N := by omega
      exact h x.toInt.toNat h3 (Int32.toInt_inj.mp (by
        rw [nI_toInt (by omega)]
        omega))
theorem sm_tail {f : Nat → Nat} {n : Nat} : ∀ {m : Nat}, (∀ k, n ≤ k → k < n + m → f k = 0) → sm f (n + m) = sm f n
  | 0, _ => rfl
  | m + 1, h => by
    show sm f (n + m) + f (n + m) = _
    rw [sm_tail (fun k h1 h2 => h k h1 (by omega)), h (n + m) (by omega) (by omega), Nat.add_zero]
theorem ct_blocks {p : Nat → Bool} {w : Nat} : ∀ n, ct p (w * n) = sm (fun q => ct (fun k => p (w * q + k)) w) n
  | 0 => rfl
  | n + 1 => by
    rw [Nat.mul_succ, ct_split, ct_blocks n]
    rfl
theorem smI_mis {f : Nat → Int32} {h : Nat → Nat} : ∀ {n : Nat}, smI (fun c => f c - nI (h c)) n = smI f n - nI (sm h n)
  | 0 => by
    show (0 : Int32) = 0 - nI 0
    decide
  | n + 1 => by
    have h1 := smI_mis (f := f) (h := h) (n := n)
    show smI (fun c => f c - nI (h c)) n + (f n - nI (h n)) = (smI f n + f n) - nI (sm h n + h n)
    rw [h1, ← nI_add]
    grind
section
variable {s : SV}
theorem row_sl (hI : inv s) {i k : Nat} (h : ∀ m, bt6 (s.2.2 i k) m = true → m < slS s) : pcn (s.2.2 i k) = ct (bt6 (s.2.2 i k)) (slS s) := by
  have h48 := (sl48 hI).1
  have e : (64 : Nat) = slS s + (64 - slS s) := by omega
  show ct (bt6 (s.2.2 i k)) 64 = _
  rw [e, ct_split, ct_zero (p := fun q => bt6 (s.2.2 i k) (slS s + q)), Nat.add_zero]
  intro q _
  cases e2 : bt6 (s.2.2 i k) (slS s + q)
  · rfl
  · have := h _ e2
    omega
theorem plcAll_eq (hI : inv s) : plcAll s = sm (plc s) (nC s) := by
  have h20 := nC20 hI
  have e : (20 : Nat) = nC s + (20 - nC s) := by omega
  unfold plcAll
  rw [e, sm_tail]
  intro k h1 _
  refine ct_zero (fun m _ => ?_)
  cases e2 : bt6 (s.2.2 3 k) m
  · rfl
  · have := (inv_C hI (c := k) (m := m) e2).1
    omega
theorem holAll_eq (hI : inv s) : holAll s = ct (hol s) 400 := by
  have h1 : holAll s = ct (hol s) (64 * 7) := by
    rw [ct_blocks]
    refine sm_cong (fun q _ => ct_cong (fun k hk => ?_))
    unfold hol
    rw [show (64 * q + k) / 64 = q by omega, show (64 * q + k) % 64 = k by omega]
  rw [h1, show 64 * 7 = 400 + 48 by decide, ct_split, ct_zero (p := fun k => hol s (400 + k)), Nat.add_zero]
  intro k _
  cases e : hol s (400 + k)
  · rfl
  · have := hI.2.2.2.2.2.2.2.2 _ e
    omega
end
section
variable {sc : Nat × (Nat → Int32)} {g : SG} {Q : Option Value → ri_W → Prop}
theorem s_ntf {j : Nat} (hj : j < 7) {t k : Nat} (ht : t < 8) (hk : k < 2) : ev sc 1 [.ref (bs j + 1), .int (nI t), .int (nI k)] (Wd g) Q = Q (some (.int (tf (g.1 j) t k))) (Wd g) := by
  have := s_nget (sc := sc) (w := Wd g) (Q := Q) (wd := 2) (i := t) (k := k) (no0 hj) (ni0 hj) hk (by decide) (by decide) (by omega)
  rw [if_pos (by omega)] at this
  exact this
theorem s_ntf0 {j : Nat} (hj : j < 7) {t : Nat} (ht : t < 8) : ev sc 1 [.ref (bs j + 1), .int (nI t), .int 0] (Wd g) Q = Q (some (.int (tf (g.1 j) t 0))) (Wd g) := s_ntf (k := 0) hj ht (by decide)
theorem s_ntf1 {j : Nat} (hj : j < 7) {t : Nat} (ht : t < 8) : ev sc 1 [.ref (bs j + 1), .int (nI t), .int 1] (Wd g) Q = Q (some (.int (tf (g.1 j) t 1))) (Wd g) := s_ntf (k := 1) hj ht (by decide)
theorem s_sizeT {j : Nat} (hj : j < 7) {t : Nat} (ht : t < 8) : ev sc 6 [.ref (bs j + 15), .int (nI t)] (Wd g) Q = Q (some (.int (nI (pcn ((g.1 j).2.2 4 t))))) (Wd g) := s_size (jo4 hj) (jj4 hj) ht (by decide)
theorem s_sizeB {j : Nat} (hj : j < 7) {t : Nat} (ht : t < 8) : ev sc 6 [.ref (bs j + 9), .int (nI t)] (Wd g) Q = Q (some (.int (nI (pcn ((g.1 j).2.2 1 t))))) (Wd g) := s_size (jo1 hj) (jj1 hj) ht (by decide)
theorem s_sizeR {j : Nat} (hj : j < 7) {t : Nat} (ht : t < 6) : ev sc 6 [.ref (bs j + 17), .int (nI t)] (Wd g) Q = Q (some (.int (nI (pcn ((g.1 j).2.2 5 t))))) (Wd g) := s_size (jo5 hj) (jj5 hj) ht (by decide)
theorem s_winT {j : Nat} (hj : j < 7) (hn : okN (g.1 j)) {t : Nat} (ht : t < 8) : ev sc 42 [.ref (bs j), .ref (bs j + 15), .int (nI t)] (Wd g) Q = Q (some (.int (nI (sm (fun e => (gp (fun k => hT (g.1 j) t (e * nP (g.1 j) + k)) (nP (g.1 j))).1) (nD (g.1 j)))))) (Wd g) := s_windows hj hn (jo4 hj) (jj4 hj) ht (by decide)
end
