theorem sJs_bit {s : SV} {i row m i' row' m' : Nat} {b : Bool} (hm : m < 64) : bt6 ((sJs s i row m b).2.2 i' row') m' = if i' = i ∧ row' = row ∧ m' = m then b else bt6 (s.2.2 i' row') m' := by
  by_cases h64 : m' < 64
  · by_cases h1 : i' = i
    · subst h1
      have e : (sJs s i' row m b).2.2 i' = upF (s.2.2 i') row (setb (s.2.2 i' row) m b) := upF_at
      rw [e]
      by_cases h2 : row' = row
      · subst h2
        rw [upF_at, bt6_setb hm h64]
        simp
      · rw [upF_ne h2]
        simp [h2]
    · have e : (sJs s i row m b).2.2 i' = s.2.2 i' := upF_ne h1
      rw [e]
      simp [h1]
  · rw [bt6_big (by omega), bt6_big (by omega), if_neg (by omega)]
theorem hlf_bit {s : SV} {x m i' row' m' : Nat} {pt : Int32} {b : Bool} (hm : m < 64) : bt6 ((hlf s x pt m b).2.2 i' row') m' = if i' = 6 ∧ ((row' = x * 2 ∧ (pt = 0 ∨ pt = 1)) ∨ (row' = x * 2 + 1 ∧ (pt = 0 ∨ pt = 2))) ∧ m' = m then b else bt6 (s.2.2 i' row') m' := by
  unfold hlf
  by_cases h2 : pt = 0 ∨ pt = 2 <;> by_cases h1 : pt = 0 ∨ pt = 1 <;> simp only [h1, h2, if_true, if_false, sJs_bit hm, and_true, and_false, or_false, false_or, false_and] <;> repeat' (first | rfl | omega | split)
/-- whether a course has a half of a group, by its row -/
def tk (s : SV) (c k : Nat) : Bool := (decide (fG s c = k / 2) && (decide (fact s c 2 = 0) || decide (fact s c 2 = nI (k % 2 + 1)))) || (!decide (fact s c 1 = -5) && decide (fJ s c = k / 2))
theorem tk_row {s : SV} {c k : Nat} : tk s c k = true ↔ (((k = fG s c * 2 ∧ (fact s c 2 = 0 ∨ fact s c 2 = 1)) ∨ (k = fG s c * 2 + 1 ∧ (fact s c 2 = 0 ∨ fact s c 2 = 2))) ∨ (¬ fact s c 1 = -5 ∧ (k = fJ s c * 2 ∨ k = fJ s c * 2 + 1))) := by
  unfold tk
  rcases Nat.mod_two_eq_zero_or_one k with h | h
  · have e : nI (k % 2 + 1) = 1 := by rw [h]; rfl
    rw [e]
    simp only [Bool.or_eq_true, Bool.and_eq_true, decide_eq_true_eq, Bool.not_eq_true', decide_eq_false_iff_not]
    have e1 : (fG s c = k / 2) ↔ k = fG s c * 2 := by omega
    have e2 : ¬ k = fG s c * 2 + 1 := by omega
    have e3 : (fJ s c = k / 2) ↔ k = fJ s c * 2 := by omega
    have e4 : ¬ k = fJ s c * 2 + 1 := by omega
    simp only [e1, e2, e3, e4, false_and, or_false]
  · have e : nI (k % 2 + 1) = 2 := by rw [h]; rfl
    rw [e]
    simp only [Bool.or_eq_true, Bool.and_eq_true, decide_eq_true_eq, Bool.not_eq_true', decide_eq_false_iff_not]
    have e1 : (fG s c = k / 2) ↔ k = fG s c * 2 + 1 := by omega
    have e2 : ¬ k = fG s c * 2 := by omega
    have e3 : (fJ s c = k / 2) ↔ k = fJ s c * 2 + 1 := by omega
    have e4 : ¬ k = fJ s c * 2 := by omega
    simp only [e1, e2, e3, e4, false_and, false_or]
theorem lss_bit {s : SV} {c m r i' row' m' : Nat} {b : Bool} (hm : m < 64) : bt6 ((lss s c m r b).2.2 i' row') m' = if ((i' = 2 ∧ row' = c * 6 + r) ∨ (i' = 3 ∧ row' = c) ∨ (i' = 4 ∧ row' = fT s c) ∨ (i' = 5 ∧ row' = r)) ∧ m' = m then b else bt6 (s.2.2 i' row') m' := by
  unfold lss
  simp only [sJs_bit hm]
  repeat' (first | rfl | omega | split)
theorem setL_bit {s : SV} {c m r i' row' m' : Nat} {b : Bool} (hm : m < 64) : bt6 ((setL s c m r b).2.2 i' row') m' = if ((i' = 2 ∧ row' = c * 6 + r) ∨ (i' = 3 ∧ row' = c) ∨ (i' = 4 ∧ row' = fT s c) ∨ (i' = 5 ∧ row' = r) ∨ (i' = 6 ∧ tk s c row' = true)) ∧ m' = m then b else bt6 (s.2.2 i' row') m' := by
  unfold setL
  by_cases h : fact s c 1 = -5
  · simp only [h, if_true, hlf_bit hm, lss_bit hm, tk_row]
    simp only [not_true_eq_false, false_and, or_false]
    grind
  · simp only [h, if_false, hlf_bit hm, lss_bit hm, tk_row]
    simp only [not_false_eq_true, true_and, true_or, and_true]
    grind
section
variable {s : SV} {c m r : Nat} {b : Bool}
theorem setL_X (hm : m < 64) (hr : r < 6) {c' r' m' : Nat} (hr' : r' < 6) : hX (setL s c m r b) c' r' m' = if c' = c ∧ r' = r ∧ m' = m then b else hX s c' r' m' := by
  unfold hX
  rw [setL_bit hm]
  grind
theorem setL_C (hm : m < 64) {c' m' : Nat} : hC (setL s c m r b) c' m' = if c' = c ∧ m' = m then b else hC s c' m' := by
  unfold hC
  rw [setL_bit hm]
  grind
theorem setL_T (hm : m < 64) {t' m' : Nat} : hT (setL s c m r b) t' m' = if t' = fT s c ∧ m' = m then b else hT s t' m' := by
  unfold hT
  rw [setL_bit hm]
  grind
theorem setL_R (hm : m < 64) {r' m' : Nat} : hR (setL s c m r b) r' m' = if r' = r ∧ m' = m then b else hR s r' m' := by
  unfold hR
  rw [setL_bit hm]
  grind
theorem setL_H (hm : m < 64) {k' m' : Nat} : hH (setL s c m r b) k' m' = if tk s c k' = true ∧ m' = m then b else hH s k' m' := by
  unfold hH
  rw [setL_bit hm]
  grind
theorem setL_B (hm : m < 64) {t' m' : Nat} : hB (setL s c m r b) t' m' = hB s t' m' := by
  unfold hB
  rw [setL_bit hm, if_neg (by omega)]
theorem setL_D (hm : m < 64) {d' : Nat} : hol (setL s c m r b) d' = hol s d' := by
  unfold hol
  rw [setL_bit hm, if_neg (by omega)]
theorem setL_fact {c' k' : Nat} : fact (setL s c m r b) c' k' = fact s c' k' := by unfold fact; rw [setL_21]
theorem setL_tk {c' k' : Nat} : tk (setL s c m r b) c' k' = tk s c' k' := by unfold tk fG fJ; simp only [setL_fact]
end
