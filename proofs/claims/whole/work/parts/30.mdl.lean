/-! THE PLAIN FORM: its row of numbers as a function of a state -/
def rmS (s : SV) (c m : Nat) : Option Nat := (List.range' 0 6).find? (fun r => hX s c r m)
def rmN : Option Nat → Nat
  | some r => r + 1
  | none => 0
def rmI : Option Nat → Int32
  | some r => nI r
  | none => -5
def mdl (s : SV) (q : Nat) : Int32 :=
  if q < 6 then s.1 q else if q < 22 then s.2.1 0 (q - 6) else if q < 28 then s.2.1 1 (q - 22) else if q < 148 then s.2.1 2 (q - 28)
  else if q < 1108 then nI (rmN (rmS s ((q - 148) / 48) ((q - 148) % 48)))
  else if q < 1492 then bI (hB s ((q - 1108) / 48) ((q - 1108) % 48))
  else if q < 1892 then bI (hol s (q - 1492)) else 0
section
variable {s : SV}
theorem mdl_n {q : Nat} (h : q < 6) : mdl s q = s.1 q := if_pos h
theorem mdl_t {t k : Nat} (h : t < 8) (hk : k < 2) : mdl s (6 + 2 * t + k) = tf s t k := by
  unfold mdl tf
  rw [if_neg (by omega), if_pos (by omega), show 6 + 2 * t + k - 6 = t * 2 + k by omega]
theorem mdl_r {r : Nat} (h : r < 6) : mdl s (22 + r) = re s r := by
  unfold mdl re
  rw [if_neg (by omega), if_neg (by omega), if_pos (by omega), show 22 + r - 22 = r by omega]
theorem mdl_f {c k : Nat} (h : c < 20) (hk : k < 6) : mdl s (28 + 6 * c + k) = fact s c k := by
  unfold mdl fact
  rw [if_neg (by omega), if_neg (by omega), if_neg (by omega), if_pos (by omega), show 28 + 6 * c + k - 28 = c * 6 + k by omega]
theorem mdl_l {c m : Nat} (h : c < 20) (hm : m < 48) : mdl s (148 + 48 * c + m) = nI (rmN (rmS s c m)) := by
  unfold mdl
  rw [if_neg (by omega), if_neg (by omega), if_neg (by omega), if_neg (by omega), if_pos (by omega), show (148 + 48 * c + m - 148) / 48 = c by omega, show (148 + 48 * c + m - 148) % 48 = m by omega]
theorem mdl_b {t m : Nat} (h : t < 8) (hm : m < 48) : mdl s (1108 + 48 * t + m) = bI (hB s t m) := by
  unfold mdl
  rw [if_neg (by omega), if_neg (by omega), if_neg (by omega), if_neg (by omega), if_neg (by omega), if_pos (by omega), show (1108 + 48 * t + m - 1108) / 48 = t by omega, show (1108 + 48 * t + m - 1108) % 48 = m by omega]
theorem mdl_h {d : Nat} (h : d < 400) : mdl s (1492 + d) = bI (hol s d) := by
  unfold mdl
  rw [if_neg (by omega), if_neg (by omega), if_neg (by omega), if_neg (by omega), if_neg (by omega), if_neg (by omega), if_pos (by omega), show 1492 + d - 1492 = d by omega]
theorem rm_iff (hu : bXu s) {c m r : Nat} : rmS s c m = some r ↔ r < 6 ∧ hX s c r m = true := by
  unfold rmS
  constructor
  · intro h
    have h1 := List.find?_some h
    have h2 := List.mem_of_find?_eq_some h
    rw [List.mem_range'_1] at h2
    exact ⟨by omega, h1⟩
  · rintro ⟨h1, h2⟩
    cases e : (List.range' 0 6).find? (fun r => hX s c r m) with
    | none =>
      rw [List.find?_eq_none] at e
      exact absurd h2 (e r (List.mem_range'_1.mpr (by omega)))
    | some r2 =>
      have h3 := List.find?_some e
      have h4 := List.mem_of_find?_eq_some e
      rw [List.mem_range'_1] at h4
      rw [hu c r2 r m (by omega) h1 h3 h2]
theorem rm_no (hu : bXu s) (hc : bC s) {c m : Nat} : rmS s c m = none ↔ hC s c m = false := by
  constructor
  · intro h
    cases e : hC s c m
    · rfl
    · obtain ⟨r, h1, h2⟩ := (hc c m).mp e
      rw [(rm_iff hu).mpr ⟨h1, h2⟩] at h
      exact absurd h (by simp)
  · intro h
    cases e : rmS s c m with
    | none => rfl
    | some r =>
      have := (hc c m).mpr ⟨r, (rm_iff hu).mp e⟩
      rw [h] at this
      exact absurd this (by decide)
/-- the room that the class finds is the room of the plain form -/
theorem roomS_rm (h : inv s) {c m : Nat} : roomS s c m = rmI (rmS s c m) := by
  obtain ⟨h0, hn, hf, hl, ⟨b1, b2, -⟩, -⟩ := h
  have hnR : nR s ≤ 6 := hn.2.2.2.2.1.2
  unfold roomS
  cases e : (List.range' 0 (nR s)).find? (fun r => hX s c r m) with
  | some r =>
    have h1 := List.find?_some e
    have h2 := List.mem_of_find?_eq_some e
    rw [List.mem_range'_1] at h2
    rw [(rm_iff b2).mpr ⟨by omega, h1⟩]
    rfl
  | none =>
    cases e2 : rmS s c m with
    | none => rfl
    | some r =>
      obtain ⟨h1, h2⟩ := (rm_iff b2).mp e2
      have h3 := (b1 c r m h1 h2).2.1
      rw [List.find?_eq_none] at e
      exact absurd h2 (e r (List.mem_range'_1.mpr (by omega)))
theorem rm_setL (hu : bXu s) {c m r c' m' : Nat} {b : Bool} (hu2 : bXu (setL s c m r b)) (hm : m < 64) (hr : r < 6) (hn : b = false → rmS s c m = some r) : rmS (setL s c m r b) c' m' = if c' = c ∧ m' = m then (if b = true then some r else none) else rmS s c' m' := by
  apply Option.ext
  intro r'
  rw [rm_iff hu2]
  by_cases h6 : r' < 6
  · rw [setL_X hm hr h6]
    by_cases e : c' = c ∧ m' = m
    · obtain ⟨rfl, rfl⟩ := e
      simp only [true_and, and_true, if_true, and_self]
      by_cases e2 : r' = r
      · subst e2
        cases b <;> simp [h6]
      · simp only [e2, if_false]
        cases b
        · have h5 := (rm_iff hu).mp (hn rfl)
          simp only [Bool.false_eq_true, if_false, reduceCtorEq, iff_false]
          exact fun h7 => e2 (hu c' r' r m' h6 hr h7.2 h5.2)
        · simp only [if_true, Option.some.injEq]
          constructor
          · intro h7
            have : hX (setL s c' m' r true) c' r' m' = true := by
              rw [setL_X hm hr h6, if_neg (by simp [e2])]
              exact h7.2
            have h8 : hX (setL s c' m' r true) c' r m' = true := by rw [setL_X hm hr hr, if_pos ⟨rfl, rfl, rfl⟩]
            exact (hu2 c' r r' m' hr h6 h8 this)
          · intro h7
            exact absurd h7.symm e2
    · rw [if_neg (fun h7 => e ⟨h7.1, h7.2.2⟩), if_neg e, ← rm_iff hu]
  · constructor
    · exact fun h => absurd h.1 h6
    · intro h
      exfalso
      split at h
      · split at h
        · exact h6 (by cases h; exact hr)
        · exact absurd h (by simp)
      · exact h6 ((rm_iff hu).mp h).1
/-- a lesson more or less in the row of numbers -/
theorem mdl_setL (hu : bXu s) {c m r : Nat} {b : Bool} (hu2 : bXu (setL s c m r b)) (hc : c < 20) (hm : m < 48) (hr : r < 6) (hn : b = false → rmS s c m = some r) : mdl (setL s c m r b) = upF (mdl s) (148 + 48 * c + m) (if b = true then nI (r + 1) else 0) := by
  funext q
  have hm6 : m < 64 := by omega
  unfold upF
  by_cases e : q = 148 + 48 * c + m
  · subst e
    rw [if_pos rfl, mdl_l hc hm, rm_setL hu hu2 hm6 hr hn, if_pos ⟨rfl, rfl⟩]
    cases b <;> rfl
  · rw [if_neg e]
    unfold mdl
    simp only [setL_1, setL_21, setL_B hm6, setL_D hm6]
    split
    · rfl
    · split
      · rfl
      · split
        · rfl
        · split
          · rfl
          · split
            · rw [rm_setL hu hu2 hm6 hr hn, if_neg (by omega)]
            · rfl
end
