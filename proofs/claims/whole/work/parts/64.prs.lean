/-- the placings of a text from a place on, or where it cannot go on -/
def prs (x : Nat → Int32) (n : Nat) : Nat → Nat → List (Nat × Nat × Nat) ⊕ Nat
  | 0, p => .inr p
  | k + 1, p => match tpl x n p with
    | (q, none) => .inr q
    | (q, some t) => if n ≤ q then .inl [t] else if tsg x n q 59 = true then (match prs x n k (q + 1) with
      | .inl l => .inl (t :: l)
      | .inr e => .inr e) else .inr q
theorem tpl_lt {x : Nat → Int32} {n p q a b d : Nat} (h : tpl x n p = (q, some (a, b, d))) : p + 5 ≤ q ∧ q ≤ n ∧ a < 100 ∧ b < 100 ∧ d < 10 := by
  unfold tpl at h
  cases e : tnum x n p with
  | none =>
    rw [e] at h
    exact absurd h (by simp)
  | some w =>
    obtain ⟨a', p1⟩ := w
    have t1 := tnum_lt e
    rw [e] at h
    by_cases s1 : tsg x n p1 64 = true
    · have l1 := tsg_lt s1
      simp only [s1, if_true] at h
      cases e3 : tnum x n (p1 + 1) with
      | none =>
        rw [e3] at h
        exact absurd h (by simp)
      | some w =>
        obtain ⟨b', p2⟩ := w
        have t2 := tnum_lt e3
        rw [e3] at h
        by_cases s2 : tsg x n p2 114 = true
        · have l2 := tsg_lt s2
          simp only [s2, if_true] at h
          cases e5 : tdg x n (p2 + 1) with
          | none =>
            rw [e5] at h
            exact absurd h (by simp)
          | some d' =>
            have t3 := tdg_lt e5
            rw [e5] at h
            simp only [Prod.mk.injEq, Option.some.injEq] at h
            omega
        · simp only [s2, if_false, Bool.false_eq_true] at h
          exact absurd h (by simp)
    · simp only [s1, if_false, Bool.false_eq_true] at h
      exact absurd h (by simp)
/-- where nothing is left there is no placing -/
theorem tpl_end {x : Nat → Int32} {n p : Nat} (h : n ≤ p) : tpl x n p = (p, none) := by
  have e : tdg x n p = none := by
    unfold tdg
    rw [if_neg (by omega)]
  unfold tpl tnum
  rw [e]
