theorem eqv_tr {g g' g'' : SG} (h : eqv g g') (h' : eqv g' g'') : eqv g g'' := ⟨h'.1.trans h.1, h'.2.1.trans h.2.1, h'.2.2.1.trans h.2.2.1, h'.2.2.2.1.trans h.2.2.2.1, fun i hi => (h'.2.2.2.2 i hi).trans (h.2.2.2.2 i hi)⟩
section
variable {sc : Nat × (Nat → Int32)} {n : Nat} {x : Nat → Int32}
/-- the plain form looks for a fault behind a placing -/
theorem m_fault_l (hn : n ≤ 60) : ∀ (k : Nat) (g : SG) (q : Nat), 61 ≤ k + q → q ≤ n → g.2.2.2.1 2 = nI n → g.2.2.2.1 3 = nI q → g.2.2.2.2 2 = x → ∃ g', eqv g g' ∧ ∀ Q, rv sc 158 17 [(0, .ref 154)] [] (Wd g) Q = Q (some (.int (if n ≤ q then -5 else if tsg x n q 59 = true then (match prs x n k (q + 1) with | .inl _ => -5 | .inr e => nI e) else nI q))) (Wd g') := by
  intro k
  induction k with
  | zero =>
    intro g q hk hq e0 e2 ex
    omega
  | succ k ih =>
    intro g q hk hq e0 e2 ex
    by_cases hqn : n ≤ q
    · have c1 : nI n ≤ nI q := nI_le hqn (by omega)
      have c2 : ¬ nI q < nI n := nI_nlt hqn (by omega)
      refine ⟨g, eqv_r, fun Q => ?_⟩
      rw [u158_17]
      simp only [↓u158_0, ↓u158_1, ↓u158_2, ↓u158_5, ↓u158_6, ↓u158_9, ↓u158_12, ↓u158_18, ↓u158_13, ↓u158_21, ↓u158_16, ↓u158_22, ↓u158_25, ↓u158_49, ↓u158_28, ↓u158_51, ↓u158_29, ↓u158_31, ↓u158_34, ↓u158_44, ↓u158_37, ↓u158_45, ↓u158_38, ↓u158_48, ↓u158_41, ↓df5, ↓df6, e0, e2, c1, c2, if_true, if_false, if_pos hqn]
    · have c1 : ¬ nI n ≤ nI q := nI_ge (by omega) (by omega)
      have c2 : nI q < nI n := nI_lt (by omega) (by omega)
      have a1 := fun Q => m_passesSign (sc := sc) (Q := Q) (c := 59) hn hq e0 e2 ex
      by_cases s1 : tsg x n q 59 = true
      · have l1 := tsg_lt s1
        simp only [s1, if_true] at a1 ⊢
        obtain ⟨g1, v1, v2, v3, v4⟩ := m_passesPlacing (sc := sc) (g := gD g 3 (nI (q + 1))) (n := n) (p := q + 1) (x := x) hn (by omega) e0 rfl ex
        have w1 : eqv g g1 := eqv_tr (eqv_gD eqv_r (by decide)) v1
        rw [show prs x n (k + 1) (q + 1) = (match tpl x n (q + 1) with
          | (q, none) => .inr q
          | (q, some t) => if n ≤ q then .inl [t] else if tsg x n q 59 = true then (match prs x n k (q + 1) with
            | .inl l => .inl (t :: l)
            | .inr e => .inr e) else .inr q) from rfl]
        cases et : tpl x n (q + 1) with
        | mk r o =>
          rw [et] at v2 v4
          cases o with
          | none =>
            refine ⟨g1, w1, fun Q => ?_⟩
            have f6 : g1.2.2.2.1 3 = nI r := v2
            simp only [Option.isSome_none, Bool.false_eq_true, if_false] at v4
            rw [u158_17]
            simp only [↓u158_0, ↓u158_1, ↓u158_2, ↓u158_5, ↓u158_6, ↓u158_9, ↓u158_12, ↓u158_18, ↓u158_13, ↓u158_21, ↓u158_16, ↓u158_22, ↓u158_25, ↓u158_49, ↓u158_28, ↓u158_51, ↓u158_29, ↓u158_31, ↓u158_34, ↓u158_44, ↓u158_37, ↓u158_45, ↓u158_38, ↓u158_48, ↓u158_41, ↓df5, ↓df6, e0, e2, c1, c2, if_true, if_false, if_neg hqn, ↓d_o, ↓a1, ↓v4, ↓c_v_some, n10, n00, f6]
          | some t =>
            obtain ⟨a, b, d⟩ := t
            have hl := tpl_lt et
            simp only [Option.isSome_some, if_true] at v4
            obtain ⟨g2, t1, t2⟩ := ih g1 r (by omega) hl.2.1 ((w1.2.2.2.2 2 (by decide)).trans e0) v2 (by rw [w1.2.2.2.1]; exact ex)
            refine ⟨g2, eqv_tr w1 t1, fun Q => ?_⟩
            have t3 := t2 Q
            have ha : (if n ≤ r then (-5 : Int32) else if tsg x n r 59 = true then (match prs x n k (r + 1) with | .inl _ => -5 | .inr e => nI e) else nI r) = (match (if n ≤ r then (.inl [(a, b, d)] : List (Nat × Nat × Nat) ⊕ Nat) else if tsg x n r 59 = true then (match prs x n k (r + 1) with | .inl l => .inl ((a, b, d) :: l) | .inr e => .inr e) else .inr r) with | .inl _ => (-5 : Int32) | .inr e => nI e) := by
              by_cases z1 : n ≤ r
              · simp only [z1, if_true]
              · by_cases z2 : tsg x n r 59 = true
                · simp only [z1, z2, if_true, if_false]
                  cases prs x n k (r + 1) <;> rfl
                · simp only [z1, z2, if_false, Bool.false_eq_true]
            rw [ha] at t3
            rw [if_neg hqn, u158_17]
            refine Eq.trans ?_ t3
            simp only [↓u158_0, ↓u158_1, ↓u158_2, ↓u158_5, ↓u158_6, ↓u158_9, ↓u158_12, ↓u158_18, ↓u158_13, ↓u158_21, ↓u158_16, ↓u158_22, ↓u158_25, ↓u158_49, ↓u158_28, ↓u158_51, ↓u158_29, ↓u158_31, ↓u158_34, ↓u158_44, ↓u158_37, ↓u158_45, ↓u158_38, ↓u158_48, ↓u158_41, ↓df5, ↓df6, e0, e2, c1, c2, if_true, if_false, ↓d_o, ↓a1, ↓v4, ↓c_v_some, n10]
      · simp only [s1, if_false, Bool.false_eq_true] at a1 ⊢
        refine ⟨g, eqv_r, fun Q => ?_⟩
        rw [u158_17]
        simp only [↓u158_0, ↓u158_1, ↓u158_2, ↓u158_5, ↓u158_6, ↓u158_9, ↓u158_12, ↓u158_18, ↓u158_13, ↓u158_21, ↓u158_16, ↓u158_22, ↓u158_25, ↓u158_49, ↓u158_28, ↓u158_51, ↓u158_29, ↓u158_31, ↓u158_34, ↓u158_44, ↓u158_37, ↓u158_45, ↓u158_38, ↓u158_48, ↓u158_41, ↓df5, ↓df6, e0, e2, c1, c2, if_true, if_false, if_neg hqn, ↓d_o, ↓a1, ↓c_v_some, n00]
end
