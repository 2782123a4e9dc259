/-- two worlds that differ only in what the plain form uses while it reads -/
def eqv (g g' : SG) : Prop := g'.1 = g.1 ∧ g'.2.1 = g.2.1 ∧ g'.2.2.1 = g.2.2.1 ∧ g'.2.2.2.2 = g.2.2.2.2 ∧ ∀ i, i < 3 → g'.2.2.2.1 i = g.2.2.2.1 i
theorem eqv_r {g : SG} : eqv g g := ⟨rfl, rfl, rfl, rfl, fun _ _ => rfl⟩
theorem eqv_gD {g g' : SG} {i : Nat} {v : Int32} (h : eqv g g') (hi : 3 ≤ i) : eqv g (gD g' i v) := ⟨h.1, h.2.1, h.2.2.1, h.2.2.2.1, fun k hk => by
  show upF g'.2.2.2.1 i v k = _
  rw [upF_ne (by omega)]
  exact h.2.2.2.2 k hk⟩
theorem tdg_lt {x : Nat → Int32} {n p d : Nat} (h : tdg x n p = some d) : p < n ∧ d < 10 := by
  rcases @tdg_c x n p with ⟨e, h1, h2, h3, h4⟩ | ⟨h3, h4⟩
  · rw [h4] at h
    cases h
    exact ⟨h1, h2⟩
  · rw [h4] at h
    exact absurd h (by simp)
theorem tnum_lt {x : Nat → Int32} {n p a q : Nat} (h : tnum x n p = some (a, q)) : p < q ∧ q ≤ n ∧ a < 100 := by
  unfold tnum at h
  cases e : tdg x n p with
  | none =>
    rw [e] at h
    exact absurd h (by simp)
  | some d =>
    obtain ⟨h1, h2⟩ := tdg_lt e
    rw [e] at h
    cases d with
    | zero =>
      simp only [Option.some.injEq, Prod.mk.injEq] at h
      omega
    | succ d =>
      cases e2 : tdg x n (p + 1) with
      | none =>
        rw [e2] at h
        simp only [Option.some.injEq, Prod.mk.injEq] at h
        omega
      | some b =>
        obtain ⟨h3, h4⟩ := tdg_lt e2
        rw [e2] at h
        simp only [Option.some.injEq, Prod.mk.injEq] at h
        omega
theorem tsg_lt {x : Nat → Int32} {n p : Nat} {c : Int32} (h : tsg x n p c = true) : p < n := by
  unfold tsg at h
  simp only [Bool.and_eq_true, decide_eq_true_eq] at h
  exact h.1
section
variable {sc : Nat × (Nat → Int32)} {g : SG} {n p : Nat} {x : Nat → Int32} {Q : Option Value → ri_W → Prop}
theorem m_passesPlacing (hn : n ≤ 60) (hp : p ≤ n) (e0 : g.2.2.2.1 2 = nI n) (e2 : g.2.2.2.1 3 = nI p) (ex : g.2.2.2.2 2 = x) : ∃ g', eqv g g' ∧ g'.2.2.2.1 3 = nI (tpl x n p).1 ∧ (∀ a b d, (tpl x n p).2 = some (a, b, d) → g'.2.2.2.1 5 = nI a ∧ g'.2.2.2.1 6 = nI b ∧ g'.2.2.2.1 7 = nI d) ∧ ∀ Q, ev sc 157 [.ref 154] (Wd g) Q = Q (some (.int (if (tpl x n p).2.isSome = true then 1 else 0))) (Wd g') := by
  have a1 := fun Q => m_num2 (sc := sc) (Q := Q) hn hp e0 e2 ex
  unfold tpl
  cases e : tnum x n p with
  | none =>
    rw [e] at a1
    refine ⟨g, eqv_r, e2, fun a b d h => absurd h (by simp), fun Q => ?_⟩
    simp only [↓en157, ↓u157_0, ↓u157_1, ↓u157_2, ↓u157_5, ↓u157_10, ↓u157_8, ↓u157_11, ↓u157_9, ↓u157_12, ↓u157_15, ↓u157_18, ↓u157_19, ↓u157_21, ↓u157_24, ↓u157_35, ↓u157_27, ↓u157_36, ↓u157_28, ↓u157_29, ↓u157_32, ↓u157_37, ↓u157_38, ↓u157_39, ↓u157_42, ↓u157_45, ↓u157_46, ↓u157_48, ↓u157_51, ↓u157_62, ↓u157_54, ↓u157_63, ↓u157_55, ↓u157_56, ↓u157_59, ↓u157_64, ↓u157_65, ↓u157_66, ↓u157_69, ↓u157_72, ↓u157_73, ↓d_o, ↓a1, ↓c_v_some, n00, if_true, ↓c_b_0, Option.isSome_none, Bool.false_eq_true, if_false]
  | some w =>
    obtain ⟨a, p1⟩ := w
    obtain ⟨h1, h2, h3⟩ := tnum_lt e
    rw [e] at a1
    have e0' : (gD (gD (gD g 3 (nI p1)) 4 (nI a)) 5 (nI a)).2.2.2.1 2 = nI n := e0
    have a2 := fun Q => m_passesSign (sc := sc) (Q := Q) (g := gD (gD (gD g 3 (nI p1)) 4 (nI a)) 5 (nI a)) (n := n) (p := p1) (x := x) (c := 64) hn h2 e0' rfl ex
    have f1 : (gD (gD g 3 (nI p1)) 4 (nI a)).2.2.2.1 4 = nI a := rfl
    by_cases s1 : tsg x n p1 64 = true
    · have hp1 := tsg_lt s1
      simp only [s1, if_true] at a2
      have a3 := fun Q => m_num2 (sc := sc) (Q := Q) (g := gD (gD (gD (gD g 3 (nI p1)) 4 (nI a)) 5 (nI a)) 3 (nI (p1 + 1))) (n := n) (p := p1 + 1) (x := x) hn (by omega) e0' rfl ex
      simp only [s1, if_true]
      cases e3 : tnum x n (p1 + 1) with
      | none =>
        rw [e3] at a3
        refine ⟨gD (gD (gD (gD g 3 (nI p1)) 4 (nI a)) 5 (nI a)) 3 (nI (p1 + 1)), eqv_gD (eqv_gD (eqv_gD (eqv_gD eqv_r (by decide)) (by decide)) (by decide)) (by decide), rfl, fun a b d h => absurd h (by simp), fun Q => ?_⟩
        simp only [↓en157, ↓u157_0, ↓u157_1, ↓u157_2, ↓u157_5, ↓u157_10, ↓u157_8, ↓u157_11, ↓u157_9, ↓u157_12, ↓u157_15, ↓u157_18, ↓u157_19, ↓u157_21, ↓u157_24, ↓u157_35, ↓u157_27, ↓u157_36, ↓u157_28, ↓u157_29, ↓u157_32, ↓u157_37, ↓u157_38, ↓u157_39, ↓u157_42, ↓u157_45, ↓u157_46, ↓u157_48, ↓u157_51, ↓u157_62, ↓u157_54, ↓u157_63, ↓u157_55, ↓u157_56, ↓u157_59, ↓u157_64, ↓u157_65, ↓u157_66, ↓u157_69, ↓u157_72, ↓u157_73, ↓d_o, ↓a1, ↓c_v_some, n10, n00, if_true, if_false, ↓df7, f1, dp8, ↓a2, a2, ↓a3, a3, ↓c_b_0, Option.isSome_none, Bool.false_eq_true]
      | some w =>
        obtain ⟨b, p2⟩ := w
        obtain ⟨h4, h5, h6⟩ := tnum_lt e3
        rw [e3] at a3
        have e0'' : (gD (gD (gD (gD (gD (gD (gD g 3 (nI p1)) 4 (nI a)) 5 (nI a)) 3 (nI (p1 + 1))) 3 (nI p2)) 4 (nI b)) 6 (nI b)).2.2.2.1 2 = nI n := e0
        have f2 : (gD (gD (gD (gD (gD (gD g 3 (nI p1)) 4 (nI a)) 5 (nI a)) 3 (nI (p1 + 1))) 3 (nI p2)) 4 (nI b)).2.2.2.1 4 = nI b := rfl
        have a4 := fun Q => m_passesSign (sc := sc) (Q := Q) (g := gD (gD (gD (gD (gD (gD (gD g 3 (nI p1)) 4 (nI a)) 5 (nI a)) 3 (nI (p1 + 1))) 3 (nI p2)) 4 (nI b)) 6 (nI b)) (n := n) (p := p2) (x := x) (c := 114) hn h5 e0'' rfl ex
        by_cases s2 : tsg x n p2 114 = true
        · have hp2 := tsg_lt s2
          simp only [s2, if_true] at a4 ⊢
          have a5 := fun Q => m_num1 (sc := sc) (Q := Q) (g := gD (gD (gD (gD (gD (gD (gD (gD g 3 (nI p1)) 4 (nI a)) 5 (nI a)) 3 (nI (p1 + 1))) 3 (nI p2)) 4 (nI b)) 6 (nI b)) 3 (nI (p2 + 1))) (n := n) (p := p2 + 1) (x := x) hn (by omega) e0'' rfl ex
          cases e5 : tdg x n (p2 + 1) with
          | none =>
            rw [e5] at a5
            refine ⟨gD (gD (gD (gD (gD (gD (gD (gD g 3 (nI p1)) 4 (nI a)) 5 (nI a)) 3 (nI (p1 + 1))) 3 (nI p2)) 4 (nI b)) 6 (nI b)) 3 (nI (p2 + 1)), (eqv_gD (eqv_gD (eqv_gD (eqv_gD (eqv_gD (eqv_gD (eqv_gD (eqv_gD eqv_r (by decide)) (by decide)) (by decide)) (by decide)) (by decide)) (by decide)) (by decide)) (by decide)), rfl, fun a b d h => absurd h (by simp), fun Q => ?_⟩
            simp only [↓en157, ↓u157_0, ↓u157_1, ↓u157_2, ↓u157_5, ↓u157_10, ↓u157_8, ↓u157_11, ↓u157_9, ↓u157_12, ↓u157_15, ↓u157_18, ↓u157_19, ↓u157_21, ↓u157_24, ↓u157_35, ↓u157_27, ↓u157_36, ↓u157_28, ↓u157_29, ↓u157_32, ↓u157_37, ↓u157_38, ↓u157_39, ↓u157_42, ↓u157_45, ↓u157_46, ↓u157_48, ↓u157_51, ↓u157_62, ↓u157_54, ↓u157_63, ↓u157_55, ↓u157_56, ↓u157_59, ↓u157_64, ↓u157_65, ↓u157_66, ↓u157_69, ↓u157_72, ↓u157_73, ↓d_o, ↓a1, ↓c_v_some, n10, n00, if_true, if_false, ↓df7, f1, dp8, ↓a2, a2, ↓a3, a3, f2, dp9, ↓a4, a4, ↓a5, a5, ↓c_b_0, Option.isSome_none, Bool.false_eq_true]
          | some d =>
            rw [e5] at a5
            have f3 : (gD (gD (gD (gD (gD (gD (gD (gD (gD (gD g 3 (nI p1)) 4 (nI a)) 5 (nI a)) 3 (nI (p1 + 1))) 3 (nI p2)) 4 (nI b)) 6 (nI b)) 3 (nI (p2 + 1))) 3 (nI (p2 + 1 + 1))) 4 (nI d)).2.2.2.1 4 = nI d := rfl
            refine ⟨gD (gD (gD (gD (gD (gD (gD (gD (gD (gD (gD g 3 (nI p1)) 4 (nI a)) 5 (nI a)) 3 (nI (p1 + 1))) 3 (nI p2)) 4 (nI b)) 6 (nI b)) 3 (nI (p2 + 1))) 3 (nI (p2 + 1 + 1))) 4 (nI d)) 7 (nI d), (eqv_gD (eqv_gD (eqv_gD (eqv_gD (eqv_gD (eqv_gD (eqv_gD (eqv_gD (eqv_gD (eqv_gD (eqv_gD eqv_r (by decide)) (by decide)) (by decide)) (by decide)) (by decide)) (by decide)) (by decide)) (by decide)) (by decide)) (by decide)) (by decide)), rfl, fun a' b' d' h => ?_, fun Q => ?_⟩
            · simp only [Option.some.injEq, Prod.mk.injEq] at h
              obtain ⟨rfl, rfl, rfl⟩ := h
              exact ⟨rfl, rfl, rfl⟩
            · simp only [↓en157, ↓u157_0, ↓u157_1, ↓u157_2, ↓u157_5, ↓u157_10, ↓u157_8, ↓u157_11, ↓u157_9, ↓u157_12, ↓u157_15, ↓u157_18, ↓u157_19, ↓u157_21, ↓u157_24, ↓u157_35, ↓u157_27, ↓u157_36, ↓u157_28, ↓u157_29, ↓u157_32, ↓u157_37, ↓u157_38, ↓u157_39, ↓u157_42, ↓u157_45, ↓u157_46, ↓u157_48, ↓u157_51, ↓u157_62, ↓u157_54, ↓u157_63, ↓u157_55, ↓u157_56, ↓u157_59, ↓u157_64, ↓u157_65, ↓u157_66, ↓u157_69, ↓u157_72, ↓u157_73, ↓d_o, ↓a1, ↓c_v_some, n10, n00, if_true, if_false, ↓df7, f1, dp8, ↓a2, a2, ↓a3, a3, f2, dp9, ↓a4, a4, ↓a5, a5, f3, dp10, ↓c_b_1, Option.isSome_some]
        · simp only [s2, if_false, Bool.false_eq_true] at a4 ⊢
          refine ⟨gD (gD (gD (gD (gD (gD (gD g 3 (nI p1)) 4 (nI a)) 5 (nI a)) 3 (nI (p1 + 1))) 3 (nI p2)) 4 (nI b)) 6 (nI b), (eqv_gD (eqv_gD (eqv_gD (eqv_gD (eqv_gD (eqv_gD (eqv_gD eqv_r (by decide)) (by decide)) (by decide)) (by decide)) (by decide)) (by decide)) (by decide)), rfl, fun a b d h => absurd h (by simp), fun Q => ?_⟩
          simp only [↓en157, ↓u157_0, ↓u157_1, ↓u157_2, ↓u157_5, ↓u157_10, ↓u157_8, ↓u157_11, ↓u157_9, ↓u157_12, ↓u157_15, ↓u157_18, ↓u157_19, ↓u157_21, ↓u157_24, ↓u157_35, ↓u157_27, ↓u157_36, ↓u157_28, ↓u157_29, ↓u157_32, ↓u157_37, ↓u157_38, ↓u157_39, ↓u157_42, ↓u157_45, ↓u157_46, ↓u157_48, ↓u157_51, ↓u157_62, ↓u157_54, ↓u157_63, ↓u157_55, ↓u157_56, ↓u157_59, ↓u157_64, ↓u157_65, ↓u157_66, ↓u157_69, ↓u157_72, ↓u157_73, ↓d_o, ↓a1, ↓c_v_some, n10, n00, if_true, if_false, ↓df7, f1, dp8, ↓a2, a2, ↓a3, a3, f2, dp9, ↓a4, a4, ↓c_b_0, Option.isSome_none, Bool.false_eq_true]
    · simp only [s1, if_false, Bool.false_eq_true] at a2
      simp only [s1, if_false, Bool.false_eq_true]
      refine ⟨gD (gD (gD g 3 (nI p1)) 4 (nI a)) 5 (nI a), eqv_gD (eqv_gD (eqv_gD eqv_r (by decide)) (by decide)) (by decide), rfl, fun a b d h => absurd h (by simp), fun Q => ?_⟩
      simp only [↓en157, ↓u157_0, ↓u157_1, ↓u157_2, ↓u157_5, ↓u157_10, ↓u157_8, ↓u157_11, ↓u157_9, ↓u157_12, ↓u157_15, ↓u157_18, ↓u157_19, ↓u157_21, ↓u157_24, ↓u157_35, ↓u157_27, ↓u157_36, ↓u157_28, ↓u157_29, ↓u157_32, ↓u157_37, ↓u157_38, ↓u157_39, ↓u157_42, ↓u157_45, ↓u157_46, ↓u157_48, ↓u157_51, ↓u157_62, ↓u157_54, ↓u157_63, ↓u157_55, ↓u157_56, ↓u157_59, ↓u157_64, ↓u157_65, ↓u157_66, ↓u157_69, ↓u157_72, ↓u157_73, ↓d_o, ↓a1, ↓c_v_some, n10, n00, if_true, if_false, ↓df7, f1, dp8, ↓a2, a2, ↓c_b_0, Option.isSome_none, Bool.false_eq_true]
end
