/-! TEXTS: how placings are read -/
/-- the digit at a place, if there is one -/
def tdg (x : Nat → Int32) (n p : Nat) : Option Nat := if p < n then (List.range 10).find? (fun d => decide (x p = nI (d + 48))) else none
/-- a number of one or two digits and the place behind it -/
def tnum (x : Nat → Int32) (n p : Nat) : Option (Nat × Nat) := match tdg x n p with
  | none => none
  | some 0 => some (0, p + 1)
  | some (a + 1) => match tdg x n (p + 1) with
    | none => some (a + 1, p + 1)
    | some b => some (10 * (a + 1) + b, p + 2)
/-- whether a sign stands at a place -/
def tsg (x : Nat → Int32) (n p : Nat) (c : Int32) : Bool := decide (p < n) && decide (x p = c)
/-- a placing: where reading stops, and what was read -/
def tpl (x : Nat → Int32) (n p : Nat) : Nat × Option (Nat × Nat × Nat) := match tnum x n p with
  | none => (p, none)
  | some (a, p1) => if tsg x n p1 64 = true then (match tnum x n (p1 + 1) with
    | none => (p1 + 1, none)
    | some (b, p2) => if tsg x n p2 114 = true then (match tdg x n (p2 + 1) with
      | none => (p2 + 1, none)
      | some d => (p2 + 2, some (a, b, d))) else (p2, none)) else (p1, none)
theorem tdg_c {x : Nat → Int32} {n p : Nat} : (∃ d, p < n ∧ d < 10 ∧ x p = nI (d + 48) ∧ tdg x n p = some d) ∨ ((p < n → ∀ d, d < 10 → x p ≠ nI (d + 48)) ∧ tdg x n p = none) := by
  unfold tdg
  by_cases h : p < n
  · rw [if_pos h]
    cases e : (List.range 10).find? (fun d => decide (x p = nI (d + 48))) with
    | some d =>
      have h1 := List.find?_some e
      have h2 := List.mem_of_find?_eq_some e
      rw [List.mem_range] at h2
      exact .inl ⟨d, h, h2, by simpa using h1, rfl⟩
    | none =>
      rw [List.find?_eq_none] at e
      exact .inr ⟨fun _ d hd => by simpa using e d (List.mem_range.mpr hd), rfl⟩
  · rw [if_neg h]
    exact .inr ⟨fun h2 => absurd h2 h, rfl⟩
section
variable {sc : Nat × (Nat → Int32)} {g : SG} {n p : Nat} {Q : Option Value → ri_W → Prop}
theorem c_chr (hp : p < 2 ^ 31) : ev sc 1 [.ref 152, .int (nI p), .int 0] (Wd g) Q = Q (some (.int (if p < 60 then g.2.2.1.2 1 p else 0))) (Wd g) := by
  have := s_nget (sc := sc) (w := Wd g) (Q := Q) (wd := 1) (i := p) (k := 0) (xno1 (g := g)) xni1 (by decide) (by decide) (by decide) (by omega)
  rw [show p * 1 + 0 = p by omega] at this
  exact this
theorem s48 {v : Int32} {d : Nat} (hd : d < 10) : v = nI (d + 48) → v - 48 = nI d := fun h => by
  rw [h, show (48 : Int32) = nI 48 from rfl, nI_sub (by omega)]
  congr 1
theorem s48' {v : Int32} {d : Nat} : v - 48 = nI d → v = nI (d + 48) := fun h => by
  have : v = v - 48 + 48 := by rw [Int32.sub_add_cancel]
  rw [this, h, show (48 : Int32) = nI 48 from rfl, nI_add]
theorem c_readDigit (hn : n ≤ 60) (hp : p ≤ n) (e0 : g.2.2.1.1 0 = nI n) (e2 : g.2.2.1.1 2 = nI p) : ev sc 58 [.ref 149] (Wd g) Q = (match tdg (g.2.2.1.2 1) n p with
    | some d => Q (some (.int (nI d))) (Wd (gX g 2 (nI (p + 1))))
    | none => Q (some (.int (-1))) (Wd g)) := by
  rcases @tdg_c (g.2.2.1.2 1) n p with ⟨d, h1, h2, h3, h4⟩ | ⟨h3, h4⟩
  · rw [h4]
    have c1 : ¬ nI n ≤ nI p := nI_ge h1 (by omega)
    have c2 : nI p < nI n := nI_lt h1 (by omega)
    have c3 : ii (nI d) 0 9 = 1 := ii_in (n := 10) h2 (by decide)
    simp only [↓en58, ↓u58_0, ↓u58_1, ↓u58_4, ↓u58_5, ↓u58_8, ↓u58_9, ↓u58_12, ↓u58_14, ↓u58_15, ↓u58_16, ↓u58_17, ↓u58_20, ↓u58_21, ↓u58_24, ↓u58_37, ↓u58_27, ↓u58_38, ↓u58_28, ↓u58_29, ↓u58_31, ↓u58_34, ↓u58_39, ↓u58_40, ↓u58_41, ↓u58_44, ↓u58_45, ↓u58_46, ↓u58_49, ↓u58_50, ↓xf0, ↓xf3, ↓xf4, e0, e2, ↓xn_o1, ↓c_chr (show p < 2 ^ 31 by omega), ↓c_v_some, if_pos (show p < 60 by omega), s48 h2 h3, c1, c2, if_true, if_false, ↓s_isIn, c3, n10, nI_1, xp4]
  · rw [h4]
    by_cases hpn : p < n
    · have c1 : ¬ nI n ≤ nI p := nI_ge hpn (by omega)
      have c2 : nI p < nI n := nI_lt hpn (by omega)
      have c3 : ii (g.2.2.1.2 1 p - 48) 0 9 = 0 := ii_out (n := 10) (by decide) (fun d hd e => h3 hpn d hd (s48' e))
      simp only [↓en58, ↓u58_0, ↓u58_1, ↓u58_4, ↓u58_5, ↓u58_8, ↓u58_9, ↓u58_12, ↓u58_14, ↓u58_15, ↓u58_16, ↓u58_17, ↓u58_20, ↓u58_21, ↓u58_24, ↓u58_37, ↓u58_27, ↓u58_38, ↓u58_28, ↓u58_29, ↓u58_31, ↓u58_34, ↓u58_39, ↓u58_40, ↓u58_41, ↓u58_44, ↓u58_45, ↓u58_46, ↓u58_49, ↓u58_50, ↓xf0, ↓xf3, ↓xf4, e0, e2, ↓xn_o1, ↓c_chr (show p < 2 ^ 31 by omega), ↓c_v_some, if_pos (show p < 60 by omega), c1, c2, if_true, if_false, ↓s_isIn, c3, n00]
    · have c1 : nI n ≤ nI p := nI_le (by omega) (by omega)
      have c2 : ¬ nI p < nI n := nI_nlt (by omega) (by omega)
      simp only [↓en58, ↓u58_0, ↓u58_1, ↓u58_4, ↓u58_5, ↓u58_8, ↓u58_9, ↓u58_12, ↓u58_14, ↓u58_15, ↓u58_16, ↓u58_17, ↓u58_20, ↓u58_21, ↓u58_24, ↓u58_37, ↓u58_27, ↓u58_38, ↓u58_28, ↓u58_29, ↓u58_31, ↓u58_34, ↓u58_39, ↓u58_40, ↓u58_41, ↓u58_44, ↓u58_45, ↓u58_46, ↓u58_49, ↓u58_50, ↓xf0, ↓xf3, ↓xf4, e0, e2, ↓xn_o1, ↓c_chr (show p < 2 ^ 31 by omega), ↓c_v_some, c1, c2, if_true, if_false]
theorem c_reads (hn : n ≤ 60) (hp : p ≤ n) (e0 : g.2.2.1.1 0 = nI n) (e2 : g.2.2.1.1 2 = nI p) {c : Int32} : ev sc 57 [.ref 149, .int c] (Wd g) Q = (if tsg (g.2.2.1.2 1) n p c = true then Q (some (.int 1)) (Wd (gX g 2 (nI (p + 1)))) else Q (some (.int 0)) (Wd g)) := by
  unfold tsg
  by_cases hpn : p < n
  · have c1 : ¬ nI n ≤ nI p := nI_ge hpn (by omega)
    have c2 : nI p < nI n := nI_lt hpn (by omega)
    simp only [↓en57, ↓u57_0, ↓u57_1, ↓u57_4, ↓u57_5, ↓u57_8, ↓u57_27, ↓u57_11, ↓u57_28, ↓u57_12, ↓u57_15, ↓u57_16, ↓u57_19, ↓u57_20, ↓u57_23, ↓u57_24, ↓u57_29, ↓u57_30, ↓u57_31, ↓u57_34, ↓u57_35, ↓u57_36, ↓u57_39, ↓u57_40, ↓xf0, ↓xf3, ↓xf4, e0, e2, ↓xn_o1, ↓c_chr (show p < 2 ^ 31 by omega), ↓c_v_some, if_pos (show p < 60 by omega), c1, c2, if_true, if_false, nI_1, xp4, ↓c_b_0, ↓c_b_1]
    by_cases e : g.2.2.1.2 1 p = c <;> simp [e, hpn]
  · have c1 : nI n ≤ nI p := nI_le (by omega) (by omega)
    have c2 : ¬ nI p < nI n := nI_nlt (by omega) (by omega)
    simp only [↓en57, ↓u57_0, ↓u57_1, ↓u57_4, ↓u57_5, ↓u57_8, ↓u57_27, ↓u57_11, ↓u57_28, ↓u57_12, ↓u57_15, ↓u57_16, ↓u57_19, ↓u57_20, ↓u57_23, ↓u57_24, ↓u57_29, ↓u57_30, ↓u57_31, ↓u57_34, ↓u57_35, ↓u57_36, ↓u57_39, ↓u57_40, ↓xf0, ↓xf4, e0, e2, c1, c2, if_true, if_false, ↓c_b_0]
    simp [hpn]
theorem gX_tw {i : Nat} {v w : Int32} : gX (gX g i v) i w = gX g i w := by
  unfold gX
  show (g.1, g.2.1, (upF (upF g.2.2.1.1 i v) i w, g.2.2.1.2), g.2.2.2) = _
  rw [upF_tw]
theorem c_readNumber (hn : n ≤ 60) (hp : p ≤ n) (e0 : g.2.2.1.1 0 = nI n) (e2 : g.2.2.1.1 2 = nI p) : ev sc 59 [.ref 149] (Wd g) Q = (match tnum (g.2.2.1.2 1) n p with
    | some (a, q) => Q (some (.int (nI a))) (Wd (gX g 2 (nI q)))
    | none => Q (some (.int (-1))) (Wd g)) := by
  have hd := fun Q => c_readDigit (sc := sc) (Q := Q) hn hp e0 e2
  unfold tnum
  rcases @tdg_c (g.2.2.1.2 1) n p with ⟨d, h1, h2, h3, h4⟩ | ⟨h3, h4⟩
  · rw [h4] at hd ⊢
    have hd2 := fun Q => c_readDigit (sc := sc) (Q := Q) (g := gX g 2 (nI (p + 1))) (n := n) (p := p + 1) hn (by omega) e0 rfl
    cases d with
    | zero =>
      have c1 : (nI 0 ≤ 0) = True := by decide
      have c2 : ((0 : Int32) < nI 0) = False := by decide
      simp only [↓en59, ↓u59_0, ↓u59_1, ↓u59_4, ↓u59_5, ↓u59_6, ↓u59_11, ↓u59_9, ↓u59_12, ↓u59_10, ↓u59_15, ↓u59_16, ↓u59_17, ↓u59_18, ↓u59_25, ↓u59_21, ↓u59_27, ↓u59_22, ↓u59_28, ↓u59_31, ↓u59_29, ↓u59_30, ↓x_o, ↓hd, ↓c_v_some, c1, c2, if_true, if_false]
    | succ a =>
      have c1 : ¬ nI (a + 1) ≤ 0 := nI_nle (by omega) (by omega)
      have c2 : (0 : Int32) < nI (a + 1) := Int32.not_le.mp c1
      rw [show (gX g 2 (nI (p + 1))).2.2.1.2 1 = g.2.2.1.2 1 from rfl] at hd2
      rcases @tdg_c (g.2.2.1.2 1) n (p + 1) with ⟨b, k1, k2, k3, k4⟩ | ⟨k3, k4⟩
      · rw [k4] at hd2 ⊢
        have c3 : ¬ nI b = -1 := fun e => nI_pos (n := b) (by omega) (by rw [e]; decide)
        have c4 : (10 : Int32) * nI (a + 1) + nI b = nI (10 * (a + 1) + b) := by rw [show (10 : Int32) = nI 10 from rfl, pk_mul, nI_add]
        simp only [↓en59, ↓u59_0, ↓u59_1, ↓u59_4, ↓u59_5, ↓u59_6, ↓u59_11, ↓u59_9, ↓u59_12, ↓u59_10, ↓u59_15, ↓u59_16, ↓u59_17, ↓u59_18, ↓u59_25, ↓u59_21, ↓u59_27, ↓u59_22, ↓u59_28, ↓u59_31, ↓u59_29, ↓u59_30, ↓x_o, ↓hd, ↓hd2, ↓c_v_some, c1, c2, c3, c4, if_true, if_false, gX_tw]
      · rw [k4] at hd2 ⊢
        have c3 : ((-1 : Int32) = -1) = True := eq_true rfl
        simp only [↓en59, ↓u59_0, ↓u59_1, ↓u59_4, ↓u59_5, ↓u59_6, ↓u59_11, ↓u59_9, ↓u59_12, ↓u59_10, ↓u59_15, ↓u59_16, ↓u59_17, ↓u59_18, ↓u59_25, ↓u59_21, ↓u59_27, ↓u59_22, ↓u59_28, ↓u59_31, ↓u59_29, ↓u59_30, ↓x_o, ↓hd, ↓hd2, ↓c_v_some, c1, c2, c3, if_true, if_false]
  · rw [h4] at hd ⊢
    have c1 : ((-1 : Int32) ≤ 0) = True := by decide
    have c2 : ((0 : Int32) < -1) = False := by decide
    simp only [↓en59, ↓u59_0, ↓u59_1, ↓u59_4, ↓u59_5, ↓u59_6, ↓u59_11, ↓u59_9, ↓u59_12, ↓u59_10, ↓u59_15, ↓u59_16, ↓u59_17, ↓u59_18, ↓u59_25, ↓u59_21, ↓u59_27, ↓u59_22, ↓u59_28, ↓u59_31, ↓u59_29, ↓u59_30, ↓x_o, ↓hd, ↓c_v_some, c1, c2, if_true, if_false]
end
