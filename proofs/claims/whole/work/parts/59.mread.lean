/-! TEXTS: how the plain form reads -/
section
variable {sc : Nat × (Nat → Int32)} {g : SG} {n p : Nat} {x : Nat → Int32} {Q : Option Value → ri_W → Prop}
theorem gD_s {i : Nat} {v : Int32} (e : g.2.2.2.1 i = v) : gD g i v = g := by
  unfold gD
  have : upF g.2.2.2.1 i v = g.2.2.2.1 := by
    funext q
    unfold upF
    split
    · rename_i h
      rw [h, e]
    · rfl
  rw [this]
theorem m_isHere (hn : n ≤ 60) (hp : p ≤ n) (e0 : g.2.2.2.1 2 = nI n) (e2 : g.2.2.2.1 3 = nI p) (ex : g.2.2.2.2 2 = x) {a b : Int32} : ev sc 154 [.ref 154, .int a, .int b] (Wd g) Q = Q (some (.int (if p < n then ii (x p) a b else 0))) (Wd g) := by
  by_cases hpn : p < n
  · have c1 : ¬ nI n ≤ nI p := nI_ge hpn (by omega)
    have c2 : nI p < nI n := nI_lt hpn (by omega)
    simp only [↓en154, ↓u154_0, ↓u154_1, ↓u154_4, ↓u154_5, ↓u154_8, ↓u154_32, ↓u154_11, ↓u154_33, ↓u154_12, ↓u154_15, ↓u154_16, ↓u154_19, ↓u154_20, ↓u154_21, ↓u154_22, ↓u154_25, ↓u154_28, ↓u154_29, ↓df4, ↓df5, ↓df6, e0, e2, c1, c2, if_true, if_false, ↓dI2, ex, nAt (show p < 60 by omega) (by decide), nI_clamp (show p < 2 ^ 31 by omega), m_isIn, ↓c_v_some, ↓c_b_0, ↓c_b_1, if_pos hpn]
    rcases ii01 (v := x p) (a := a) (b := b) with h | h <;> simp [h]
  · have c1 : nI n ≤ nI p := nI_le (by omega) (by omega)
    have c2 : ¬ nI p < nI n := nI_nlt (by omega) (by omega)
    simp only [↓en154, ↓u154_0, ↓u154_1, ↓u154_4, ↓u154_5, ↓u154_8, ↓u154_32, ↓u154_11, ↓u154_33, ↓u154_12, ↓u154_15, ↓u154_16, ↓u154_19, ↓u154_20, ↓u154_21, ↓u154_22, ↓u154_25, ↓u154_28, ↓u154_29, ↓df5, ↓df6, e0, e2, c1, c2, if_true, if_false, ↓c_b_0, if_neg hpn]
theorem ii_cc {v c : Int32} : ii v c c = (if v = c then 1 else 0) := by
  unfold ii
  by_cases e : v = c
  · subst e
    rw [if_neg Int32.lt_irrefl, if_neg Int32.lt_irrefl, if_pos rfl]
  · rw [if_neg e]
    by_cases h1 : v < c
    · rw [if_pos h1]
    · have : c < v := by
        rcases Int32.lt_or_lt_of_ne e with h | h
        · exact absurd h h1
        · exact h
      rw [if_neg h1, if_pos this]
theorem m_passesSign (hn : n ≤ 60) (hp : p ≤ n) (e0 : g.2.2.2.1 2 = nI n) (e2 : g.2.2.2.1 3 = nI p) (ex : g.2.2.2.2 2 = x) {c : Int32} : ev sc 155 [.ref 154, .int c] (Wd g) Q = (if tsg x n p c = true then Q (some (.int 1)) (Wd (gD g 3 (nI (p + 1)))) else Q (some (.int 0)) (Wd g)) := by
  have hs : gD g 3 (nI p) = g := gD_s e2
  simp only [↓en155, ↓u155_0, ↓u155_1, ↓u155_2, ↓u155_3, ↓u155_6, ↓u155_7, ↓u155_8, ↓u155_9, ↓u155_12, ↓u155_13, ↓u155_20, ↓u155_16, ↓u155_21, ↓u155_17, ↓u155_22, ↓u155_25, ↓u155_26, ↓d_o, ↓m_isHere hn hp e0 e2 ex, ↓c_v_some, ii_cc, ↓df6, e2]
  unfold tsg
  by_cases hpn : p < n
  · by_cases e : x p = c
    · simp only [e, hpn, if_true, n10, if_false, dp6, nI_1, ↓c_b_1, decide_true, Bool.and_self]
    · simp only [e, hpn, if_true, n00, if_false, dp6, add0, hs, ↓c_b_0, decide_true, decide_false, Bool.and_false, Bool.false_eq_true]
  · simp only [hpn, n00, if_true, if_false, dp6, add0, hs, ↓c_b_0, decide_false, Bool.false_and, Bool.false_eq_true]
theorem ii_dig {v : Int32} : (∃ d, d < 10 ∧ v = nI (d + 48) ∧ ii v 48 57 = 1) ∨ ((∀ d, d < 10 → v ≠ nI (d + 48)) ∧ ii v 48 57 = 0) := by
  rcases iiR (x := v) (A := 48) (B := 57) (a := 48) (b := 57) rfl rfl (by decide) with ⟨k, k1, k2, rfl, k3⟩ | k3
  · exact .inl ⟨k - 48, by omega, by rw [show k - 48 + 48 = k by omega], k3⟩
  · refine .inr ⟨fun d hd e => ?_, k3⟩
    rw [e] at k3
    have : ii (nI (d + 48)) 48 57 = 1 := by
      have c1 : ¬ nI (d + 48) < 48 := nI_nlt (a := d + 48) (b := 48) (by omega) (by omega)
      have c2 : ¬ 57 < nI (d + 48) := nI_nlt (a := 57) (b := d + 48) (by omega) (by decide)
      unfold ii
      rw [if_neg c1, if_neg c2]
    rw [this] at k3
    exact absurd k3 (by decide)
theorem m_digit (hn : n ≤ 60) (hp : p ≤ n) (e0 : g.2.2.2.1 2 = nI n) (e2 : g.2.2.2.1 3 = nI p) (ex : g.2.2.2.2 2 = x) : ev sc 154 [.ref 154, .int 48, .int 57] (Wd g) Q = Q (some (.int (match tdg x n p with | some _ => 1 | none => 0))) (Wd g) := by
  rw [m_isHere hn hp e0 e2 ex]
  rcases @tdg_c x n p with ⟨d, h1, h2, h3, h4⟩ | ⟨h3, h4⟩
  · rw [h4, if_pos h1]
    rcases ii_dig (v := x p) with ⟨_, _, _, h⟩ | ⟨h, _⟩
    · rw [h]
    · exact absurd h3 (h d h2)
  · rw [h4]
    by_cases hpn : p < n
    · rw [if_pos hpn]
      rcases ii_dig (v := x p) with ⟨d, h1, h2, _⟩ | ⟨_, h⟩
      · exact absurd h2 (h3 hpn d h1)
      · rw [h]
    · rw [if_neg hpn]
theorem i48 {d : Nat} : nI (d + 48) - 48 = nI d := by
  rw [show (48 : Int32) = nI 48 from rfl, nI_sub (by omega)]
  congr 1
theorem m_num1 (hn : n ≤ 60) (hp : p ≤ n) (e0 : g.2.2.2.1 2 = nI n) (e2 : g.2.2.2.1 3 = nI p) (ex : g.2.2.2.2 2 = x) : ev sc 156 [.ref 154, .int 1] (Wd g) Q = (match tdg x n p with
    | some d => Q (some (.int 1)) (Wd (gD (gD g 3 (nI (p + 1))) 4 (nI d)))
    | none => Q (some (.int 0)) (Wd g)) := by
  have hd := fun Q => m_digit (sc := sc) (Q := Q) hn hp e0 e2 ex
  rcases @tdg_c x n p with ⟨d, h1, h2, h3, h4⟩ | ⟨h3, h4⟩
  · rw [h4] at hd ⊢
    have c1 : ((1 : Int32) ≤ 1) = True := by decide
    have c2 : ((1 : Int32) < 1) = False := by decide
    simp only [↓en156, ↓u156_0, ↓u156_1, ↓u156_3, ↓u156_5, ↓u156_8, ↓u156_13, ↓u156_11, ↓u156_14, ↓u156_12, ↓u156_17, ↓u156_18, ↓u156_21, ↓u156_22, ↓u156_24, ↓u156_25, ↓u156_26, ↓u156_27, ↓u156_28, ↓u156_31, ↓u156_32, ↓u156_33, ↓u156_36, ↓u156_37, ↓u156_39, ↓u156_40, ↓u156_92, ↓u156_43, ↓u156_93, ↓u156_44, ↓u156_94, ↓u156_47, ↓u156_97, ↓u156_48, ↓u156_98, ↓u156_50, ↓u156_52, ↓u156_55, ↓u156_58, ↓u156_60, ↓u156_61, ↓u156_62, ↓u156_63, ↓u156_66, ↓u156_67, ↓u156_70, ↓u156_71, ↓u156_72, ↓u156_74, ↓u156_75, ↓u156_76, ↓u156_77, ↓u156_78, ↓u156_81, ↓u156_82, ↓u156_83, ↓u156_86, ↓u156_89, ↓u156_38, ↓d_o, ↓hd, ↓c_v_some, n10, if_false, ↓df4, ↓df6, ↓dI2, e2, ex, nAt (show p < 60 by omega) (by decide), nI_clamp (show p < 2 ^ 31 by omega), if_true, h3, i48, dp6, nI_1, c1, c2, dp7, ↓c_b_1]
  · rw [h4] at hd ⊢
    simp only [↓en156, ↓u156_0, ↓u156_1, ↓u156_3, ↓u156_5, ↓u156_8, ↓u156_13, ↓u156_11, ↓u156_14, ↓u156_12, ↓u156_17, ↓u156_18, ↓u156_21, ↓u156_22, ↓u156_24, ↓u156_25, ↓u156_26, ↓u156_27, ↓u156_28, ↓u156_31, ↓u156_32, ↓u156_33, ↓u156_36, ↓u156_37, ↓u156_39, ↓u156_40, ↓u156_92, ↓u156_43, ↓u156_93, ↓u156_44, ↓u156_94, ↓u156_47, ↓u156_97, ↓u156_48, ↓u156_98, ↓u156_50, ↓u156_52, ↓u156_55, ↓u156_58, ↓u156_60, ↓u156_61, ↓u156_62, ↓u156_63, ↓u156_66, ↓u156_67, ↓u156_70, ↓u156_71, ↓u156_72, ↓u156_74, ↓u156_75, ↓u156_76, ↓u156_77, ↓u156_78, ↓u156_81, ↓u156_82, ↓u156_83, ↓u156_86, ↓u156_89, ↓d_o, ↓hd, ↓c_v_some, n00, if_true, ↓c_b_0]
end
