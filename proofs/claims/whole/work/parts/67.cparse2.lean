section
variable {sc : Nat × (Nat → Int32)} {n : Nat} {x : Nat → Int32} {g : SG}
/-- the fault of a text, or that it has none, as a number with a given sign for none -/
theorem c_parse (hn : n ≤ 60) (e0 : g.2.2.1.1 0 = nI n) (ex : g.2.2.1.2 1 = x) : ∃ g', teq g g' ∧ match prs x n 60 0 with
    | .inr e => ∀ Q, ev sc 55 [.ref 149] (Wd g) Q = Q (some (.int (nI e))) (Wd g')
    | .inl l => g'.2.2.1.1 1 = nI l.length ∧ l.length ≤ 10 ∧ (∀ m a b d, l[m]? = some (a, b, d) → g'.2.2.1.2 0 (m * 3 + 0) = nI a ∧ g'.2.2.1.2 0 (m * 3 + 1) = nI b ∧ g'.2.2.1.2 0 (m * 3 + 2) = nI d) ∧ ∀ Q, ev sc 55 [.ref 149] (Wd g) Q = Q (some (.int (-1))) (Wd g') := by
  obtain ⟨g', h1, h2⟩ := c_parse_l (sc := sc) hn 60 0 (gX (gX g 2 0) 1 0) 0 (by omega) (by omega) (by omega) e0 rfl rfl ex
  have hr : ∀ Q, ev sc 55 [.ref 149] (Wd g) Q = rv sc 55 12 [(0, .ref 149), (1, .int (nI 0))] [] (Wd (gX (gX g 2 0) 1 0)) Q := fun Q => by
    simp only [↓en55, ↓u55_0, ↓u55_1, ↓u55_2, ↓u55_5, ↓u55_6, ↓u55_7, ↓u55_10, ↓u55_11, ↓u55_13, ↓u55_15, ↓u55_124, ↓u55_18, ↓u55_125, ↓u55_19, ↓u55_128, ↓u55_22, ↓u55_23, ↓u55_24, ↓u55_25, ↓u55_37, ↓u55_28, ↓u55_38, ↓u55_29, ↓u55_41, ↓u55_31, ↓u55_34, ↓u55_42, ↓u55_43, ↓u55_46, ↓u55_47, ↓u55_48, ↓u55_49, ↓u55_61, ↓u55_52, ↓u55_62, ↓u55_53, ↓u55_65, ↓u55_55, ↓u55_58, ↓u55_66, ↓u55_67, ↓u55_70, ↓u55_72, ↓u55_74, ↓u55_75, ↓u55_83, ↓u55_78, ↓u55_84, ↓u55_79, ↓u55_85, ↓u55_82, ↓u55_86, ↓u55_88, ↓u55_91, ↓u55_92, ↓u55_95, ↓u55_96, ↓u55_99, ↓u55_104, ↓u55_102, ↓u55_105, ↓u55_103, ↓u55_107, ↓u55_110, ↓u55_118, ↓u55_113, ↓u55_121, ↓u55_114, ↓u55_117, ↓xp4, ↓xp1]
    rfl
  refine ⟨g', ⟨h1.1, h1.2.1, h1.2.2.1, h1.2.2.2.1, h1.2.2.2.2⟩, ?_⟩
  cases e : prs x n 60 0 with
  | inr e' =>
    rw [e] at h2
    exact fun Q => (hr Q).trans (h2 Q)
  | inl l =>
    rw [e] at h2
    obtain ⟨u1, u2, u3, u4, u5⟩ := h2
    refine ⟨by rw [u1, Nat.zero_add], by omega, fun m a b d hm => ?_, fun Q => (hr Q).trans (u5 Q)⟩
    have := u4 m a b d hm
    rw [Nat.zero_add] at this
    exact this
end
