/-! ONE CALL OF THE CLASS: what it answers and leaves follows from its state alone -/
def Rw (g : SG) (fs n : Nat) : Prop := (∀ j, j < 7 → nf (g.1 j)) ∧ fs < 4 ∧ n ≤ 4 ∧ g.2.1 1 = nI fs ∧ g.2.1 2 = nI n
/-- the most lessons of a teacher, and the equipment of rooms -/
def iM (s : SV) : Prop := ∀ t, t < nT s → ∃ a b, tf s t 0 = nI a ∧ tf s t 1 = nI b ∧ a ≤ 40 ∧ b ≤ 6 ∧ pcn (s.2.2 4 t) ≤ a ∧ ∀ d, ct (fun k => hT s t (d * nP s + k)) (nP s) ≤ b
def iE (s : SV) : Prop := ∀ c r m, r < 6 → hX s c r m = true → fact s c 4 &&& (re s r ^^^ -1) = 0
def inv2 (s : SV) : Prop := inv s ∧ iM s ∧ iE s
def res (g : SG) (fs n : Nat) (t : SV) : Option SV → SG
  | none => stS g 1 t
  | some s' => stS (remG (stS g 1 t) fs n) 0 s'
def okr (u : Int32) : Option SV → Prop
  | none => u < 0
  | some s' => ¬ u < 0 ∧ inv2 s'
def Stq (sc : Nat × (Nat → Int32)) (y : Nat) (as : List Value) (s : SV) : Prop := ∃ u o, okr u o ∧ ∀ g fs n, Rw g fs n → g.1 0 = s → ∃ t, nf t ∧ ∀ Q, ev sc y as (Wd g) Q = Q (some (.int u)) (Wd (res g fs n t o))

theorem res_self {g : SG} {fs n : Nat} {s' : SV} : res g fs n (g.1 1) (some s') = stS (remG g fs n) 0 s' := by
  show stS (remG (stS g 1 (g.1 1)) fs n) 0 s' = _
  rw [stS_self]
section
variable {sc : Nat × (Nat → Int32)} {g : SG} {fs n y : Nat} {as : List Value} {s s' t : SV} {u : Int32} {Q : Option Value → ri_W → Prop}
theorem stp_q (hu : u < 0) (h : ∀ g fs n, Rw g fs n → g.1 0 = s → ∀ Q, ev sc y as (Wd g) Q = Q (some (.int u)) (Wd g)) : Stq sc y as s := ⟨u, none, hu, fun g fs n hw e => ⟨g.1 1, hw.1 1 (by decide), fun Q => by rw [h g fs n hw e]; show _ = Q _ (Wd (stS g 1 (g.1 1))); rw [stS_self]⟩⟩
theorem stp_qt (hu : u < 0) (ht : nf t) (h : ∀ g fs n, Rw g fs n → g.1 0 = s → ∀ Q, ev sc y as (Wd g) Q = Q (some (.int u)) (Wd (stS g 1 t))) : Stq sc y as s := ⟨u, none, hu, fun g fs n hw e => ⟨t, ht, h g fs n hw e⟩⟩
theorem stp_a (hu : ¬ u < 0) (hi : inv2 s') (h : ∀ g fs n, Rw g fs n → g.1 0 = s → ∀ Q, ev sc y as (Wd g) Q = Q (some (.int u)) (Wd (stS (remG g fs n) 0 s'))) : Stq sc y as s := ⟨u, some s', ⟨hu, hi⟩, fun g fs n hw e => ⟨g.1 1, hw.1 1 (by decide), fun Q => by rw [h g fs n hw e, res_self]⟩⟩
theorem stp_at (hu : ¬ u < 0) (hi : inv2 s') (h : ∀ g fs n, Rw g fs n → g.1 0 = s → ∀ Q, ev sc y as (Wd g) Q = Q (some (.int u)) (Wd (stS (remG (stS g 1 s') fs n) 0 s'))) : Stq sc y as s := ⟨u, some s', ⟨hu, hi⟩, fun g fs n hw e => ⟨s', hi.1.1, h g fs n hw e⟩⟩
/-- a method of the law that is one call -/
theorem stp_call {z : Nat} {bs' : List Value} (h : Stq sc z bs' s) (hc : ∀ g fs n u, Rw g fs n → g.1 0 = s → ∀ g' : SG, (∀ Q, ev sc z bs' (Wd g) Q = Q (some (.int u)) (Wd g')) → ∀ Q, ev sc y as (Wd g) Q = Q (some (.int u)) (Wd g')) : Stq sc y as s := by
  obtain ⟨u, o, h1, h2⟩ := h
  refine ⟨u, o, h1, fun g fs n hw e => ?_⟩
  obtain ⟨t, ht, h3⟩ := h2 g fs n hw e
  exact ⟨t, ht, hc g fs n u hw e _ h3⟩
theorem Rw_trial (h : Rw g fs n) (ht : nf t) : Rw (stS g 1 t) fs n := ⟨fun j hj => by
  by_cases e : j = 1
  · subst e
    rw [stS_at]
    exact ht
  · rw [stS_ne e]
    exact h.1 j hj, h.2⟩
theorem Rw_rem (h : Rw g fs n) (hs : nf s') : Rw (stS (remG g fs n) 0 s') (fs1 fs n) (recN n + 1) := by
  obtain ⟨a1, h1, h2, h3, h4⟩ := h
  have hsl := @slot_lt (fs1 fs n) (recN n)
  refine ⟨fun j hj => ?_, ?_, ?_, rfl, rfl⟩
  · by_cases e : j = 0
    · subst e
      rw [stS_at]
      exact hs
    · rw [stS_ne e]
      show nf ((stS g (slot (fs1 fs n) (recN n)) (g.1 0)).1 j)
      by_cases e2 : j = slot (fs1 fs n) (recN n)
      · subst e2
        rw [stS_at]
        exact a1 0 (by decide)
      · rw [stS_ne e2]
        exact a1 j hj
  · unfold fs1
    split
    · exact Nat.mod_lt _ (by decide)
    · exact h1
  · unfold recN
    split <;> omega
theorem c_rem (h : Rw g fs n) : ev sc 84 [.ref 0] (Wd g) Q = Q none (Wd (remG g fs n)) := c_remember h.1 h.2.1 h.2.2.1 h.2.2.2.1 h.2.2.2.2
theorem remG_0 : (remG g fs n).1 0 = g.1 0 := stS_ne (by have := @slot_lt (fs1 fs n) (recN n); omega)
theorem c_adopt (h : Rw g fs n) : ev sc 85 [.ref 0] (Wd g) Q = Q none (Wd (stS (remG g fs n) 0 (g.1 1))) := by
  have hsl := @slot_lt (fs1 fs n) (recN n)
  have e1 : (remG g fs n).1 1 = g.1 1 := stS_ne (by omega)
  have hc := fun Q => s_copyFrom (sc := sc) (Q := Q) (g := remG g fs n) (j := 0) (i := 1) z7 (by decide) (by decide) (by rw [e1]; exact h.1 1 (by decide)) (by rw [remG_0]; exact h.1 0 z7)
  rw [e1] at hc
  simp only [↓en85, ↓u85_0, ↓u85_1, ↓u85_4, ↓u85_5, ↓u85_8, ↓u85_9, ↓u85_12, ↓u85_15, ↓m_o, ↓c_rem h, ↓c_v_none, ↓nf0, ↓nf1, ↓s_o z7, ↓hc]
theorem nI_nn {k : Nat} (h : k < 2 ^ 31) : ¬ nI k < 0 := nI_pos h
end
