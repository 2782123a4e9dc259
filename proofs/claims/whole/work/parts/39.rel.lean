/-! THE TWO AGREE: the relation, and that a step of both keeps it -/
def Rh (g : SG) (fs n : Nat) : Prop := fs < 4 ∧ n ≤ 4 ∧ g.2.1 1 = nI fs ∧ g.2.1 2 = nI n ∧ g.2.2.2.1 0 = nI n ∧ ∀ i, i < n → inv (g.1 (slot fs i)) ∧ ∀ k, k < 1892 → g.2.2.2.2 1 (i * 1892 + k) = mdl (g.1 (slot fs i)) k
def Rs (g : SG) : Prop := ∃ b, g.2.1 0 = bI b ∧ g.2.2.2.1 1 = bI b ∧ (b = true → inv (g.1 2) ∧ ∀ k, k < 1892 → g.2.2.2.2 1 (7568 + k) = mdl (g.1 2) k)
def Rt (g : SG) : Prop := (∃ n, n ≤ 60 ∧ g.2.2.1.1 0 = nI n ∧ g.2.2.2.1 2 = nI n) ∧ g.2.2.1.2 1 = g.2.2.2.2 2
def R (g : SG) : Prop := (∀ j, j < 7 → nf (g.1 j)) ∧ inv (g.1 0) ∧ g.2.2.2.2 0 = mdl (g.1 0) ∧ (∃ fs n, Rh g fs n) ∧ Rs g ∧ Rt g
theorem segW_in {f h : Nat → Int32} {a n q : Nat} (h1 : q < n) : segW f a n h (a + q) = h q := by
  unfold segW
  rw [if_pos (by omega), Nat.add_sub_cancel_left]
theorem segW_out {f h : Nat → Int32} {a n q : Nat} (h1 : q < a ∨ a + n ≤ q) : segW f a n h q = f q := by
  unfold segW
  rw [if_neg (by omega)]
/-- the world after both have remembered their states and have new ones -/
def fin (g : SG) (fs n : Nat) (K : Nat → Int32) (s : SV) : SG := gDN (gD (gDN (stS (remG g fs n) 0 s) 1 (recK K n)) 0 (nI (recN n + 1))) 0 (mdl s)
section
variable {g : SG} {fs n : Nat}
theorem fin_0 {K : Nat → Int32} {s : SV} : (fin g fs n K s).1 0 = s := by
  show (stS (remG g fs n) 0 s).1 0 = s
  exact stS_at
theorem fin_j {K : Nat → Int32} {s : SV} {j : Nat} (h : j ≠ 0) : (fin g fs n K s).1 j = if j = slot (fs1 fs n) (recN n) then g.1 0 else g.1 j := if_neg h
theorem R_fin (h : R g) (hh : Rh g fs n) {K : Nat → Int32} {s : SV} (hs : inv s) (k1 : ∀ q, q < 9460 → K q = g.2.2.2.2 1 q) (k2 : ∀ k, k < 1892 → K (9460 + k) = mdl (g.1 0) k) : R (fin g fs n K s) := by
  obtain ⟨a1, a2, a3, -, a5, a6⟩ := h
  obtain ⟨h1, h2, h3, h4, h5, h6⟩ := hh
  have hrn : recN n ≤ 3 ∧ (n = 4 → recN n = 3) ∧ (n ≠ 4 → recN n = n) := by
    unfold recN
    split <;> omega
  have hf4 : fs1 fs n < 4 := by
    unfold fs1
    split
    · exact Nat.mod_lt _ (by decide)
    · exact h1
  have hsl := @slot_lt (fs1 fs n) (recN n)
  refine ⟨?_, ?_, ?_, ⟨fs1 fs n, recN n + 1, hf4, by omega, rfl, rfl, rfl, ?_⟩, ?_, ?_⟩
  · intro j hj
    by_cases e : j = 0
    · subst e
      rw [fin_0]
      exact hs.1
    · rw [fin_j e]
      split
      · exact a1 0 (by decide)
      · exact a1 j hj
  · rw [fin_0]
    exact hs
  · rw [fin_0]
    rfl
  · intro i hi
    have hsi := @slot_lt (fs1 fs n) i
    have hk : (fin g fs n K s).2.2.2.2 1 = recK K n := rfl
    rw [hk, fin_j (by omega)]
    by_cases e : i = recN n
    · subst e
      rw [if_pos rfl]
      refine ⟨a2, fun k hk' => ?_⟩
      unfold recK
      rw [segW_in hk']
      exact k2 k hk'
    · have hne : slot (fs1 fs n) i ≠ slot (fs1 fs n) (recN n) := by
        unfold slot
        omega
      rw [if_neg hne]
      by_cases e4 : n = 4
      · have hss : slot (fs1 fs n) i = slot fs (i + 1) := by
          unfold slot fs1
          rw [if_pos e4]
          omega
        rw [hss]
        obtain ⟨h7, h8⟩ := h6 (i + 1) (by omega)
        refine ⟨h7, fun k hk' => ?_⟩
        unfold recK recS
        rw [segW_out (by omega), if_pos e4]
        have := segW_in (f := K) (h := fun k => K (k + 1892)) (a := 0) (n := 5676) (q := i * 1892 + k) (by omega)
        rw [Nat.zero_add] at this
        rw [this, ← h8 k hk']
        show K (i * 1892 + k + 1892) = _
        rw [k1 _ (by omega), show i * 1892 + k + 1892 = (i + 1) * 1892 + k by omega]
      · have hss : slot (fs1 fs n) i = slot fs i := by
          unfold fs1
          rw [if_neg e4]
        rw [hss]
        obtain ⟨h7, h8⟩ := h6 i (by omega)
        refine ⟨h7, fun k hk' => ?_⟩
        unfold recK recS
        rw [segW_out (by omega), if_neg e4, k1 _ (by omega)]
        exact h8 k hk'
  · obtain ⟨b, b1, b2, b3⟩ := a5
    refine ⟨b, b1, b2, fun hb => ?_⟩
    obtain ⟨b4, b5⟩ := b3 hb
    have hk : (fin g fs n K s).2.2.2.2 1 = recK K n := rfl
    rw [fin_j (by decide), if_neg (by omega), hk]
    refine ⟨b4, fun k hk' => ?_⟩
    rw [← b5 k hk', ← k1 _ (by omega)]
    unfold recK recS
    rw [segW_out (by omega)]
    split
    · rw [segW_out (by omega)]
    · rfl
  · exact a6
theorem R_trial (h : R g) {t : SV} (ht : nf t) : R (stS g 1 t) := by
  obtain ⟨a1, a2, a3, ⟨fs, n, h1, h2, h3, h4, h5, h6⟩, ⟨b, b1, b2, b3⟩, a6⟩ := h
  refine ⟨?_, a2, a3, ⟨fs, n, h1, h2, h3, h4, h5, ?_⟩, ⟨b, b1, b2, b3⟩, a6⟩
  · intro j hj
    by_cases e : j = 1
    · subst e
      rw [stS_at]
      exact ht
    · rw [stS_ne e]
      exact a1 j hj
  · intro i hi
    have := @slot_lt fs i
    rw [stS_ne (by omega)]
    exact h6 i hi
theorem Rh_trial (h : Rh g fs n) {t : SV} : Rh (stS g 1 t) fs n := by
  obtain ⟨h1, h2, h3, h4, h5, h6⟩ := h
  refine ⟨h1, h2, h3, h4, h5, fun i hi => ?_⟩
  have := @slot_lt fs i
  rw [stS_ne (by omega)]
  exact h6 i hi
theorem R_k5 (h : R g) {K : Nat → Int32} (hK : ∀ q, q < 9460 → K q = g.2.2.2.2 1 q) : R (gDN g 1 K) := by
  obtain ⟨a1, a2, a3, ⟨fs, n, h1, h2, h3, h4, h5, h6⟩, ⟨b, b1, b2, b3⟩, a6⟩ := h
  refine ⟨a1, a2, a3, ⟨fs, n, h1, h2, h3, h4, h5, fun i hi => ⟨(h6 i hi).1, fun k hk => ?_⟩⟩, ⟨b, b1, b2, fun hb => ⟨(b3 hb).1, fun k hk => ?_⟩⟩, a6⟩
  · rw [gDN_at, hK _ (by omega)]
    exact (h6 i hi).2 k hk
  · rw [gDN_at, hK _ (by omega)]
    exact (b3 hb).2 k hk
end
/-- both answer the same, and agree again -/
def both (sc : Nat × (Nat → Int32)) (y1 y2 : Nat) (as : List Value) (g : SG) : Prop := ∃ (v : Int32) (gm g' : SG), (∀ Q, ev sc y1 (.ref 0 :: as) (Wd g) Q = Q (some (.int v)) (Wd gm)) ∧ (∀ Q, ev sc y2 (.ref 154 :: as) (Wd gm) Q = Q (some (.int v)) (Wd g')) ∧ R g'
