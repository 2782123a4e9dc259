section
variable {s : SV} {c m r : Nat}
theorem reaS_iff {m' : Nat} : reaS s c m' = 0 ↔ (nI (plc s c) < fact s c 5 ∧ nI (ct (fun k => hC s c (m' / nP s * nP s + k)) (nP s)) < 2 ∧ hB s (fT s c) m' = false ∧ hT s (fT s c) m' = false ∧ nI (ct (fun k => hT s (fT s c) (m' / nP s * nP s + k)) (nP s)) < tf s (fT s c) 1 ∧ nI (pcn (s.2.2 4 (fT s c))) < tf s (fT s c) 0 ∧ busyS s c m' = false) := by
  unfold reaS
  by_cases a1 : nI (plc s c) < fact s c 5
  · by_cases a2 : nI (ct (fun k => hC s c (m' / nP s * nP s + k)) (nP s)) < 2
    · by_cases a5 : nI (ct (fun k => hT s (fT s c) (m' / nP s * nP s + k)) (nP s)) < tf s (fT s c) 1
      · by_cases a6 : nI (pcn (s.2.2 4 (fT s c))) < tf s (fT s c) 0
        · cases hB s (fT s c) m' <;> cases hT s (fT s c) m' <;> cases busyS s c m' <;> simp [a1, a2, a5, a6]
        · cases hB s (fT s c) m' <;> cases hT s (fT s c) m' <;> simp [a1, a2, a5, a6]
      · cases hB s (fT s c) m' <;> cases hT s (fT s c) m' <;> simp [a1, a2, a5]
    · simp [a1, a2]
  · simp [a1]
theorem ct_add1 {p q : Nat → Bool} {a : Nat} : ∀ {n : Nat}, a < n → q a = true → p a = false → (∀ k, k < n → k ≠ a → q k = p k) → ct q n = ct p n + 1
  | 0, h, _, _, _ => absurd h (Nat.not_lt_zero _)
  | n + 1, h, h1, h2, h3 => by
    unfold ct
    by_cases e : n = a
    · subst e
      rw [ct_cong (p := q) (q := p) (fun k hk => h3 k (by omega) (by omega)), h1, h2]
      simp
    · rw [ct_add1 (a := a) (by omega) h1 h2 (fun k hk => h3 k (by omega)), h3 n (by omega) e]
      omega
theorem plc_in (hm6 : m < 64) (h : hC s c m = false) : plc (setL s c m r true) c = plc s c + 1 := by
  refine ct_add1 (a := m) hm6 ?_ h (fun k _ hk => ?_)
  · show hC (setL s c m r true) c m = true
    rw [setL_C hm6, if_pos ⟨rfl, rfl⟩]
  · show hC (setL s c m r true) c k = hC s c k
    rw [setL_C hm6, if_neg (fun e => hk e.2)]
theorem fst_hC (hI : inv s) (h : fstS s c m r = 0) : hC s c m = false := by
  unfold fstS at h
  by_cases e : reaS s c m = 0
  · obtain ⟨-, -, -, a4, -⟩ := reaS_iff.mp e
    cases e2 : hC s c m
    · rfl
    · have := (hI.2.2.2.2.1.2.2.2.1 (fT s c) m).mpr ⟨c, e2, rfl⟩
      rw [a4] at this
      exact absurd this (by decide)
  · rw [if_neg e] at h
    exact absurd h e
/-- the lowest room that is free, if any -/
def lowR (s : SV) (c m : Nat) : Option Nat := (List.range' 0 (nR s)).find? (fun r => decide (fstS s c m r = 0))
theorem lowR_some {r : Nat} (h : lowR s c m = some r) : r < nR s ∧ fstS s c m r = 0 ∧ ∀ r', r' < r → fstS s c m r' ≠ 0 := by
  unfold lowR at h
  have h1 := List.find?_some h
  have h2 := List.mem_of_find?_eq_some h
  rw [List.mem_range'_1] at h2
  refine ⟨by omega, by simpa using h1, fun r' hr' => ?_⟩
  obtain ⟨_, as, bs', hl, hn⟩ := List.find?_eq_some_iff_append.mp h
  have hlen : as.length = r := by
    have h3 : (List.range' 0 (nR s))[as.length]? = some r := by rw [hl]; simp
    rw [List.getElem?_range'] at h3
    · simp at h3
      omega
    · have : as.length < (List.range' 0 (nR s)).length := by rw [hl]; simp
      simpa using this
  have h4 : (List.range' 0 (nR s))[r']? = some r' := by
    rw [List.getElem?_range' (by omega)]
    simp
  rw [hl, List.getElem?_append_left (by omega)] at h4
  have := hn r' (List.mem_of_getElem? h4)
  simpa using this
theorem lowS_R : lowS s c m = (match lowR s c m with | some r => nI r | none => -5) := by
  unfold lowS lowR
  by_cases e : reaS s c m = 0
  · rw [if_pos e]
    have : (fun r => decide (fstS s c m r = 0)) = (fun r => decide (rooS s c m r = 0)) := by
      funext r
      unfold fstS
      rw [if_pos e]
    rw [this]
    cases (List.range' 0 (nR s)).find? (fun r => decide (rooS s c m r = 0)) <;> rfl
  · rw [if_neg e]
    have : (List.range' 0 (nR s)).find? (fun r => decide (fstS s c m r = 0)) = none := by
      rw [List.find?_eq_none]
      intro r _
      unfold fstS
      rw [if_neg e]
      simpa using e
    rw [this]
end
