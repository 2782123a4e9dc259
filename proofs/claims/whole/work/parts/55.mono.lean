/-! A STATE: a reason that stands goes on standing when one more lesson is put in -/
section
variable {s : SV} {c m r : Nat}
theorem reaS_iff {m' : Nat} : reaS s c m' = 0 ↔ (nI (plc s c) < fact s c 5 ∧ nI (ct (fun k => hC s c (m' / nP s * nP s + k)) (nP s)) < 2 ∧ hB s (fT s c) m' = false ∧ hT s (fT s c) m' = false ∧ nI (ct (fun k => hT s (fT s c) (m' / nP s * nP s + k)) (nP s)) < tf s (fT s c) 1 ∧ nI (pcn (s.2.2 4 (fT s c))) < tf s (fT s c) 0 ∧ busyS s c m' = false) := by
  unfold reaS
  by_cases a1 : nI (plc s c) < fact s c 5
  · by_cases a2 : nI (ct (fun k => hC s c (m' / nP s * nP s + k)) (nP s)) < 2
    · by_cases a5 : nI (ct (fun k => hT s (fT s c) (m' / nP s * nP s + k)) (nP s)) < tf s (fT s c) 1
      · by_cases a6 : nI (pcn (s.2.2 4 (fT s c))) < tf s (fT s c) 0
        · cases hB s (fT s c) m' <;> cases hT s (fT s c) m' <;> cases busyS s c m' <;> simp [a1, a2, a5, a6]
        · cases hB s (fT s c) m' <;> cases hT s (fT s c) m' <;> simp [a1, a2, a5, a6]
      · cases hB s (fT s c) m' <;> cases hT s (fT s c) m' <;> simp [a1, a2, a5]
    · simp [a1, a2]
  · simp [a1]
theorem lt_mono {a b : Nat} {x : Int32} (h : a ≤ b) (hb : b < 2 ^ 31) (hx : nI b < x) : nI a < x := Int32.lt_of_le_of_lt (nI_le h hb) hx
theorem fst_mono (hI : inv s) (hc : c < nC s) (hm : m < slS s) {m' r' : Nat} (hne : m' ≠ m) (h : fstS (setL s c m r true) c m' r' = 0) (hr6 : r < 6) : fstS s c m' r' = 0 := by
  have h48 := (sl48 hI).1
  have h6 := nP6 hI
  have hm6 : m < 64 := by omega
  unfold fstS at h ⊢
  by_cases e : reaS (setL s c m r true) c m' = 0
  · rw [if_pos e] at h
    obtain ⟨a1, a2, a3, a4, a5, a6, a7⟩ := reaS_iff.mp e
    rw [setL_fT] at a3 a4 a5 a6
    have hTm : ∀ k, hT s (fT s c) k = true → hT (setL s c m r true) (fT s c) k = true := fun k hk => by
      rw [setL_T hm6]
      split
      · rfl
      · exact hk
    have hCm : ∀ k, hC s c k = true → hC (setL s c m r true) c k = true := fun k hk => by
      rw [setL_C hm6]
      split
      · rfl
      · exact hk
    have hb : ∀ x, pcn x ≤ 64 := pcn_le
    have e2 : reaS s c m' = 0 := by
      refine reaS_iff.mpr ⟨?_, ?_, ?_, ?_, ?_, ?_, ?_⟩
      · rw [setL_fact] at a1
        refine lt_mono ?_ ?_ a1
        · exact ct_mono (fun k _ hk => hCm k hk)
        · have := hb ((setL s c m r true).2.2 3 c)
          unfold plc
          omega
      · rw [setL_nP] at a2
        refine lt_mono ?_ ?_ a2
        · exact ct_mono (fun k _ hk => hCm _ hk)
        · have := ct_le (fun k => hC (setL s c m r true) c (m' / nP s * nP s + k)) (nP s)
          omega
      · rw [setL_B hm6] at a3
        exact a3
      · rw [setL_T hm6, if_neg (fun e3 => hne e3.2)] at a4
        exact a4
      · rw [setL_nP] at a5
        have : tf (setL s c m r true) (fT s c) 1 = tf s (fT s c) 1 := by unfold tf; rw [setL_21]
        rw [this] at a5
        refine lt_mono ?_ ?_ a5
        · exact ct_mono (fun k _ hk => hTm _ hk)
        · have := ct_le (fun k => hT (setL s c m r true) (fT s c) (m' / nP s * nP s + k)) (nP s)
          omega
      · have : tf (setL s c m r true) (fT s c) 0 = tf s (fT s c) 0 := by unfold tf; rw [setL_21]
        rw [this] at a6
        refine lt_mono ?_ ?_ a6
        · exact ct_mono (fun k _ hk => hTm k hk)
        · have := hb ((setL s c m r true).2.2 4 (fT s c))
          omega
      · have : busyS (setL s c m r true) c m' = busyS s c m' := by
          unfold busyS busS
          rw [setL_fG, setL_fJ, setL_fact, setL_fact, setL_H hm6, setL_H hm6, setL_H hm6, setL_H hm6, if_neg (fun e3 => hne e3.2), if_neg (fun e3 => hne e3.2), if_neg (fun e3 => hne e3.2), if_neg (fun e3 => hne e3.2)]
        rw [this] at a7
        exact a7
    rw [if_pos e2]
    unfold rooS at h ⊢
    have hRR : hR (setL s c m r true) r' m' = hR s r' m' := by rw [setL_R hm6, if_neg (fun e3 => hne e3.2)]
    rw [hRR, setL_fact] at h
    have : re (setL s c m r true) r' = re s r' := by unfold re; rw [setL_21]
    rw [this] at h
    exact h
  · rw [if_neg e] at h
    exact absurd h e
theorem fst_same (hm6 : m < 64) {r' : Nat} : fstS (setL s c m r true) c m r' ≠ 0 := by
  intro h
  unfold fstS at h
  by_cases e : reaS (setL s c m r true) c m = 0
  · obtain ⟨-, -, -, a4, -⟩ := reaS_iff.mp e
    rw [setL_fT, setL_T hm6, if_pos ⟨rfl, rfl⟩] at a4
    exact absurd a4 (by decide)
  · rw [if_neg e] at h
    exact e h
theorem ct_add1 {p q : Nat → Bool} {a : Nat} : ∀ {n : Nat}, a < n → q a = true → p a = false → (∀ k, k < n → k ≠ a → q k = p k) → ct q n = ct p n + 1
  | 0, h, _, _, _ => absurd h (Nat.not_lt_zero _)
  | n + 1, h, h1, h2, h3 => by
    unfold ct
    by_cases e : n = a
    · subst e
      rw [ct_cong (p := q) (q := p) (fun k hk => h3 k (by omega) (by omega)), h1, h2]
      simp
    · rw [ct_add1 (a := a) (by omega) h1 h2 (fun k hk => h3 k (by omega)), h3 n (by omega) e]
      omega
theorem plc_in (hm6 : m < 64) (h : hC s c m = false) : plc (setL s c m r true) c = plc s c + 1 := by
  refine ct_add1 (a := m) hm6 ?_ h (fun k _ hk => ?_)
  · show hC (setL s c m r true) c m = true
    rw [setL_C hm6, if_pos ⟨rfl, rfl⟩]
  · show hC (setL s c m r true) c k = hC s c k
    rw [setL_C hm6, if_neg (fun e => hk e.2)]
theorem fst_hC (hI : inv s) (h : fstS s c m r = 0) : hC s c m = false := by
  unfold fstS at h
  by_cases e : reaS s c m = 0
  · obtain ⟨-, -, -, a4, -⟩ := reaS_iff.mp e
    cases e2 : hC s c m
    · rfl
    · have := (hI.2.2.2.2.1.2.2.2.1 (fT s c) m).mpr ⟨c, e2, rfl⟩
      rw [a4] at this
      exact absurd this (by decide)
  · rw [if_neg e] at h
    exact absurd h e
/-- the lowest room that is free, if any -/
def lowR (s : SV) (c m : Nat) : Option Nat := (List.range' 0 (nR s)).find? (fun r => decide (fstS s c m r = 0))
theorem lowR_some {r : Nat} (h : lowR s c m = some r) : r < nR s ∧ fstS s c m r = 0 ∧ ∀ r', r' < r → fstS s c m r' ≠ 0 := by
  unfold lowR at h
  have h1 := List.find?_some h
  have h2 := List.mem_of_find?_eq_some h
  rw [List.mem_range'_1] at h2
  refine ⟨by omega, by simpa using h1, fun r' hr' => ?_⟩
  obtain ⟨_, as, bs', hl, hn⟩ := List.find?_eq_some_iff_append.mp h
  have hlen : as.length = r := by
    have h3 : (List.range' 0 (nR s))[as.length]? = some r := by rw [hl]; simp
    rw [List.getElem?_range'] at h3
    · simp at h3
      omega
    · have : as.length < (List.range' 0 (nR s)).length := by rw [hl]; simp
      simpa using this
  have h4 : (List.range' 0 (nR s))[r']? = some r' := by
    rw [List.getElem?_range' (by omega)]
    simp
  rw [hl, List.getElem?_append_left (by omega)] at h4
  have := hn r' (List.mem_of_getElem? h4)
  simpa using this
theorem lowR_none (h : lowR s c m = none) : ∀ r, r < nR s → fstS s c m r ≠ 0 := fun r hr => by
  unfold lowR at h
  rw [List.find?_eq_none] at h
  simpa using h r (List.mem_range'_1.mpr (by omega))
theorem lowS_R : lowS s c m = (match lowR s c m with | some r => nI r | none => -5) := by
  unfold lowS lowR
  by_cases e : reaS s c m = 0
  · rw [if_pos e]
    have : (fun r => decide (fstS s c m r = 0)) = (fun r => decide (rooS s c m r = 0)) := by
      funext r
      unfold fstS
      rw [if_pos e]
    rw [this]
    cases (List.range' 0 (nR s)).find? (fun r => decide (rooS s c m r = 0)) <;> rfl
  · rw [if_neg e]
    have : (List.range' 0 (nR s)).find? (fun r => decide (fstS s c m r = 0)) = none := by
      rw [List.find?_eq_none]
      intro r _
      unfold fstS
      rw [if_neg e]
      simpa using e
    rw [this]
end
