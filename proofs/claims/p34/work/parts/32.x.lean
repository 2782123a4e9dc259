def anyB (p : Nat → Bool) : Nat → Bool
  | 0 => false
  | n + 1 => anyB p n || p n
theorem anyB_iff {p : Nat → Bool} : ∀ {n : Nat}, anyB p n = true ↔ ∃ k, k < n ∧ p k = true
  | 0 => by simp [anyB]
  | n + 1 => by
    unfold anyB
    rw [Bool.or_eq_true, anyB_iff]
    constructor
    · rintro (⟨k, h1, h2⟩ | h)
      · exact ⟨k, by omega, h2⟩
      · exact ⟨n, by omega, h⟩
    · rintro ⟨k, h1, h2⟩
      by_cases e : k = n
      · exact .inr (e ▸ h2)
      · exact .inl ⟨k, by omega, h2⟩
theorem ct_or {p q : Nat → Bool} : ∀ {n : Nat}, (∀ k, k < n → ¬ (p k = true ∧ q k = true)) → ct (fun k => p k || q k) n = ct p n + ct q n
  | 0, _ => rfl
  | n + 1, h => by
    have h1 := ct_or (p := p) (q := q) (n := n) (fun k hk => h k (by omega))
    have h2 := h n (by omega)
    unfold ct
    cases e1 : p n <;> cases e2 : q n <;> simp [e1, e2] at h2 ⊢ <;> omega
/-- counted by rows or by columns -/
theorem ct_swap {P : Nat → Nat → Bool} {M : Nat} : ∀ {N : Nat}, (∀ c c' m, c < N → c' < N → m < M → P c m = true → P c' m = true → c = c') → sm (fun c => ct (P c) M) N = ct (fun m => anyB (fun c => P c m) N) M
  | 0, _ => by
    rw [ct_zero]
    · rfl
    · exact fun k _ => rfl
  | N + 1, h => by
    have h1 := ct_swap (P := P) (M := M) (N := N) (fun c c' m h1 h2 => h c c' m (by omega) (by omega))
    have h2 : ct (fun m => anyB (fun c => P c m) (N + 1)) M = ct (fun m => anyB (fun c => P c m) N || P N m) M := rfl
    rw [h2, ct_or]
    · unfold sm
      rw [h1]
    · rintro k hk ⟨h3, h4⟩
      obtain ⟨c, h5, h6⟩ := anyB_iff.mp h3
      have := h c N k (by omega) (by omega) hk h6 h4
      omega
/-- the first for which it holds, as a number -/
def fdI (p : Nat → Bool) (i d : Nat) : Int32 := match (List.range' i d).find? p with
  | some r => nI r
  | none => -5
theorem fdI_succ {p : Nat → Bool} {i d : Nat} : fdI p i (d + 1) = if p i = true then nI i else fdI p (i + 1) d := by
  unfold fdI
  rw [List.range'_succ, List.find?_cons]
  cases p i <;> rfl
theorem fdI_n5 {p : Nat → Bool} {n : Nat} (hn : n < 2 ^ 31) : (fdI p 0 n = -5) = (anyB p n = false) := by
  unfold fdI
  cases e : (List.range' 0 n).find? p with
  | none =>
    rw [List.find?_eq_none] at e
    refine propext ⟨fun _ => ?_, fun _ => rfl⟩
    cases e2 : anyB p n
    · rfl
    · obtain ⟨k, h1, h2⟩ := anyB_iff.mp e2
      exact absurd h2 (e k (List.mem_range'_1.mpr (by omega)))
  | some r =>
    have h1 := List.find?_some e
    have h2 := List.mem_of_find?_eq_some e
    rw [List.mem_range'_1] at h2
    refine propext ⟨fun h => absurd h (nI_n5 (by omega)), fun h => ?_⟩
    rw [anyB_iff.mpr ⟨r, by omega, h1⟩] at h
    exact absurd h (by decide)
section
variable {sc : Nat × (Nat → Int32)} {g : SG} {s : SV} {Q : Option Value → ri_W → Prop}
theorem sl48 (hI : inv s) : slS s ≤ 48 ∧ 4 ≤ slS s := nDP hI.2.1
theorem sl_eq (hI : inv s) : s.1 0 * s.1 1 = nI (slS s) := nP_slots hI.2.1
theorem nC_eq (hI : inv s) : s.1 5 = nI (nC s) := hI.2.1.2.2.2.2.2.1
theorem nC20 (hI : inv s) : nC s ≤ 20 := hI.2.1.2.2.2.2.2.2
theorem nP_eq (hI : inv s) : s.1 1 = nI (nP s) := hI.2.1.2.1.1
theorem nP6 (hI : inv s) : nP s ≤ 6 := hI.2.1.2.1.2.2
theorem nD_eq (hI : inv s) : s.1 0 = nI (nD s) := hI.2.1.1.1
theorem nD8 (hI : inv s) : nD s ≤ 8 := hI.2.1.1.2.2
end
