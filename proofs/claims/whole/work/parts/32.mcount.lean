/-! THE PLAIN FORM: what it counts -/
def anyB (p : Nat → Bool) : Nat → Bool
  | 0 => false
  | n + 1 => anyB p n || p n
theorem anyB_iff {p : Nat → Bool} : ∀ {n : Nat}, anyB p n = true ↔ ∃ k, k < n ∧ p k = true
  | 0 => by simp [anyB]
  | n + 1 => by
    unfold anyB
    rw [Bool.or_eq_true, anyB_iff]
    constructor
    · rintro (⟨k, h1, h2⟩ | h)
      · exact ⟨k, by omega, h2⟩
      · exact ⟨n, by omega, h⟩
    · rintro ⟨k, h1, h2⟩
      by_cases e : k = n
      · exact .inr (e ▸ h2)
      · exact .inl ⟨k, by omega, h2⟩
theorem ct_or {p q : Nat → Bool} : ∀ {n : Nat}, (∀ k, k < n → ¬ (p k = true ∧ q k = true)) → ct (fun k => p k || q k) n = ct p n + ct q n
  | 0, _ => rfl
  | n + 1, h => by
    have h1 := ct_or (p := p) (q := q) (n := n) (fun k hk => h k (by omega))
    have h2 := h n (by omega)
    unfold ct
    cases e1 : p n <;> cases e2 : q n <;> simp [e1, e2] at h2 ⊢ <;> omega
/-- counted by rows or by columns -/
theorem ct_swap {P : Nat → Nat → Bool} {M : Nat} : ∀ {N : Nat}, (∀ c c' m, c < N → c' < N → m < M → P c m = true → P c' m = true → c = c') → sm (fun c => ct (P c) M) N = ct (fun m => anyB (fun c => P c m) N) M
  | 0, _ => by
    rw [ct_zero]
    · rfl
    · exact fun k _ => rfl
  | N + 1, h => by
    have h1 := ct_swap (P := P) (M := M) (N := N) (fun c c' m h1 h2 => h c c' m (by omega) (by omega))
    have h2 : ct (fun m => anyB (fun c => P c m) (N + 1)) M = ct (fun m => anyB (fun c => P c m) N || P N m) M := rfl
    rw [h2, ct_or]
    · unfold sm
      rw [h1]
    · rintro k hk ⟨h3, h4⟩
      obtain ⟨c, h5, h6⟩ := anyB_iff.mp h3
      have := h c N k (by omega) (by omega) hk h6 h4
      omega
/-- the first for which it holds, as a number -/
def fdI (p : Nat → Bool) (i d : Nat) : Int32 := match (List.range' i d).find? p with
  | some r => nI r
  | none => -5
theorem fdI_succ {p : Nat → Bool} {i d : Nat} : fdI p i (d + 1) = if p i = true then nI i else fdI p (i + 1) d := by
  unfold fdI
  rw [List.range'_succ, List.find?_cons]
  cases p i <;> rfl
theorem fdI_n5 {p : Nat → Bool} {n : Nat} (hn : n < 2 ^ 31) : (fdI p 0 n = -5) = (anyB p n = false) := by
  unfold fdI
  cases e : (List.range' 0 n).find? p with
  | none =>
    rw [List.find?_eq_none] at e
    refine propext ⟨fun _ => ?_, fun _ => rfl⟩
    cases e2 : anyB p n
    · rfl
    · obtain ⟨k, h1, h2⟩ := anyB_iff.mp e2
      exact absurd h2 (e k (List.mem_range'_1.mpr (by omega)))
  | some r =>
    have h1 := List.find?_some e
    have h2 := List.mem_of_find?_eq_some e
    rw [List.mem_range'_1] at h2
    refine propext ⟨fun h => absurd h (nI_n5 (by omega)), fun h => ?_⟩
    rw [anyB_iff.mpr ⟨r, by omega, h1⟩] at h
    exact absurd h (by decide)
theorem fdI_cong {p q : Nat → Bool} : ∀ {d i : Nat}, (∀ k, i ≤ k → k < i + d → p k = q k) → fdI p i d = fdI q i d
  | 0, _, _ => rfl
  | d + 1, i, h => by
    rw [fdI_succ, fdI_succ, h i (by omega) (by omega), fdI_cong (fun k h1 h2 => h k (by omega) (by omega))]
section
variable {sc : Nat × (Nat → Int32)} {g : SG} {s : SV} {Q : Option Value → ri_W → Prop}
theorem sl48 (hI : inv s) : slS s ≤ 48 ∧ 4 ≤ slS s := nDP hI.2.1
theorem sl_eq (hI : inv s) : s.1 0 * s.1 1 = nI (slS s) := nP_slots hI.2.1
theorem nC_eq (hI : inv s) : s.1 5 = nI (nC s) := hI.2.1.2.2.2.2.2.1
theorem nC20 (hI : inv s) : nC s ≤ 20 := hI.2.1.2.2.2.2.2.2
theorem nP_eq (hI : inv s) : s.1 1 = nI (nP s) := hI.2.1.2.1.1
theorem nP6 (hI : inv s) : nP s ≤ 6 := hI.2.1.2.1.2.2
theorem nD_eq (hI : inv s) : s.1 0 = nI (nD s) := hI.2.1.1.1
theorem nD8 (hI : inv s) : nD s ≤ 8 := hI.2.1.1.2.2
theorem day_lt (hI : inv s) {d p : Nat} (hd : d < nD s) (hp : p < nP s) : d * nP s + p < slS s := by
  have : (d + 1) * nP s ≤ nD s * nP s := Nat.mul_le_mul hd (Nat.le_refl _)
  rw [Nat.add_mul] at this
  unfold slS
  omega
theorem plc_sl (hI : inv s) {c : Nat} : plc s c = ct (hC s c) (slS s) := by
  have h48 := (sl48 hI).1
  have e : (64 : Nat) = slS s + (64 - slS s) := by omega
  show ct (hC s c) 64 = _
  rw [e, ct_split, ct_zero (p := fun k => hC s c (slS s + k)), Nat.add_zero]
  intro k _
  cases h : hC s c (slS s + k)
  · rfl
  · have := (inv_C hI h).2
    omega

theorem m_placed_l (hI : inv s) (hM : g.2.2.2.2 0 = mdl s) {c : Nat} (hc : c < 20) : ∀ (d i : Nat), i + d = slS s → rv sc 134 4 [(0, .ref 154), (1, .int (nI c)), (2, .int (nI (ct (hC s c) i))), (3, .int (nI i))] [] (Wd g) Q = Q (some (.int (nI (plc s c)))) (Wd g) := by
  have h48 := (sl48 hI).1
  have h20 := nC20 hI
  have h6 := nP6 hI
  have h8 := nD8 hI
  rw [plc_sl hI]
  intro d
  induction d with
  | zero =>
    intro i hi
    have h5 : nI (slS s) ≤ nI i := nI_le (by omega) (by omega)
    rw [u134_4]
    simp only [↓u134_0, ↓u134_1, ↓u134_2, ↓u134_3, ↓u134_5, ↓u134_6, ↓u134_9, ↓u134_35, ↓u134_12, ↓u134_36, ↓u134_13, ↓u134_14, ↓u134_15, ↓u134_16, ↓u134_19, ↓u134_26, ↓u134_22, ↓u134_27, ↓u134_23, ↓u134_28, ↓u134_29, ↓u134_32, h5, if_true, if_false, ↓d_o, ↓m_slots hM, sl_eq hI, ↓c_v_some]
    rw [show i = slS s by omega]
  | succ d ih =>
    intro i hi
    have h5 : ¬ nI (slS s) ≤ nI i := nI_ge (by omega) (by omega)
    have ih1 := ih (i + 1) (by omega)
    rw [u134_4]
    simp only [↓u134_0, ↓u134_1, ↓u134_2, ↓u134_3, ↓u134_5, ↓u134_6, ↓u134_9, ↓u134_35, ↓u134_12, ↓u134_36, ↓u134_13, ↓u134_14, ↓u134_15, ↓u134_16, ↓u134_19, ↓u134_26, ↓u134_22, ↓u134_27, ↓u134_23, ↓u134_28, ↓u134_29, ↓u134_32, h5, if_true, if_false, ↓d_o, ↓m_slots hM, sl_eq hI, ↓c_v_some, ↓m_has hI hM hc (show i < 48 by omega), nI_1]
    cases hx : hC s c i
    · simp only [ct, hx, if_false, bI_f, n00, if_true, Bool.false_eq_true, Nat.add_zero, add0] at ih1 ⊢
      exact ih1
    · simp only [ct, hx, if_true, bI_t, n10, if_false, nI_1] at ih1 ⊢
      exact ih1

theorem m_placed (hI : inv s) (hM : g.2.2.2.2 0 = mdl s) {c : Nat} (hc : c < 20) : ev sc 134 [.ref 154, .int (nI c)] (Wd g) Q = Q (some (.int (nI (plc s c)))) (Wd g) := by
  have h48 := (sl48 hI).1
  have h20 := nC20 hI
  have h6 := nP6 hI
  have h8 := nD8 hI
  simp only [↓en134, ↓u134_0, ↓u134_1, ↓u134_2, ↓u134_3, ↓u134_5, ↓u134_6, ↓u134_9, ↓u134_35, ↓u134_12, ↓u134_36, ↓u134_13, ↓u134_14, ↓u134_15, ↓u134_16, ↓u134_19, ↓u134_26, ↓u134_22, ↓u134_27, ↓u134_23, ↓u134_28, ↓u134_29, ↓u134_32]
  exact m_placed_l hI hM hc (slS s) 0 (by omega)

theorem m_placedInAll_l (hI : inv s) (hM : g.2.2.2.2 0 = mdl s) : ∀ (d i : Nat), i + d = nC s → rv sc 118 4 [(0, .ref 154), (1, .int (nI (sm (plc s) i))), (2, .int (nI i))] [] (Wd g) Q = Q (some (.int (nI (sm (plc s) (nC s))))) (Wd g) := by
  have h48 := (sl48 hI).1
  have h20 := nC20 hI
  have h6 := nP6 hI
  have h8 := nD8 hI
  intro d
  induction d with
  | zero =>
    intro i hi
    have h5 : nI (nC s) ≤ nI i := nI_le (by omega) (by omega)
    rw [u118_4]
    simp only [↓u118_0, ↓u118_1, ↓u118_2, ↓u118_3, ↓u118_5, ↓u118_6, ↓u118_9, ↓u118_10, ↓u118_11, ↓u118_28, ↓u118_14, ↓u118_29, ↓u118_15, ↓u118_16, ↓u118_17, ↓u118_20, ↓u118_21, ↓u118_22, ↓u118_25, h5, if_true, if_false, ↓df0, ↓dI0, r5, m5, hM, mdl_n (show 5 < 6 by decide), nC_eq hI]
    rw [show i = nC s by omega]
  | succ d ih =>
    intro i hi
    have h5 : ¬ nI (nC s) ≤ nI i := nI_ge (by omega) (by omega)
    have ih1 := ih (i + 1) (by omega)
    rw [u118_4]
    simp only [↓u118_0, ↓u118_1, ↓u118_2, ↓u118_3, ↓u118_5, ↓u118_6, ↓u118_9, ↓u118_10, ↓u118_11, ↓u118_28, ↓u118_14, ↓u118_29, ↓u118_15, ↓u118_16, ↓u118_17, ↓u118_20, ↓u118_21, ↓u118_22, ↓u118_25, h5, if_true, if_false, ↓df0, ↓dI0, r5, m5, hM, mdl_n (show 5 < 6 by decide), nC_eq hI, ↓d_o, ↓m_placed hI hM (show i < 20 by omega), ↓c_v_some, nI_add, nI_1]
    exact ih1

theorem m_placedInAll (hI : inv s) (hM : g.2.2.2.2 0 = mdl s) : ev sc 118 [.ref 154] (Wd g) Q = Q (some (.int (nI (sm (plc s) (nC s))))) (Wd g) := by
  have h48 := (sl48 hI).1
  have h20 := nC20 hI
  have h6 := nP6 hI
  have h8 := nD8 hI
  simp only [↓en118, ↓u118_0, ↓u118_1, ↓u118_2, ↓u118_3, ↓u118_5, ↓u118_6, ↓u118_9, ↓u118_10, ↓u118_11, ↓u118_28, ↓u118_14, ↓u118_29, ↓u118_15, ↓u118_16, ↓u118_17, ↓u118_20, ↓u118_21, ↓u118_22, ↓u118_25]
  exact m_placedInAll_l hI hM (nC s) 0 (by omega)

theorem m_lessonsOf_l (hI : inv s) (hM : g.2.2.2.2 0 = mdl s) {t : Nat} : ∀ (d i : Nat), i + d = nC s → rv sc 138 4 [(0, .ref 154), (1, .int (nI t)), (2, .int (nI (sm (fun c => if fact s c 3 = nI t then plc s c else 0) i))), (3, .int (nI i))] [] (Wd g) Q = Q (some (.int (nI (sm (fun c => if fact s c 3 = nI t then plc s c else 0) (nC s))))) (Wd g) := by
  have h48 := (sl48 hI).1
  have h20 := nC20 hI
  have h6 := nP6 hI
  have h8 := nD8 hI
  intro d
  induction d with
  | zero =>
    intro i hi
    have h5 : nI (nC s) ≤ nI i := nI_le (by omega) (by omega)
    rw [u138_4]
    simp only [↓u138_0, ↓u138_1, ↓u138_2, ↓u138_3, ↓u138_5, ↓u138_6, ↓u138_9, ↓u138_10, ↓u138_11, ↓u138_42, ↓u138_14, ↓u138_43, ↓u138_15, ↓u138_16, ↓u138_17, ↓u138_18, ↓u138_21, ↓u138_22, ↓u138_33, ↓u138_25, ↓u138_34, ↓u138_26, ↓u138_35, ↓u138_27, ↓u138_36, ↓u138_30, ↓u138_39, h5, if_true, if_false, ↓df0, ↓dI0, r5, m5, hM, mdl_n (show 5 < 6 by decide), nC_eq hI]
    rw [show i = nC s by omega]
  | succ d ih =>
    intro i hi
    have h5 : ¬ nI (nC s) ≤ nI i := nI_ge (by omega) (by omega)
    have ih1 := ih (i + 1) (by omega)
    rw [u138_4]
    simp only [↓u138_0, ↓u138_1, ↓u138_2, ↓u138_3, ↓u138_5, ↓u138_6, ↓u138_9, ↓u138_10, ↓u138_11, ↓u138_42, ↓u138_14, ↓u138_43, ↓u138_15, ↓u138_16, ↓u138_17, ↓u138_18, ↓u138_21, ↓u138_22, ↓u138_33, ↓u138_25, ↓u138_34, ↓u138_26, ↓u138_35, ↓u138_27, ↓u138_36, ↓u138_30, ↓u138_39, h5, if_true, if_false, ↓df0, ↓dI0, r5, m5, hM, mdl_n (show 5 < 6 by decide), nC_eq hI, ↓d_o, ↓m_of3 hM (show i < 20 by omega), ↓m_placed hI hM (show i < 20 by omega), ↓c_v_some, nI_add, nI_1]
    by_cases e : fact s i 3 = nI t
    · simp only [sm, e, if_true] at ih1 ⊢
      exact ih1
    · simp only [sm, e, if_false, Nat.add_zero, add0] at ih1 ⊢
      exact ih1

theorem m_lessonsOf (hI : inv s) (hM : g.2.2.2.2 0 = mdl s) {t : Nat} : ev sc 138 [.ref 154, .int (nI t)] (Wd g) Q = Q (some (.int (nI (sm (fun c => if fact s c 3 = nI t then plc s c else 0) (nC s))))) (Wd g) := by
  have h48 := (sl48 hI).1
  have h20 := nC20 hI
  have h6 := nP6 hI
  have h8 := nD8 hI
  simp only [↓en138, ↓u138_0, ↓u138_1, ↓u138_2, ↓u138_3, ↓u138_5, ↓u138_6, ↓u138_9, ↓u138_10, ↓u138_11, ↓u138_42, ↓u138_14, ↓u138_43, ↓u138_15, ↓u138_16, ↓u138_17, ↓u138_18, ↓u138_21, ↓u138_22, ↓u138_33, ↓u138_25, ↓u138_34, ↓u138_26, ↓u138_35, ↓u138_27, ↓u138_36, ↓u138_30, ↓u138_39]
  exact m_lessonsOf_l hI hM (nC s) 0 (by omega)

theorem m_lessonsIn_l (hI : inv s) (hM : g.2.2.2.2 0 = mdl s) {m : Nat} (hm : m < 48) : ∀ (d i : Nat), i + d = nC s → rv sc 148 4 [(0, .ref 154), (1, .int (nI m)), (2, .int (nI (ct (fun c => hC s c m) i))), (3, .int (nI i))] [] (Wd g) Q = Q (some (.int (nI (ct (fun c => hC s c m) (nC s))))) (Wd g) := by
  have h48 := (sl48 hI).1
  have h20 := nC20 hI
  have h6 := nP6 hI
  have h8 := nD8 hI
  intro d
  induction d with
  | zero =>
    intro i hi
    have h5 : nI (nC s) ≤ nI i := nI_le (by omega) (by omega)
    rw [u148_4]
    simp only [↓u148_0, ↓u148_1, ↓u148_2, ↓u148_3, ↓u148_5, ↓u148_6, ↓u148_9, ↓u148_10, ↓u148_11, ↓u148_37, ↓u148_14, ↓u148_38, ↓u148_15, ↓u148_16, ↓u148_17, ↓u148_18, ↓u148_21, ↓u148_28, ↓u148_24, ↓u148_29, ↓u148_25, ↓u148_30, ↓u148_31, ↓u148_34, h5, if_true, if_false, ↓df0, ↓dI0, r5, m5, hM, mdl_n (show 5 < 6 by decide), nC_eq hI]
    rw [show i = nC s by omega]
  | succ d ih =>
    intro i hi
    have h5 : ¬ nI (nC s) ≤ nI i := nI_ge (by omega) (by omega)
    have ih1 := ih (i + 1) (by omega)
    rw [u148_4]
    simp only [↓u148_0, ↓u148_1, ↓u148_2, ↓u148_3, ↓u148_5, ↓u148_6, ↓u148_9, ↓u148_10, ↓u148_11, ↓u148_37, ↓u148_14, ↓u148_38, ↓u148_15, ↓u148_16, ↓u148_17, ↓u148_18, ↓u148_21, ↓u148_28, ↓u148_24, ↓u148_29, ↓u148_25, ↓u148_30, ↓u148_31, ↓u148_34, h5, if_true, if_false, ↓df0, ↓dI0, r5, m5, hM, mdl_n (show 5 < 6 by decide), nC_eq hI, ↓d_o, ↓m_has hI hM (show i < 20 by omega) hm, ↓c_v_some, nI_1]
    cases hx : hC s i m
    · simp only [ct, hx, if_false, bI_f, n00, if_true, Bool.false_eq_true, Nat.add_zero, add0] at ih1 ⊢
      exact ih1
    · simp only [ct, hx, if_true, bI_t, n10, if_false, nI_1] at ih1 ⊢
      exact ih1

theorem m_lessonsIn (hI : inv s) (hM : g.2.2.2.2 0 = mdl s) {m : Nat} (hm : m < 48) : ev sc 148 [.ref 154, .int (nI m)] (Wd g) Q = Q (some (.int (nI (ct (fun c => hC s c m) (nC s))))) (Wd g) := by
  have h48 := (sl48 hI).1
  have h20 := nC20 hI
  have h6 := nP6 hI
  have h8 := nD8 hI
  simp only [↓en148, ↓u148_0, ↓u148_1, ↓u148_2, ↓u148_3, ↓u148_5, ↓u148_6, ↓u148_9, ↓u148_10, ↓u148_11, ↓u148_37, ↓u148_14, ↓u148_38, ↓u148_15, ↓u148_16, ↓u148_17, ↓u148_18, ↓u148_21, ↓u148_28, ↓u148_24, ↓u148_29, ↓u148_25, ↓u148_30, ↓u148_31, ↓u148_34]
  exact m_lessonsIn_l hI hM hm (nC s) 0 (by omega)

theorem m_barred_l (hI : inv s) (hM : g.2.2.2.2 0 = mdl s) {t : Nat} (ht : t < 8) : ∀ (d i : Nat), i + d = slS s → rv sc 132 4 [(0, .ref 154), (1, .int (nI t)), (2, .int (nI (ct (hB s t) i))), (3, .int (nI i))] [] (Wd g) Q = Q (some (.int (nI (ct (hB s t) (slS s))))) (Wd g) := by
  have h48 := (sl48 hI).1
  have h20 := nC20 hI
  have h6 := nP6 hI
  have h8 := nD8 hI
  intro d
  induction d with
  | zero =>
    intro i hi
    have h5 : nI (slS s) ≤ nI i := nI_le (by omega) (by omega)
    rw [u132_4]
    simp only [↓u132_0, ↓u132_1, ↓u132_2, ↓u132_3, ↓u132_5, ↓u132_6, ↓u132_9, ↓u132_35, ↓u132_12, ↓u132_36, ↓u132_13, ↓u132_14, ↓u132_15, ↓u132_16, ↓u132_19, ↓u132_26, ↓u132_22, ↓u132_27, ↓u132_23, ↓u132_28, ↓u132_29, ↓u132_32, h5, if_true, if_false, ↓d_o, ↓m_slots hM, sl_eq hI, ↓c_v_some]
    rw [show i = slS s by omega]
  | succ d ih =>
    intro i hi
    have h5 : ¬ nI (slS s) ≤ nI i := nI_ge (by omega) (by omega)
    have ih1 := ih (i + 1) (by omega)
    rw [u132_4]
    simp only [↓u132_0, ↓u132_1, ↓u132_2, ↓u132_3, ↓u132_5, ↓u132_6, ↓u132_9, ↓u132_35, ↓u132_12, ↓u132_36, ↓u132_13, ↓u132_14, ↓u132_15, ↓u132_16, ↓u132_19, ↓u132_26, ↓u132_22, ↓u132_27, ↓u132_23, ↓u132_28, ↓u132_29, ↓u132_32, h5, if_true, if_false, ↓d_o, ↓m_slots hM, sl_eq hI, ↓c_v_some, ↓m_isBarred hM ht (show i < 48 by omega), nI_1]
    cases hx : hB s t i
    · simp only [ct, hx, if_false, bI_f, n00, if_true, Bool.false_eq_true, Nat.add_zero, add0] at ih1 ⊢
      exact ih1
    · simp only [ct, hx, if_true, bI_t, n10, if_false, nI_1] at ih1 ⊢
      exact ih1

theorem m_barred (hI : inv s) (hM : g.2.2.2.2 0 = mdl s) {t : Nat} (ht : t < 8) : ev sc 132 [.ref 154, .int (nI t)] (Wd g) Q = Q (some (.int (nI (ct (hB s t) (slS s))))) (Wd g) := by
  have h48 := (sl48 hI).1
  have h20 := nC20 hI
  have h6 := nP6 hI
  have h8 := nD8 hI
  simp only [↓en132, ↓u132_0, ↓u132_1, ↓u132_2, ↓u132_3, ↓u132_5, ↓u132_6, ↓u132_9, ↓u132_35, ↓u132_12, ↓u132_36, ↓u132_13, ↓u132_14, ↓u132_15, ↓u132_16, ↓u132_19, ↓u132_26, ↓u132_22, ↓u132_27, ↓u132_23, ↓u132_28, ↓u132_29, ↓u132_32]
  exact m_barred_l hI hM ht (slS s) 0 (by omega)

theorem m_courseOf_l (hI : inv s) (hM : g.2.2.2.2 0 = mdl s) {t m : Nat} (hm : m < 48) : ∀ (d i : Nat), i + d = nC s → rv sc 135 2 [(0, .ref 154), (1, .int (nI t)), (2, .int (nI m)), (3, .int (nI i))] [] (Wd g) Q = Q (some (.int (fdI (fun c => decide (fact s c 3 = nI t) && hC s c m) i d))) (Wd g) := by
  have h48 := (sl48 hI).1
  have h20 := nC20 hI
  have h6 := nP6 hI
  have h8 := nD8 hI
  intro d
  induction d with
  | zero =>
    intro i hi
    have h5 : nI (nC s) ≤ nI i := nI_le (by omega) (by omega)
    rw [u135_2]
    simp only [↓u135_0, ↓u135_1, ↓u135_3, ↓u135_4, ↓u135_7, ↓u135_8, ↓u135_9, ↓u135_39, ↓u135_12, ↓u135_41, ↓u135_13, ↓u135_14, ↓u135_15, ↓u135_18, ↓u135_19, ↓u135_33, ↓u135_22, ↓u135_36, ↓u135_23, ↓u135_24, ↓u135_25, ↓u135_28, ↓u135_31, ↓u135_32, h5, if_true, if_false, ↓df0, ↓dI0, r5, m5, hM, mdl_n (show 5 < 6 by decide), nC_eq hI]
    rfl
  | succ d ih =>
    intro i hi
    have h5 : ¬ nI (nC s) ≤ nI i := nI_ge (by omega) (by omega)
    have ih1 := ih (i + 1) (by omega)
    rw [u135_2]
    simp only [↓u135_0, ↓u135_1, ↓u135_3, ↓u135_4, ↓u135_7, ↓u135_8, ↓u135_9, ↓u135_39, ↓u135_12, ↓u135_41, ↓u135_13, ↓u135_14, ↓u135_15, ↓u135_18, ↓u135_19, ↓u135_33, ↓u135_22, ↓u135_36, ↓u135_23, ↓u135_24, ↓u135_25, ↓u135_28, ↓u135_31, ↓u135_32, h5, if_true, if_false, ↓df0, ↓dI0, r5, m5, hM, mdl_n (show 5 < 6 by decide), nC_eq hI, ↓d_o, ↓m_of3 hM (show i < 20 by omega), ↓m_has hI hM (show i < 20 by omega) hm, ↓c_v_some, nI_1, ih1, fdI_succ]
    by_cases e : fact s i 3 = nI t <;> cases hC s i m <;> simp [e, bI]

theorem m_courseOf (hI : inv s) (hM : g.2.2.2.2 0 = mdl s) {t m : Nat} (hm : m < 48) : ev sc 135 [.ref 154, .int (nI t), .int (nI m)] (Wd g) Q = Q (some (.int (fdI (fun c => decide (fact s c 3 = nI t) && hC s c m) 0 (nC s)))) (Wd g) := by
  have h48 := (sl48 hI).1
  have h20 := nC20 hI
  have h6 := nP6 hI
  have h8 := nD8 hI
  simp only [↓en135, ↓u135_0, ↓u135_1, ↓u135_3, ↓u135_4, ↓u135_7, ↓u135_8, ↓u135_9, ↓u135_39, ↓u135_12, ↓u135_41, ↓u135_13, ↓u135_14, ↓u135_15, ↓u135_18, ↓u135_19, ↓u135_33, ↓u135_22, ↓u135_36, ↓u135_23, ↓u135_24, ↓u135_25, ↓u135_28, ↓u135_31, ↓u135_32]
  exact m_courseOf_l hI hM hm (nC s) 0 (by omega)

theorem m_courseIn_l (hI : inv s) (hM : g.2.2.2.2 0 = mdl s) {r m : Nat} (hm : m < 48) : ∀ (d i : Nat), i + d = nC s → rv sc 136 2 [(0, .ref 154), (1, .int (nI r)), (2, .int (nI m)), (3, .int (nI i))] [] (Wd g) Q = Q (some (.int (fdI (fun c => decide (rmI (rmS s c m) = nI r)) i d))) (Wd g) := by
  have h48 := (sl48 hI).1
  have h20 := nC20 hI
  have h6 := nP6 hI
  have h8 := nD8 hI
  intro d
  induction d with
  | zero =>
    intro i hi
    have h5 : nI (nC s) ≤ nI i := nI_le (by omega) (by omega)
    rw [u136_2]
    simp only [↓u136_0, ↓u136_1, ↓u136_3, ↓u136_4, ↓u136_7, ↓u136_8, ↓u136_9, ↓u136_30, ↓u136_12, ↓u136_32, ↓u136_13, ↓u136_14, ↓u136_15, ↓u136_18, ↓u136_19, ↓u136_24, ↓u136_22, ↓u136_27, ↓u136_23, h5, if_true, if_false, ↓df0, ↓dI0, r5, m5, hM, mdl_n (show 5 < 6 by decide), nC_eq hI]
    rfl
  | succ d ih =>
    intro i hi
    have h5 : ¬ nI (nC s) ≤ nI i := nI_ge (by omega) (by omega)
    have ih1 := ih (i + 1) (by omega)
    rw [u136_2]
    simp only [↓u136_0, ↓u136_1, ↓u136_3, ↓u136_4, ↓u136_7, ↓u136_8, ↓u136_9, ↓u136_30, ↓u136_12, ↓u136_32, ↓u136_13, ↓u136_14, ↓u136_15, ↓u136_18, ↓u136_19, ↓u136_24, ↓u136_22, ↓u136_27, ↓u136_23, h5, if_true, if_false, ↓df0, ↓dI0, r5, m5, hM, mdl_n (show 5 < 6 by decide), nC_eq hI, ↓d_o, ↓m_roomOf hI hM (show i < 20 by omega) hm, ↓c_v_some, nI_1, ih1, fdI_succ]
    by_cases e : rmI (rmS s i m) = nI r <;> simp [e]

theorem m_courseIn (hI : inv s) (hM : g.2.2.2.2 0 = mdl s) {r m : Nat} (hm : m < 48) : ev sc 136 [.ref 154, .int (nI r), .int (nI m)] (Wd g) Q = Q (some (.int (fdI (fun c => decide (rmI (rmS s c m) = nI r)) 0 (nC s)))) (Wd g) := by
  have h48 := (sl48 hI).1
  have h20 := nC20 hI
  have h6 := nP6 hI
  have h8 := nD8 hI
  simp only [↓en136, ↓u136_0, ↓u136_1, ↓u136_3, ↓u136_4, ↓u136_7, ↓u136_8, ↓u136_9, ↓u136_30, ↓u136_12, ↓u136_32, ↓u136_13, ↓u136_14, ↓u136_15, ↓u136_18, ↓u136_19, ↓u136_24, ↓u136_22, ↓u136_27, ↓u136_23]
  exact m_courseIn_l hI hM hm (nC s) 0 (by omega)

def ownS (s : SV) (b : Bool) (x c : Nat) : Bool := if b = true then decide (fact s c 3 = nI x) else decide (nI c = nI x)
theorem m_onDay_l2 (hI : inv s) (hM : g.2.2.2.2 0 = mdl s) {x e : Nat} {b : Bool} (hx : x < 20) (he : e < nD s) {c n : Nat} (hc : c < nC s) : ∀ (d i : Nat), i + d = nP s → rv sc 137 20 [(0, .ref 154), (1, .int (nI x)), (2, .int (nI e)), (3, .int (bI b)), (4, .int (nI (n + ct (fun p => ownS s b x c && hC s c (e * nP s + p)) i))), (5, .int (nI c)), (6, .int (nI i))] [] (Wd g) Q = rv sc 137 6 [(0, .ref 154), (1, .int (nI x)), (2, .int (nI e)), (3, .int (bI b)), (4, .int (nI (n + ct (fun p => ownS s b x c && hC s c (e * nP s + p)) (nP s)))), (5, .int (nI (c + 1)))] [] (Wd g) Q := by
  have h48 := (sl48 hI).1
  have h20 := nC20 hI
  have h6 := nP6 hI
  have h8 := nD8 hI
  intro d
  induction d with
  | zero =>
    intro i hi
    have h5 : nI (nP s) ≤ nI i := nI_le (by omega) (by omega)
    rw [u137_20]
    simp only [↓u137_0, ↓u137_1, ↓u137_3, ↓u137_4, ↓u137_8, ↓u137_9, ↓u137_12, ↓u137_13, ↓u137_14, ↓u137_114, ↓u137_17, ↓u137_116, ↓u137_18, ↓u137_22, ↓u137_23, ↓u137_26, ↓u137_27, ↓u137_28, ↓u137_108, ↓u137_31, ↓u137_111, ↓u137_32, ↓u137_54, ↓u137_35, ↓u137_56, ↓u137_36, ↓u137_57, ↓u137_38, ↓u137_64, ↓u137_60, ↓u137_39, ↓u137_65, ↓u137_61, ↓u137_42, ↓u137_67, ↓u137_43, ↓u137_69, ↓u137_50, ↓u137_46, ↓u137_71, ↓u137_51, ↓u137_47, ↓u137_98, ↓u137_74, ↓u137_99, ↓u137_75, ↓u137_100, ↓u137_77, ↓u137_102, ↓u137_78, ↓u137_105, ↓u137_79, ↓u137_82, ↓u137_83, ↓u137_84, ↓u137_85, ↓u137_87, ↓u137_88, ↓u137_91, ↓u137_94, ↓u137_95, h5, if_true, if_false, ↓df0, ↓dI0, r1, m1, hM, mdl_n (show 1 < 6 by decide), nP_eq hI, nI_1]
    rw [show i = nP s by omega]
  | succ d ih =>
    intro i hi
    have h5 : ¬ nI (nP s) ≤ nI i := nI_ge (by omega) (by omega)
    have ih1 := ih (i + 1) (by omega)
    have hlt := day_lt hI he (show i < nP s by omega)
    have hx0 := fun Q => m_has (sc := sc) (g := g) (Q := Q) hI hM (show c < 20 by omega) (show e * nP s + i < 48 by omega)
    rw [u137_20]
    cases b
    · simp only [↓u137_0, ↓u137_1, ↓u137_3, ↓u137_4, ↓u137_8, ↓u137_9, ↓u137_12, ↓u137_13, ↓u137_14, ↓u137_114, ↓u137_17, ↓u137_116, ↓u137_18, ↓u137_22, ↓u137_23, ↓u137_26, ↓u137_27, ↓u137_28, ↓u137_108, ↓u137_31, ↓u137_111, ↓u137_32, ↓u137_54, ↓u137_35, ↓u137_56, ↓u137_36, ↓u137_57, ↓u137_38, ↓u137_64, ↓u137_60, ↓u137_39, ↓u137_65, ↓u137_61, ↓u137_42, ↓u137_67, ↓u137_43, ↓u137_69, ↓u137_50, ↓u137_46, ↓u137_71, ↓u137_51, ↓u137_47, ↓u137_98, ↓u137_74, ↓u137_99, ↓u137_75, ↓u137_100, ↓u137_77, ↓u137_102, ↓u137_78, ↓u137_105, ↓u137_79, ↓u137_82, ↓u137_83, ↓u137_84, ↓u137_85, ↓u137_87, ↓u137_88, ↓u137_91, ↓u137_94, ↓u137_95, h5, if_true, if_false, ↓df0, ↓dI0, r1, m1, hM, mdl_n (show 1 < 6 by decide), nP_eq hI, bI_f, n00]
      by_cases eo0 : c = x
      · subst eo0
        have eo : (nI c = nI c) = True := eq_true rfl
        simp only [↓u137_0, ↓u137_1, ↓u137_3, ↓u137_4, ↓u137_8, ↓u137_9, ↓u137_12, ↓u137_13, ↓u137_14, ↓u137_114, ↓u137_17, ↓u137_116, ↓u137_18, ↓u137_22, ↓u137_23, ↓u137_26, ↓u137_27, ↓u137_28, ↓u137_108, ↓u137_31, ↓u137_111, ↓u137_32, ↓u137_54, ↓u137_35, ↓u137_56, ↓u137_36, ↓u137_57, ↓u137_38, ↓u137_64, ↓u137_60, ↓u137_39, ↓u137_65, ↓u137_61, ↓u137_42, ↓u137_67, ↓u137_43, ↓u137_69, ↓u137_50, ↓u137_46, ↓u137_71, ↓u137_51, ↓u137_47, ↓u137_98, ↓u137_74, ↓u137_99, ↓u137_75, ↓u137_100, ↓u137_77, ↓u137_102, ↓u137_78, ↓u137_105, ↓u137_79, ↓u137_82, ↓u137_83, ↓u137_84, ↓u137_85, ↓u137_87, ↓u137_88, ↓u137_91, ↓u137_94, ↓u137_95, if_true, if_false, eo, n10, n00, pk_mul, nI_add, ↓d_o, ↓hx0, ↓c_v_some, nI_1, Nat.add_assoc, ↓df0, ↓dI0, r1, m1, hM, mdl_n (show 1 < 6 by decide), nP_eq hI]
        simp only [ct, ownS, eo, decide_true, Bool.true_and, Bool.false_eq_true, if_false, bI_f, Nat.add_assoc] at ih1 ⊢
        cases hx : hC s c (e * nP s + i)
        · simp only [hx, if_false, bI_f, n00, if_true, Bool.false_eq_true, Nat.add_zero, add0] at ih1 ⊢
          exact ih1
        · simp only [hx, if_true, bI_t, n10, if_false, nI_1, Nat.add_assoc] at ih1 ⊢
          exact ih1
      · have eo : ¬ nI c = nI x := fun e => eo0 ((nI_eq (by omega) (by omega)).mp e)
        simp only [↓u137_0, ↓u137_1, ↓u137_3, ↓u137_4, ↓u137_8, ↓u137_9, ↓u137_12, ↓u137_13, ↓u137_14, ↓u137_114, ↓u137_17, ↓u137_116, ↓u137_18, ↓u137_22, ↓u137_23, ↓u137_26, ↓u137_27, ↓u137_28, ↓u137_108, ↓u137_31, ↓u137_111, ↓u137_32, ↓u137_54, ↓u137_35, ↓u137_56, ↓u137_36, ↓u137_57, ↓u137_38, ↓u137_64, ↓u137_60, ↓u137_39, ↓u137_65, ↓u137_61, ↓u137_42, ↓u137_67, ↓u137_43, ↓u137_69, ↓u137_50, ↓u137_46, ↓u137_71, ↓u137_51, ↓u137_47, ↓u137_98, ↓u137_74, ↓u137_99, ↓u137_75, ↓u137_100, ↓u137_77, ↓u137_102, ↓u137_78, ↓u137_105, ↓u137_79, ↓u137_82, ↓u137_83, ↓u137_84, ↓u137_85, ↓u137_87, ↓u137_88, ↓u137_91, ↓u137_94, ↓u137_95, if_true, if_false, eo, n10, n00, pk_mul, nI_add, ↓d_o, ↓hx0, ↓c_v_some, nI_1, ↓df0, ↓dI0, r1, m1, hM, mdl_n (show 1 < 6 by decide), nP_eq hI, add0]
        simp only [ct, ownS, eo, decide_false, Bool.false_and, Bool.false_eq_true, if_false, bI_f, Nat.add_zero] at ih1 ⊢
        exact ih1
    · simp only [↓u137_0, ↓u137_1, ↓u137_3, ↓u137_4, ↓u137_8, ↓u137_9, ↓u137_12, ↓u137_13, ↓u137_14, ↓u137_114, ↓u137_17, ↓u137_116, ↓u137_18, ↓u137_22, ↓u137_23, ↓u137_26, ↓u137_27, ↓u137_28, ↓u137_108, ↓u137_31, ↓u137_111, ↓u137_32, ↓u137_54, ↓u137_35, ↓u137_56, ↓u137_36, ↓u137_57, ↓u137_38, ↓u137_64, ↓u137_60, ↓u137_39, ↓u137_65, ↓u137_61, ↓u137_42, ↓u137_67, ↓u137_43, ↓u137_69, ↓u137_50, ↓u137_46, ↓u137_71, ↓u137_51, ↓u137_47, ↓u137_98, ↓u137_74, ↓u137_99, ↓u137_75, ↓u137_100, ↓u137_77, ↓u137_102, ↓u137_78, ↓u137_105, ↓u137_79, ↓u137_82, ↓u137_83, ↓u137_84, ↓u137_85, ↓u137_87, ↓u137_88, ↓u137_91, ↓u137_94, ↓u137_95, h5, if_true, if_false, ↓df0, ↓dI0, r1, m1, hM, mdl_n (show 1 < 6 by decide), nP_eq hI, bI_t, n10, ↓d_o, ↓m_of3 hM (show c < 20 by omega), ↓c_v_some]
      by_cases eo : fact s c 3 = nI x
      · simp only [↓u137_0, ↓u137_1, ↓u137_3, ↓u137_4, ↓u137_8, ↓u137_9, ↓u137_12, ↓u137_13, ↓u137_14, ↓u137_114, ↓u137_17, ↓u137_116, ↓u137_18, ↓u137_22, ↓u137_23, ↓u137_26, ↓u137_27, ↓u137_28, ↓u137_108, ↓u137_31, ↓u137_111, ↓u137_32, ↓u137_54, ↓u137_35, ↓u137_56, ↓u137_36, ↓u137_57, ↓u137_38, ↓u137_64, ↓u137_60, ↓u137_39, ↓u137_65, ↓u137_61, ↓u137_42, ↓u137_67, ↓u137_43, ↓u137_69, ↓u137_50, ↓u137_46, ↓u137_71, ↓u137_51, ↓u137_47, ↓u137_98, ↓u137_74, ↓u137_99, ↓u137_75, ↓u137_100, ↓u137_77, ↓u137_102, ↓u137_78, ↓u137_105, ↓u137_79, ↓u137_82, ↓u137_83, ↓u137_84, ↓u137_85, ↓u137_87, ↓u137_88, ↓u137_91, ↓u137_94, ↓u137_95, if_true, if_false, eo, n10, n00, pk_mul, nI_add, ↓d_o, ↓hx0, ↓c_v_some, nI_1, ↓df0, ↓dI0, r1, m1, hM, mdl_n (show 1 < 6 by decide), nP_eq hI]
        simp only [ct, ownS, eo, decide_true, Bool.true_and, if_true, bI_t, Nat.add_assoc] at ih1 ⊢
        cases hx : hC s c (e * nP s + i)
        · simp only [hx, if_false, bI_f, n00, if_true, Bool.false_eq_true, Nat.add_zero, add0] at ih1 ⊢
          exact ih1
        · simp only [hx, if_true, bI_t, n10, if_false, nI_1, Nat.add_assoc] at ih1 ⊢
          exact ih1
      · simp only [↓u137_0, ↓u137_1, ↓u137_3, ↓u137_4, ↓u137_8, ↓u137_9, ↓u137_12, ↓u137_13, ↓u137_14, ↓u137_114, ↓u137_17, ↓u137_116, ↓u137_18, ↓u137_22, ↓u137_23, ↓u137_26, ↓u137_27, ↓u137_28, ↓u137_108, ↓u137_31, ↓u137_111, ↓u137_32, ↓u137_54, ↓u137_35, ↓u137_56, ↓u137_36, ↓u137_57, ↓u137_38, ↓u137_64, ↓u137_60, ↓u137_39, ↓u137_65, ↓u137_61, ↓u137_42, ↓u137_67, ↓u137_43, ↓u137_69, ↓u137_50, ↓u137_46, ↓u137_71, ↓u137_51, ↓u137_47, ↓u137_98, ↓u137_74, ↓u137_99, ↓u137_75, ↓u137_100, ↓u137_77, ↓u137_102, ↓u137_78, ↓u137_105, ↓u137_79, ↓u137_82, ↓u137_83, ↓u137_84, ↓u137_85, ↓u137_87, ↓u137_88, ↓u137_91, ↓u137_94, ↓u137_95, if_true, if_false, eo, n10, n00, pk_mul, nI_add, ↓d_o, ↓hx0, ↓c_v_some, nI_1, ↓df0, ↓dI0, r1, m1, hM, mdl_n (show 1 < 6 by decide), nP_eq hI, add0]
        simp only [ct, ownS, eo, decide_false, Bool.false_and, Bool.false_eq_true, if_true, if_false, bI_t, Nat.add_zero] at ih1 ⊢
        exact ih1
theorem m_onDay_l (hI : inv s) (hM : g.2.2.2.2 0 = mdl s) {x e : Nat} {b : Bool} (hx : x < 20) (he : e < nD s) : ∀ (d i : Nat), i + d = nC s → rv sc 137 6 [(0, .ref 154), (1, .int (nI x)), (2, .int (nI e)), (3, .int (bI b)), (4, .int (nI (sm (fun c => ct (fun p => ownS s b x c && hC s c (e * nP s + p)) (nP s)) i))), (5, .int (nI i))] [] (Wd g) Q = Q (some (.int (nI (sm (fun c => ct (fun p => ownS s b x c && hC s c (e * nP s + p)) (nP s)) (nC s))))) (Wd g) := by
  have h48 := (sl48 hI).1
  have h20 := nC20 hI
  have h6 := nP6 hI
  have h8 := nD8 hI
  intro d
  induction d with
  | zero =>
    intro i hi
    have h5 : nI (nC s) ≤ nI i := nI_le (by omega) (by omega)
    rw [u137_6]
    simp only [↓u137_0, ↓u137_1, ↓u137_3, ↓u137_4, ↓u137_8, ↓u137_9, ↓u137_12, ↓u137_13, ↓u137_14, ↓u137_114, ↓u137_17, ↓u137_116, ↓u137_18, ↓u137_22, ↓u137_23, ↓u137_26, ↓u137_27, ↓u137_28, ↓u137_108, ↓u137_31, ↓u137_111, ↓u137_32, ↓u137_54, ↓u137_35, ↓u137_56, ↓u137_36, ↓u137_57, ↓u137_38, ↓u137_64, ↓u137_60, ↓u137_39, ↓u137_65, ↓u137_61, ↓u137_42, ↓u137_67, ↓u137_43, ↓u137_69, ↓u137_50, ↓u137_46, ↓u137_71, ↓u137_51, ↓u137_47, ↓u137_98, ↓u137_74, ↓u137_99, ↓u137_75, ↓u137_100, ↓u137_77, ↓u137_102, ↓u137_78, ↓u137_105, ↓u137_79, ↓u137_82, ↓u137_83, ↓u137_84, ↓u137_85, ↓u137_87, ↓u137_88, ↓u137_91, ↓u137_94, ↓u137_95, h5, if_true, if_false, ↓df0, ↓dI0, r5, m5, hM, mdl_n (show 5 < 6 by decide), nC_eq hI]
    rw [show i = nC s by omega]
  | succ d ih =>
    intro i hi
    have h5 : ¬ nI (nC s) ≤ nI i := nI_ge (by omega) (by omega)
    have ih1 := ih (i + 1) (by omega)
    have hin := m_onDay_l2 (sc := sc) (g := g) (Q := Q) hI hM (x := x) (b := b) hx he (c := i) (n := sm (fun c => ct (fun p => ownS s b x c && hC s c (e * nP s + p)) (nP s)) i) (by omega) (nP s) 0 (by omega)
    rw [u137_6]
    simp only [↓u137_0, ↓u137_1, ↓u137_3, ↓u137_4, ↓u137_8, ↓u137_9, ↓u137_12, ↓u137_13, ↓u137_14, ↓u137_114, ↓u137_17, ↓u137_116, ↓u137_18, ↓u137_22, ↓u137_23, ↓u137_26, ↓u137_27, ↓u137_28, ↓u137_108, ↓u137_31, ↓u137_111, ↓u137_32, ↓u137_54, ↓u137_35, ↓u137_56, ↓u137_36, ↓u137_57, ↓u137_38, ↓u137_64, ↓u137_60, ↓u137_39, ↓u137_65, ↓u137_61, ↓u137_42, ↓u137_67, ↓u137_43, ↓u137_69, ↓u137_50, ↓u137_46, ↓u137_71, ↓u137_51, ↓u137_47, ↓u137_98, ↓u137_74, ↓u137_99, ↓u137_75, ↓u137_100, ↓u137_77, ↓u137_102, ↓u137_78, ↓u137_105, ↓u137_79, ↓u137_82, ↓u137_83, ↓u137_84, ↓u137_85, ↓u137_87, ↓u137_88, ↓u137_91, ↓u137_94, ↓u137_95, h5, if_true, if_false, ↓df0, ↓dI0, r5, m5, hM, mdl_n (show 5 < 6 by decide), nC_eq hI]
    exact hin.trans ih1

theorem m_onDay (hI : inv s) (hM : g.2.2.2.2 0 = mdl s) {x e : Nat} {b : Bool} (hx : x < 20) (he : e < nD s) : ev sc 137 [.ref 154, .int (nI x), .int (nI e), .int (bI b)] (Wd g) Q = Q (some (.int (nI (sm (fun c => ct (fun p => ownS s b x c && hC s c (e * nP s + p)) (nP s)) (nC s))))) (Wd g) := by
  have h48 := (sl48 hI).1
  have h20 := nC20 hI
  have h6 := nP6 hI
  have h8 := nD8 hI
  simp only [↓en137, ↓u137_0, ↓u137_1, ↓u137_3, ↓u137_4, ↓u137_8, ↓u137_9, ↓u137_12, ↓u137_13, ↓u137_14, ↓u137_114, ↓u137_17, ↓u137_116, ↓u137_18, ↓u137_22, ↓u137_23, ↓u137_26, ↓u137_27, ↓u137_28, ↓u137_108, ↓u137_31, ↓u137_111, ↓u137_32, ↓u137_54, ↓u137_35, ↓u137_56, ↓u137_36, ↓u137_57, ↓u137_38, ↓u137_64, ↓u137_60, ↓u137_39, ↓u137_65, ↓u137_61, ↓u137_42, ↓u137_67, ↓u137_43, ↓u137_69, ↓u137_50, ↓u137_46, ↓u137_71, ↓u137_51, ↓u137_47, ↓u137_98, ↓u137_74, ↓u137_99, ↓u137_75, ↓u137_100, ↓u137_77, ↓u137_102, ↓u137_78, ↓u137_105, ↓u137_79, ↓u137_82, ↓u137_83, ↓u137_84, ↓u137_85, ↓u137_87, ↓u137_88, ↓u137_91, ↓u137_94, ↓u137_95]
  exact m_onDay_l hI hM hx he (nC s) 0 (by omega)

end
