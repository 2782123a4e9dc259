/-! THE PLAIN FORM: the reasons -/
theorem sm_zero {f : Nat → Nat} : ∀ {n : Nat}, (∀ k, k < n → f k = 0) → sm f n = 0
  | 0, _ => rfl
  | n + 1, h => by
    unfold sm
    rw [sm_zero (fun k hk => h k (by omega)), h n (by omega)]
theorem sm_one {f : Nat → Nat} {a : Nat} : ∀ {n : Nat}, a < n → (∀ k, k < n → k ≠ a → f k = 0) → sm f n = f a
  | 0, h, _ => absurd h (Nat.not_lt_zero _)
  | n + 1, ha, h => by
    unfold sm
    by_cases e : n = a
    · subst e
      rw [sm_zero (fun k hk => h k (by omega) (by omega)), Nat.zero_add]
    · rw [sm_one (a := a) (by omega) (fun k hk => h k (by omega)), h n (by omega) e, Nat.add_zero]
def isF (s : SV) (c : Nat) (x : Int32) : Bool := decide (fact s c 0 = x) || decide (fact s c 1 = x)
def shS (s : SV) (c c' : Nat) : Bool := isF s c' (fact s c 0) || (!decide (fact s c 1 = -5) && isF s c' (fact s c 1))
def hvS (s : SV) (c c' : Nat) : Bool := decide (fact s c' 2 + fact s c 2 = 3)
section
variable {s : SV}
theorem fT_iff (hI : inv s) {c t : Nat} (hc : c < nC s) (ht : t < 8) : decide (fact s c 3 = nI t) = decide (fT s c = t) := by
  have h1 := (hI.2.2.1 c hc).2.2.2
  have h2 := hI.2.1.2.2.2.1.2
  rw [h1.1]
  rw [decide_eq_decide]
  exact nI_eq (by omega) (by omega)
theorem any_T (hI : inv s) {t m : Nat} (ht : t < 8) : anyB (fun c => decide (fact s c 3 = nI t) && hC s c m) (nC s) = hT s t m := by
  rw [Bool.eq_iff_iff, anyB_iff, hI.2.2.2.2.1.2.2.2.1 t m]
  constructor
  · rintro ⟨c, h1, h2⟩
    rw [fT_iff hI h1 ht] at h2
    simp only [Bool.and_eq_true, decide_eq_true_eq] at h2
    exact ⟨c, h2.2, h2.1⟩
  · rintro ⟨c, h1, h2⟩
    have h3 := (inv_C hI h1).1
    refine ⟨c, h3, ?_⟩
    rw [fT_iff hI h3 ht, h1, h2]
    simp
theorem any_R (hI : inv s) {r m : Nat} (hr : r < 6) : anyB (fun c => decide (rmI (rmS s c m) = nI r)) (nC s) = hR s r m := by
  rw [Bool.eq_iff_iff, anyB_iff, hI.2.2.2.2.1.2.2.2.2.2.1 r m hr]
  constructor
  · rintro ⟨c, h1, h2⟩
    simp only [decide_eq_true_eq] at h2
    refine ⟨c, ?_⟩
    cases e : rmS s c m with
    | none =>
      rw [e] at h2
      exact absurd h2.symm (nI_n5 (by omega))
    | some r' =>
      have h3 := (rm_iff hI.2.2.2.2.1.2.1).mp e
      rw [e] at h2
      have : r' = r := (nI_eq (by omega) (by omega)).mp h2
      exact this ▸ h3.2
  · rintro ⟨c, h1⟩
    refine ⟨c, (hI.2.2.2.2.1.1 c r m hr h1).1, ?_⟩
    rw [(rm_iff hI.2.2.2.2.1.2.1).mpr ⟨hr, h1⟩]
    simp [rmI]
theorem day_C (hI : inv s) {c e : Nat} (hc : c < nC s) : sm (fun c' => ct (fun p => ownS s false c c' && hC s c' (e * nP s + p)) (nP s)) (nC s) = ct (fun p => hC s c (e * nP s + p)) (nP s) := by
  have h20 := nC20 hI
  rw [sm_one hc]
  · refine ct_cong (fun p _ => ?_)
    simp [ownS]
  · intro k hk hne
    refine ct_zero (fun p _ => ?_)
    have : ¬ nI k = nI c := fun e => hne ((nI_eq (by omega) (by omega)).mp e)
    simp [ownS, this]
theorem day_T (hI : inv s) {t e : Nat} (ht : t < 8) : sm (fun c' => ct (fun p => ownS s true t c' && hC s c' (e * nP s + p)) (nP s)) (nC s) = ct (fun p => hT s t (e * nP s + p)) (nP s) := by
  rw [ct_swap]
  · refine ct_cong (fun p _ => ?_)
    exact any_T hI ht
  · intro c c' m h1 h2 _ h3 h4
    have e1 : (decide (fact s c 3 = nI t) && hC s c (e * nP s + m)) = true := h3
    have e2 : (decide (fact s c' 3 = nI t) && hC s c' (e * nP s + m)) = true := h4
    rw [fT_iff hI h1 ht, Bool.and_eq_true, decide_eq_true_eq] at e1
    rw [fT_iff hI h2 ht, Bool.and_eq_true, decide_eq_true_eq] at e2
    exact hI.2.2.2.2.1.2.2.2.2.1 c c' _ e1.2 e2.2 (e1.1.trans e2.1.symm)
theorem all_T (hI : inv s) {t : Nat} (ht : t < 8) : sm (fun c => if fact s c 3 = nI t then plc s c else 0) (nC s) = pcn (s.2.2 4 t) := by
  have h1 : sm (fun c => if fact s c 3 = nI t then plc s c else 0) (nC s) = sm (fun c => ct (fun m => decide (fact s c 3 = nI t) && hC s c m) 64) (nC s) := by
    refine sm_cong (fun c _ => ?_)
    by_cases e : fact s c 3 = nI t
    · rw [if_pos e]
      refine ct_cong (fun m _ => ?_)
      rw [decide_eq_true e, Bool.true_and]
      rfl
    · rw [if_neg e, ct_zero]
      intro m _
      rw [decide_eq_false e, Bool.false_and]
  rw [h1, ct_swap]
  · exact ct_cong (fun m _ => any_T hI ht)
  · intro c c' m h1 h2 _ e1 e2
    rw [fT_iff hI h1 ht, Bool.and_eq_true, decide_eq_true_eq] at e1
    rw [fT_iff hI h2 ht, Bool.and_eq_true, decide_eq_true_eq] at e2
    exact hI.2.2.2.2.1.2.2.2.2.1 c c' _ e1.2 e2.2 (e1.1.trans e2.1.symm)
/-- the facts of a course about its groups, in numbers -/
theorem grp (hI : inv s) {c : Nat} (hc : c < nC s) : (fact s c 0 = nI (fG s c) ∧ fG s c < 8) ∧ (fact s c 1 = -5 ∧ (fact s c 2 = 0 ∨ fact s c 2 = 1 ∨ fact s c 2 = 2) ∨ (fact s c 1 = nI (fJ s c) ∧ fJ s c < 8 ∧ ¬ fact s c 1 = -5 ∧ fact s c 2 = 0)) := by
  have h1 := hI.2.2.1 c hc
  have h2 := hI.2.1.2.2.1.2
  refine ⟨⟨h1.1.1, by omega⟩, ?_⟩
  rcases h1.2.1 with h3 | ⟨h3, h4, h5⟩
  · refine .inl ⟨h3, ?_⟩
    obtain ⟨h6, h7⟩ := h1.2.2.1
    have : fP s c = 0 ∨ fP s c = 1 ∨ fP s c = 2 := by omega
    rcases this with h8 | h8 | h8
    · exact .inl (by rw [h6, h8]; rfl)
    · exact .inr (.inl (by rw [h6, h8]; rfl))
    · exact .inr (.inr (by rw [h6, h8]; rfl))
  · exact .inr ⟨h3, by omega, by rw [h3]; exact nI_n5 (by omega), h5⟩
theorem tk_both (hI : inv s) {c c' : Nat} (hc : c < nC s) (hc' : c' < nC s) : (∃ k, tk s c k = true ∧ tk s c' k = true) ↔ shS s c c' = true ∧ hvS s c c' = false := by
  obtain ⟨⟨a1, a2⟩, a3⟩ := grp hI hc
  obtain ⟨⟨b1, b2⟩, b3⟩ := grp hI hc'
  have q : ∀ {a b : Nat}, a < 8 → b < 8 → ((nI a = nI b) ↔ a = b) := fun h1 h2 => nI_eq (by omega) (by omega)
  have n5 : ∀ {a : Nat}, a < 8 → ¬ (-5 = nI a) := fun h1 h2 => nI_n5 (by omega) h2.symm
  simp only [tk_row]
  unfold shS isF hvS
  rw [a1, b1]
  rcases a3 with ⟨a3, a4⟩ | ⟨a3, a4, a5, a6⟩
  · rcases b3 with ⟨b3, b4⟩ | ⟨b3, b4, b5, b6⟩
    · rw [a3, b3]
      rcases a4 with a4 | a4 | a4 <;> rcases b4 with b4 | b4 | b4 <;> rw [a4, b4] <;> simp [q a2 b2, q b2 a2, n5 a2, n5 b2] <;> first
        | done
        | omega
        | (constructor <;> intro h <;> omega)
    · rw [a3, b6, b3]
      rcases a4 with a4 | a4 | a4 <;> rw [a4] <;> simp [q a2 b2, q b2 a2, q b4 a2, n5 a2, n5 b2, nI_n5 (show fJ s c' < 2 ^ 31 by omega)] <;> first
        | done
        | omega
        | (constructor <;> intro h <;> omega)
  · rcases b3 with ⟨b3, b4⟩ | ⟨b3, b4, b5, b6⟩
    · rw [a3, a6, b3]
      rcases b4 with b4 | b4 | b4 <;> rw [b4] <;> simp [q a2 b2, q b2 a2, q b2 a4, n5 a2, n5 b2, n5 a4, nI_n5 (show fJ s c < 2 ^ 31 by omega)] <;> first
        | done
        | omega
        | (constructor <;> intro h <;> omega)
        | exact ⟨fun ⟨k, h1, h2⟩ => by omega, fun h => ⟨fG s c' * 2, by omega, by omega⟩⟩
    · rw [a3, a6, b6, b3]
      simp [q a2 b2, q b2 a2, q b2 a4, q b4 a2, q b4 a4, n5 a2, n5 b2, n5 a4, nI_n5 (show fJ s c < 2 ^ 31 by omega), nI_n5 (show fJ s c' < 2 ^ 31 by omega)]
      constructor
      · exact fun ⟨k, h1, h2⟩ => by omega
      · intro h
        by_cases e : fG s c' = fG s c ∨ fG s c' = fJ s c
        · exact ⟨fG s c' * 2, by omega, by omega⟩
        · exact ⟨fJ s c' * 2, by omega, by omega⟩
theorem busy_iff {c m : Nat} : busyS s c m = true ↔ ∃ k, tk s c k = true ∧ hH s k m = true := by
  simp only [tk_row]
  unfold busyS busS
  simp only [Bool.or_eq_true, Bool.and_eq_true, decide_eq_true_eq, Bool.not_eq_true', decide_eq_false_iff_not]
  constructor
  · rintro ((⟨h1, h2⟩ | ⟨h1, h2⟩) | ⟨h0, (⟨h1, h2⟩ | ⟨h1, h2⟩)⟩)
    · exact ⟨_, .inl (.inl ⟨rfl, h1⟩), h2⟩
    · exact ⟨_, .inl (.inr ⟨rfl, h1⟩), h2⟩
    · exact ⟨_, .inr ⟨h0, .inl rfl⟩, h2⟩
    · exact ⟨_, .inr ⟨h0, .inr rfl⟩, h2⟩
  · rintro ⟨k, (⟨rfl, h1⟩ | ⟨rfl, h1⟩) | ⟨h0, rfl | rfl⟩, h2⟩
    · exact .inl (.inl ⟨h1, h2⟩)
    · exact .inl (.inr ⟨h1, h2⟩)
    · exact .inr ⟨h0, .inl ⟨.inl trivial, h2⟩⟩
    · exact .inr ⟨h0, .inr ⟨.inl trivial, h2⟩⟩
theorem any_busy (hI : inv s) {c m : Nat} (hc : c < nC s) : anyB (fun c' => hC s c' m && (shS s c c' && !hvS s c c')) (nC s) = busyS s c m := by
  rw [Bool.eq_iff_iff, anyB_iff, busy_iff]
  constructor
  · rintro ⟨c', h1, h2⟩
    simp only [Bool.and_eq_true, Bool.not_eq_true'] at h2
    obtain ⟨k, h3, h4⟩ := (tk_both hI hc h1).mpr h2.2
    exact ⟨k, h3, (hI.2.2.2.2.1.2.2.2.2.2.2.2.1 k m).mpr ⟨c', h2.1, h4⟩⟩
  · rintro ⟨k, h3, h4⟩
    obtain ⟨c', h5, h6⟩ := (hI.2.2.2.2.1.2.2.2.2.2.2.2.1 k m).mp h4
    have h7 := (inv_C hI h5).1
    refine ⟨c', h7, ?_⟩
    have := (tk_both hI hc h7).mp ⟨k, h3, h6⟩
    simp [h5, this.1, this.2]
end
