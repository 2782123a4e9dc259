theorem ct_mono {p q : Nat → Bool} : ∀ {n : Nat}, (∀ k, k < n → p k = true → q k = true) → ct p n ≤ ct q n
  | 0, _ => Nat.le_refl _
  | n + 1, h => by
    have h1 := ct_mono (p := p) (q := q) (n := n) (fun k hk => h k (by omega))
    have h2 := h n (by omega)
    unfold ct
    split
    · rw [if_pos (h2 (by assumption))]
      omega
    · split <;> omega
theorem ct_one {p q : Nat → Bool} {a : Nat} : ∀ {n : Nat}, (∀ k, k < n → k ≠ a → p k = q k) → ct p n ≤ ct q n + 1
  | 0, _ => Nat.le_succ _
  | n + 1, h => by
    by_cases e : n = a
    · have h1 : ct p n = ct q n := ct_cong (fun k hk => h k (by omega) (by omega))
      unfold ct
      split <;> split <;> omega
    · have h1 := ct_one (p := p) (q := q) (a := a) (n := n) (fun k hk => h k (by omega))
      have h2 := h n (by omega) e
      unfold ct
      rw [h2]
      split <;> omega
def fL (s : SV) (c : Nat) : Nat := (fact s c 5).toNatClampNeg
def okL (s : SV) : Prop := ∀ c, c < nC s → fact s c 5 = nI (fL s c) ∧ 1 ≤ fL s c ∧ fL s c ≤ 10
def bX (s : SV) : Prop := ∀ c r m, r < 6 → hX s c r m = true → c < nC s ∧ r < nR s ∧ m < slS s
def bXu (s : SV) : Prop := ∀ c r r' m, r < 6 → r' < 6 → hX s c r m = true → hX s c r' m = true → r = r'
def bC (s : SV) : Prop := ∀ c m, hC s c m = true ↔ ∃ r, r < 6 ∧ hX s c r m = true
def bT (s : SV) : Prop := ∀ t m, hT s t m = true ↔ ∃ c, hC s c m = true ∧ fT s c = t
def bTu (s : SV) : Prop := ∀ c c' m, hC s c m = true → hC s c' m = true → fT s c = fT s c' → c = c'
def bR (s : SV) : Prop := ∀ r m, r < 6 → (hR s r m = true ↔ ∃ c, hX s c r m = true)
def bRu (s : SV) : Prop := ∀ c c' r m, r < 6 → hX s c r m = true → hX s c' r m = true → c = c'
def bH (s : SV) : Prop := ∀ k m, hH s k m = true ↔ ∃ c, hC s c m = true ∧ tk s c k = true
def bHu (s : SV) : Prop := ∀ c c' k m, hC s c m = true → hC s c' m = true → tk s c k = true → tk s c' k = true → c = c'
def bP (s : SV) : Prop := ∀ c, c < nC s → plc s c ≤ fL s c
def bD (s : SV) : Prop := ∀ c d, ct (fun k => hC s c (d * nP s + k)) (nP s) ≤ 2
def bB (s : SV) : Prop := ∀ t m, hB s t m = true → m < slS s
def bO (s : SV) : Prop := ∀ d, hol s d = true → d < 400
def bits (s : SV) : Prop := bX s ∧ bXu s ∧ bC s ∧ bT s ∧ bTu s ∧ bR s ∧ bRu s ∧ bH s ∧ bHu s
def inv (s : SV) : Prop := nf s ∧ okN s ∧ okF s ∧ okL s ∧ bits s ∧ bP s ∧ bD s ∧ bB s ∧ bO s
section
variable {s : SV} {c m r : Nat} {b : Bool}
theorem setL_nC : nC (setL s c m r b) = nC s := by unfold nC; rw [setL_1]
theorem setL_nR : nR (setL s c m r b) = nR s := by unfold nR; rw [setL_1]
theorem setL_nP : nP (setL s c m r b) = nP s := by unfold nP; rw [setL_1]
theorem setL_nD : nD (setL s c m r b) = nD s := by unfold nD; rw [setL_1]
theorem setL_nT : nT (setL s c m r b) = nT s := by unfold nT; rw [setL_1]
theorem setL_nG : nG (setL s c m r b) = nG s := by unfold nG; rw [setL_1]
theorem setL_sl : slS (setL s c m r b) = slS s := by unfold slS; rw [setL_nD, setL_nP]
theorem setL_fT {c' : Nat} : fT (setL s c m r b) c' = fT s c' := by unfold fT; rw [setL_fact]
theorem setL_fG {c' : Nat} : fG (setL s c m r b) c' = fG s c' := by unfold fG; rw [setL_fact]
theorem setL_fJ {c' : Nat} : fJ (setL s c m r b) c' = fJ s c' := by unfold fJ; rw [setL_fact]
theorem setL_fP {c' : Nat} : fP (setL s c m r b) c' = fP s c' := by unfold fP; rw [setL_fact]
theorem setL_fL {c' : Nat} : fL (setL s c m r b) c' = fL s c' := by unfold fL; rw [setL_fact]
theorem setL_okN (h : okN s) : okN (setL s c m r b) := by
  unfold okN at *
  simp only [setL_nD, setL_nP, setL_nG, setL_nT, setL_nR, setL_nC, setL_1]
  exact h
theorem setL_okF (h : okF s) : okF (setL s c m r b) := by
  unfold okF at *
  simp only [setL_nG, setL_nT, setL_nC, setL_fact, setL_fG, setL_fJ, setL_fP, setL_fT]
  exact h
theorem setL_okL (h : okL s) : okL (setL s c m r b) := by
  unfold okL at *
  simp only [setL_nC, setL_fact, setL_fL]
  exact h
theorem sJs_nf {i row : Nat} (h : nf s) (hr : row < bJ i) : nf (sJs s i row m b) := by
  refine ⟨h.1, h.2.1, fun i' q hq => ?_⟩
  by_cases e : i' = i
  · subst e
    show upF s.2.2 i' _ i' q = 0
    rw [upF_at, upF_ne (by omega)]
    exact h.2.2 i' q hq
  · show upF s.2.2 i _ i' q = 0
    rw [upF_ne e]
    exact h.2.2 i' q hq
theorem hlf_nf {x : Nat} {pt : Int32} (h : nf s) (hx : x < 8) : nf (hlf s x pt m b) := by
  have h1 : nf (if pt = 0 ∨ pt = 1 then sJs s 6 (x * 2) m b else s) := by
    split
    · exact sJs_nf h (show x * 2 < 16 by omega)
    · exact h
  unfold hlf
  split
  · exact sJs_nf h1 (show x * 2 + 1 < 16 by omega)
  · exact h1
theorem setL_nf (h : nf s) (hn : okN s) (hf : okF s) (hc : c < nC s) (hr : r < 6) : nf (setL s c m r b) := by
  obtain ⟨-, -, ⟨-, hg⟩, ⟨-, ht⟩, -, ⟨-, hc2⟩⟩ := hn
  obtain ⟨⟨f1, f2⟩, f3, -, ⟨f6, f7⟩⟩ := hf c hc
  have h1 : nf (lss s c m r b) := sJs_nf (sJs_nf (sJs_nf (sJs_nf h (show c * 6 + r < 120 by omega)) (show c < 20 by omega)) (show fT s c < 8 by omega)) (show r < 6 by omega)
  unfold setL
  split
  · exact hlf_nf h1 (by omega)
  · rename_i e
    rcases f3 with f3 | ⟨f3, f4, -⟩
    · exact absurd f3 e
    · exact hlf_nf (hlf_nf h1 (by omega)) (by omega)
/-- a lesson is taken out -/
theorem inv_out (h : inv s) (hr : r < 6) (hx : hX s c r m = true) : inv (setL s c m r false) := by
  obtain ⟨h0, hn, hf, hl, ⟨b1, b2, b3, b4, b5, b6, b7, b8, b9⟩, bp, bd, bb, bo⟩ := h
  obtain ⟨hc, hr2, hm⟩ := b1 c r m hr hx
  have hm6 : m < 64 := by
    have := (nDP hn).1
    unfold slS at hm
    omega
  have hcm : hC s c m = true := (b3 c m).mpr ⟨r, hr, hx⟩
  refine ⟨setL_nf h0 hn hf hc hr, setL_okN hn, setL_okF hf, setL_okL hl, ⟨?_, ?_, ?_, ?_, ?_, ?_, ?_, ?_, ?_⟩, ?_, ?_, ?_, ?_⟩
  · intro c' r' m' hr' hx'
    rw [setL_X hm6 hr hr'] at hx'
    rw [setL_nC, setL_nR, setL_sl]
    split at hx'
    · exact absurd hx' (by decide)
    · exact b1 c' r' m' hr' hx'
  · intro c' r1 r2 m' hr1 hr2 h1 h2
    rw [setL_X hm6 hr hr1] at h1
    rw [setL_X hm6 hr hr2] at h2
    split at h1
    · exact absurd h1 (by decide)
    · split at h2
      · exact absurd h2 (by decide)
      · exact b2 c' r1 r2 m' hr1 hr2 h1 h2
  · intro c' m'
    rw [setL_C hm6]
    constructor
    · intro h1
      split at h1
      · exact absurd h1 (by decide)
      · rename_i e
        obtain ⟨r', hr', hx'⟩ := (b3 c' m').mp h1
        refine ⟨r', hr', ?_⟩
        rw [setL_X hm6 hr hr', if_neg (fun e2 => e ⟨e2.1, e2.2.2⟩)]
        exact hx'
    · rintro ⟨r', hr', hx'⟩
      rw [setL_X hm6 hr hr'] at hx'
      split at hx'
      · exact absurd hx' (by decide)
      · rename_i e
        rw [if_neg]
        · exact (b3 c' m').mpr ⟨r', hr', hx'⟩
        · rintro ⟨rfl, rfl⟩
          exact e ⟨rfl, b2 c' r' r m' hr' hr hx' hx, rfl⟩
  · intro t' m'
    rw [setL_T hm6]
    simp only [setL_fT]
    constructor
    · intro h1
      split at h1
      · exact absurd h1 (by decide)
      · rename_i e
        obtain ⟨c', hc', rfl⟩ := (b4 t' m').mp h1
        refine ⟨c', ?_, rfl⟩
        rw [setL_C hm6, if_neg (by rintro ⟨rfl, rfl⟩; exact e ⟨rfl, rfl⟩)]
        exact hc'
    · rintro ⟨c', hc', rfl⟩
      rw [setL_C hm6] at hc'
      split at hc'
      · exact absurd hc' (by decide)
      · rename_i e
        rw [if_neg]
        · exact (b4 _ m').mpr ⟨c', hc', rfl⟩
        · rintro ⟨e1, rfl⟩
          exact e ⟨b5 c' c m' hc' hcm e1, rfl⟩
  · intro c1 c2 m' h1 h2 h3
    rw [setL_C hm6] at h1 h2
    rw [setL_fT, setL_fT] at h3
    split at h1
    · exact absurd h1 (by decide)
    · split at h2
      · exact absurd h2 (by decide)
      · exact b5 c1 c2 m' h1 h2 h3
  · intro r' m' hr'
    rw [setL_R hm6]
    constructor
    · intro h1
      split at h1
      · exact absurd h1 (by decide)
      · rename_i e
        obtain ⟨c', hc'⟩ := (b6 r' m' hr').mp h1
        refine ⟨c', ?_⟩
        rw [setL_X hm6 hr hr', if_neg (by rintro ⟨rfl, rfl, rfl⟩; exact e ⟨rfl, rfl⟩)]
        exact hc'
    · rintro ⟨c', hc'⟩
      rw [setL_X hm6 hr hr'] at hc'
      split at hc'
      · exact absurd hc' (by decide)
      · rename_i e
        rw [if_neg]
        · exact (b6 r' m' hr').mpr ⟨c', hc'⟩
        · rintro ⟨rfl, rfl⟩
          exact e ⟨b7 c' c r' m' hr' hc' hx, rfl, rfl⟩
  · intro c1 c2 r' m' hr' h1 h2
    rw [setL_X hm6 hr hr'] at h1 h2
    split at h1
    · exact absurd h1 (by decide)
    · split at h2
      · exact absurd h2 (by decide)
      · exact b7 c1 c2 r' m' hr' h1 h2
  · intro k' m'
    rw [setL_H hm6]
    simp only [setL_tk]
    constructor
    · intro h1
      split at h1
      · exact absurd h1 (by decide)
      · rename_i e
        obtain ⟨c', hc', h2⟩ := (b8 k' m').mp h1
        refine ⟨c', ?_, h2⟩
        rw [setL_C hm6, if_neg (by rintro ⟨rfl, rfl⟩; exact e ⟨h2, rfl⟩)]
        exact hc'
    · rintro ⟨c', hc', h2⟩
      rw [setL_C hm6] at hc'
      split at hc'
      · exact absurd hc' (by decide)
      · rename_i e
        rw [if_neg]
        · exact (b8 _ m').mpr ⟨c', hc', h2⟩
        · rintro ⟨e1, rfl⟩
          exact e ⟨b9 c' c k' m' hc' hcm h2 e1, rfl⟩
  · intro c1 c2 k' m' h1 h2 h3 h4
    rw [setL_C hm6] at h1 h2
    rw [setL_tk] at h3 h4
    split at h1
    · exact absurd h1 (by decide)
    · split at h2
      · exact absurd h2 (by decide)
      · exact b9 c1 c2 k' m' h1 h2 h3 h4
  · intro c' hc'
    rw [setL_nC] at hc'
    rw [setL_fL]
    refine Nat.le_trans ?_ (bp c' hc')
    refine ct_mono (fun k _ hk => ?_)
    have hk2 : hC (setL s c m r false) c' k = true := hk
    rw [setL_C hm6] at hk2
    split at hk2
    · exact absurd hk2 (by decide)
    · exact hk2
  · intro c' d
    rw [setL_nP]
    refine Nat.le_trans (ct_mono (fun k _ hk => ?_)) (bd c' d)
    rw [setL_C hm6] at hk
    split at hk
    · exact absurd hk (by decide)
    · exact hk
  · intro t m' hm'
    rw [setL_B hm6] at hm'
    rw [setL_sl]
    exact bb t m' hm'
  · intro d hd
    rw [setL_D hm6] at hd
    exact bo d hd
/-- a lesson that no reason is against is put in -/
theorem fst0 (hl : okL s) (hf : okF s) (hc : c < nC s) (h : fstS s c m r = 0) : plc s c < fL s c ∧ ct (fun k => hC s c (m / nP s * nP s + k)) (nP s) < 2 ∧ hB s (fT s c) m = false ∧ hT s (fT s c) m = false ∧ (∀ k, tk s c k = true → hH s k m = false) ∧ hR s r m = false := by
  unfold fstS at h
  split at h
  · rename_i h0
    unfold rooS at h
    split at h
    · exact absurd h (by decide)
    · rename_i hr
      have hr : hR s r m = false := by simpa using hr
      unfold reaS at h0
      split at h0
      · rename_i a1
        split at h0
        · rename_i a2
          split at h0
          · exact absurd h0 (by decide)
          · rename_i a3
            split at h0
            · exact absurd h0 (by decide)
            · rename_i a4
              split at h0
              · split at h0
                · split at h0
                  · exact absurd h0 (by decide)
                  · rename_i a7
                    obtain ⟨l1, l2, l3⟩ := hl c hc
                    have hle := ct_le (fun k => hC s c (m / nP s * nP s + k)) (nP s)
                    have hpl : plc s c ≤ 64 := pcn_le _
                    rw [l1] at a1
                    have a1' := (nI_ltI (by omega) (by omega)).mp a1
                    have a2' := (nI_ltI (a := ct (fun k => hC s c (m / nP s * nP s + k)) (nP s)) (b := 2) (by
                      have : nP s < 2 ^ 31 := by unfold nP; have := (s.1 1).toInt_lt; rw [← Int32.toNat_toInt]; omega
                      omega) (by omega)).mp a2
                    refine ⟨a1', a2', by simpa using a3, by simpa using a4, ?_, hr⟩
                    have a7 : busyS s c m = false := by simpa using a7
                    intro k hk
                    rw [tk_row] at hk
                    unfold busyS busS at a7
                    cases hk2 : hH s k m
                    · rfl
                    · exfalso
                      rcases hk with (⟨rfl, h5⟩ | ⟨rfl, h5⟩) | ⟨h6, rfl | rfl⟩
                      · rcases h5 with h5 | h5 <;> simp [h5, hk2] at a7
                      · rcases h5 with h5 | h5 <;> simp [h5, hk2] at a7
                      · simp [h6, hk2] at a7
                      · simp [h6, hk2] at a7
                · exact absurd h0 (by decide)
              · exact absurd h0 (by decide)
        · exact absurd h0 (by decide)
      · exact absurd h0 (by decide)
  · exact absurd h (by assumption)
end
