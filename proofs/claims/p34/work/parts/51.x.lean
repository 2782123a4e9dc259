section
variable {s : SV}
theorem plc0 (hI : inv s) {c : Nat} (h : plc s c = 0) (m : Nat) : hC s c m = false := by
  have h48 := (sl48 hI).1
  have hcz : ∀ (f : Nat → Bool) n, ct f n = 0 → ∀ k, k < n → f k = false := by
    intro f n
    induction n with
    | zero => exact fun _ c hc => absurd hc (Nat.not_lt_zero _)
    | succ n ih =>
      intro e c hc
      have e2 : ct f n + (if f n = true then 1 else 0) = 0 := e
      by_cases e3 : c = n
      · subst e3
        cases e4 : f c
        · rfl
        · rw [e4] at e2
          simp at e2
      · exact ih (by omega) c (by omega)
  cases e : hC s c m
  · rfl
  · have h5 := inv_C hI e
    have h7 : hC s c m = false := hcz _ 64 h m (by omega)
    rw [h7] at e
    exact absurd e (by decide)
theorem inv_join (h : inv s) {c x : Nat} (hc : c < nC s) (hx : x < nG s) (h2 : fact s c 2 = 0) (hp : plc s c = 0) : inv (sN s 2 (upF (s.2.1 2) (c * 6 + 1) (nI x))) := by
  have hh := h
  have h20 := nC20 h
  have hG8 := nG8 h
  obtain ⟨h0, hn, hf, hl, hb, bp, bd, bb, bo⟩ := h
  have ef : ∀ c' k, k < 6 → ¬ (c' = c ∧ k = 1) → fact (sN s 2 (upF (s.2.1 2) (c * 6 + 1) (nI x))) c' k = fact s c' k := fun c' k hk hne => by
    show upF s.2.1 2 (upF (s.2.1 2) (c * 6 + 1) (nI x)) 2 (c' * 6 + k) = _
    rw [upF_at, upF_ne (by omega)]
    rfl
  have e1 : fact (sN s 2 (upF (s.2.1 2) (c * 6 + 1) (nI x))) c 1 = nI x := by
    show upF s.2.1 2 (upF (s.2.1 2) (c * 6 + 1) (nI x)) 2 (c * 6 + 1) = _
    rw [upF_at, upF_at]
  refine inv_cong hh (sN_nf h0 (show c * 6 + 1 < 120 by omega)) hn (fun c' hc' => ?_) (fun c' hc' => ?_) (fun _ _ => rfl) (Nat.le_refl _) (Nat.le_refl _) rfl rfl (fun c' m hC' => ?_) (fun c' hc' => ?_) bb bo
  · obtain ⟨f1, f2, f3, f4⟩ := hf c' hc'
    unfold fG fJ fP fT at *
    rw [ef c' 0 (by decide) (by omega), ef c' 2 (by decide) (by omega), ef c' 3 (by decide) (by omega)]
    refine ⟨f1, ?_, f3, f4⟩
    by_cases e : c' = c
    · subst e
      rw [e1]
      refine .inr ⟨by rw [cl (by omega)], ?_, h2⟩
      rw [cl (by omega)]
      exact hx
    · rw [ef c' 1 (by decide) (by omega)]
      exact f2
  · unfold fL
    rw [ef c' 5 (by decide) (by omega)]
    exact hl c' hc'
  · have hne : c' ≠ c := fun e => by
      rw [e, plc0 hh hp] at hC'
      exact absurd hC' (by decide)
    refine ⟨?_, fun k => ?_⟩
    · unfold fT
      rw [ef c' 3 (by decide) (by omega)]
    · unfold tk fG fJ
      rw [ef c' 0 (by decide) (by omega), ef c' 1 (by decide) (by omega), ef c' 2 (by decide) (by omega)]
  · unfold fL
    rw [ef c' 5 (by decide) (by omega)]
    exact bp c' hc'
/-- a new course in the row of facts -/
def newF (f : Nat → Int32) (c : Nat) (a b d e p l : Int32) : Nat → Int32 := upF (upF (upF (upF (upF (upF f (c * 6 + 0) a) (c * 6 + 1) b) (c * 6 + 2) d) (c * 6 + 3) e) (c * 6 + 4) p) (c * 6 + 5) l
theorem inv_course (h : inv s) {x p t l : Nat} {q : Int32} (hc : nC s < 20) (hx : x < nG s) (hp : p ≤ 2) (ht : t < nT s) (hl1 : 1 ≤ l) (hl2 : l ≤ 10) : inv (sS (sN s 2 (newF (s.2.1 2) (nC s) (nI x) (-5) (nI p) (nI t) q (nI l))) 5 (nI (nC s + 1))) := by
  have hh := h
  have hG8 := nG8 h
  have hT8 := nT8 h
  obtain ⟨h0, hn, hf, hl, hb, bp, bd, bb, bo⟩ := h
  generalize hs' : sS (sN s 2 (newF (s.2.1 2) (nC s) (nI x) (-5) (nI p) (nI t) q (nI l))) 5 (nI (nC s + 1)) = s'
  have eF : ∀ c' k, fact s' c' k = newF (s.2.1 2) (nC s) (nI x) (-5) (nI p) (nI t) q (nI l) (c' * 6 + k) := fun c' k => by
    rw [← hs']
    unfold fact
    rw [sS_2, sN_at]
  have ef : ∀ c' k, k < 6 → c' ≠ nC s → fact s' c' k = fact s c' k := fun c' k hk hne => by
    rw [eF]
    unfold newF
    rw [upF_ne (by omega), upF_ne (by omega), upF_ne (by omega), upF_ne (by omega), upF_ne (by omega), upF_ne (by omega)]
    rfl
  have e0 : fact s' (nC s) 0 = nI x := by
    rw [eF]
    unfold newF
    rw [upF_ne (by omega), upF_ne (by omega), upF_ne (by omega), upF_ne (by omega), upF_ne (by omega), upF_at]
  have e1 : fact s' (nC s) 1 = -5 := by
    rw [eF]
    unfold newF
    rw [upF_ne (by omega), upF_ne (by omega), upF_ne (by omega), upF_ne (by omega), upF_at]
  have e2 : fact s' (nC s) 2 = nI p := by
    rw [eF]
    unfold newF
    rw [upF_ne (by omega), upF_ne (by omega), upF_ne (by omega), upF_at]
  have e3 : fact s' (nC s) 3 = nI t := by
    rw [eF]
    unfold newF
    rw [upF_ne (by omega), upF_ne (by omega), upF_at]
  have e5 : fact s' (nC s) 5 = nI l := by
    rw [eF]
    unfold newF
    rw [upF_at]
  have q0 : s'.1 0 = s.1 0 ∧ s'.1 1 = s.1 1 ∧ s'.1 2 = s.1 2 ∧ s'.1 3 = s.1 3 ∧ s'.1 4 = s.1 4 ∧ s'.1 5 = nI (nC s + 1) := by
    rw [← hs']
    exact ⟨rfl, rfl, rfl, rfl, rfl, rfl⟩
  obtain ⟨a0, a1, a2, a3, a4, a5⟩ := q0
  have b0 : nD s' = nD s := by unfold nD; rw [a0]
  have b1 : nP s' = nP s := by unfold nP; rw [a1]
  have b2 : nG s' = nG s := by unfold nG; rw [a2]
  have b3 : nT s' = nT s := by unfold nT; rw [a3]
  have b4 : nR s' = nR s := by unfold nR; rw [a4]
  have b5 : nC s' = nC s + 1 := by unfold nC; rw [a5, cl (by have := nC20 hh; unfold nC at *; omega)]; rfl
  have b22 : s'.2.2 = s.2.2 := by rw [← hs']; rfl
  have n0 : nf s' := by
    rw [← hs']
    refine sS_nf ⟨h0.1, fun i k hk => ?_, h0.2.2⟩ (by decide)
    by_cases e : i = 2
    · subst e
      have hk : 120 ≤ k := hk
      rw [sN_at]
      unfold newF
      rw [upF_ne (by omega), upF_ne (by omega), upF_ne (by omega), upF_ne (by omega), upF_ne (by omega), upF_ne (by omega)]
      exact h0.2.1 2 k hk
    · rw [sN_ne e]
      exact h0.2.1 i k hk
  have eB : ∀ t m, hB s' t m = hB s t m := fun t m => by unfold hB; rw [b22]
  have eO : ∀ d, hol s' d = hol s d := fun d => by unfold hol; rw [b22]
  have eS : slS s' = slS s := by unfold slS; rw [b0, b1]
  have hno : ∀ m, hC s (nC s) m = false := fun m => by
    cases e : hC s (nC s) m
    · rfl
    · have := (inv_C hh e).1
      omega
  refine inv_cong hh n0 ?_ (fun c' hc' => ?_) (fun c' hc' => ?_) (fun i _ => by rw [b22]) (by omega) (by omega) b1 eS (fun c' m hC' => ?_) (fun c' hc' => ?_) (fun t m ht' => ?_) (fun d hd => ?_)
  · unfold okN
    rw [b0, b1, b2, b3, b4, b5, a0, a1, a2, a3, a4, a5]
    exact ⟨hn.1, hn.2.1, hn.2.2.1, hn.2.2.2.1, hn.2.2.2.2.1, rfl, by omega⟩
  · by_cases e : c' = nC s
    · subst e
      unfold fG fJ fP fT
      rw [e0, e1, e2, e3, b2, b3, cl (by omega), cl (by omega), cl (by omega)]
      exact ⟨⟨rfl, hx⟩, .inl rfl, ⟨rfl, hp⟩, rfl, ht⟩
    · have := hf c' (by omega)
      unfold fG fJ fP fT at *
      rw [ef c' 0 (by decide) e, ef c' 1 (by decide) e, ef c' 2 (by decide) e, ef c' 3 (by decide) e, b2, b3]
      exact this
  · by_cases e : c' = nC s
    · subst e
      unfold fL
      rw [e5, cl (by omega)]
      exact ⟨rfl, hl1, hl2⟩
    · have := hl c' (by omega)
      unfold fL at *
      rw [ef c' 5 (by decide) e]
      exact this
  · have e : c' ≠ nC s := fun e => by
      rw [e, hno] at hC'
      exact absurd hC' (by decide)
    refine ⟨?_, fun k => ?_⟩
    · unfold fT
      rw [ef c' 3 (by decide) e]
    · unfold tk fG fJ
      rw [ef c' 0 (by decide) e, ef c' 1 (by decide) e, ef c' 2 (by decide) e]
  · by_cases e : c' = nC s
    · have : plc s c' = 0 := ct_zero (fun k _ => by rw [e]; exact hno k)
      omega
    · have := bp c' (by omega)
      unfold fL at *
      rw [ef c' 5 (by decide) e]
      exact this
  · rw [eB] at ht'
    rw [eS]
    exact bb t m ht'
  · rw [eO] at hd
    exact bo d hd
end
section
variable {sc : Nat × (Nat → Int32)} {g : SG} {fs n j : Nat} {Q : Option Value → ri_W → Prop}
theorem w_cf0 (hj : j < 7) {t : Nat} {v : Int32} (ht : t < 20) : ev sc 2 [.ref (bs j + 5), .int (nI t), .int 0, .int v] (Wd g) Q = Q none (Wd (stS g j (sN (g.1 j) 2 (upF ((g.1 j).2.1 2) (t * 6 + 0) v)))) := w_cf (k := 0) hj ht (by decide)
theorem w_cf1 (hj : j < 7) {t : Nat} {v : Int32} (ht : t < 20) : ev sc 2 [.ref (bs j + 5), .int (nI t), .int 1, .int v] (Wd g) Q = Q none (Wd (stS g j (sN (g.1 j) 2 (upF ((g.1 j).2.1 2) (t * 6 + 1) v)))) := w_cf (k := 1) hj ht (by decide)
theorem w_cf2 (hj : j < 7) {t : Nat} {v : Int32} (ht : t < 20) : ev sc 2 [.ref (bs j + 5), .int (nI t), .int 2, .int v] (Wd g) Q = Q none (Wd (stS g j (sN (g.1 j) 2 (upF ((g.1 j).2.1 2) (t * 6 + 2) v)))) := w_cf (k := 2) hj ht (by decide)
theorem w_cf3 (hj : j < 7) {t : Nat} {v : Int32} (ht : t < 20) : ev sc 2 [.ref (bs j + 5), .int (nI t), .int 3, .int v] (Wd g) Q = Q none (Wd (stS g j (sN (g.1 j) 2 (upF ((g.1 j).2.1 2) (t * 6 + 3) v)))) := w_cf (k := 3) hj ht (by decide)
theorem w_cf4 (hj : j < 7) {t : Nat} {v : Int32} (ht : t < 20) : ev sc 2 [.ref (bs j + 5), .int (nI t), .int 4, .int v] (Wd g) Q = Q none (Wd (stS g j (sN (g.1 j) 2 (upF ((g.1 j).2.1 2) (t * 6 + 4) v)))) := w_cf (k := 4) hj ht (by decide)
theorem w_cf5 (hj : j < 7) {t : Nat} {v : Int32} (ht : t < 20) : ev sc 2 [.ref (bs j + 5), .int (nI t), .int 5, .int v] (Wd g) Q = Q none (Wd (stS g j (sN (g.1 j) 2 (upF ((g.1 j).2.1 2) (t * 6 + 5) v)))) := w_cf (k := 5) hj ht (by decide)
end
