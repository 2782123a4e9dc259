section
variable {s s' : SV}
theorem inv_cong (h : inv s) (h0 : nf s') (hn : okN s') (hf : okF s') (hl : okL s') (hb : ∀ i, 2 ≤ i → s'.2.2 i = s.2.2 i) (nc : nC s ≤ nC s') (nr : nR s ≤ nR s') (np : nP s' = nP s) (sl : slS s' = slS s) (ht : ∀ c m, hC s c m = true → fT s' c = fT s c ∧ ∀ k, tk s' c k = tk s c k) (hp : ∀ c, c < nC s' → plc s c ≤ fL s' c) (hB' : bB s') (hO' : bO s') : inv s' := by
  obtain ⟨-, -, -, -, ⟨b1, b2, b3, b4, b5, b6, b7, b8, b9⟩, bp, bd, -, -⟩ := h
  have eX : ∀ c r m, hX s' c r m = hX s c r m := fun c r m => by unfold hX; rw [hb 2 (by decide)]
  have eC : ∀ c m, hC s' c m = hC s c m := fun c m => by unfold hC; rw [hb 3 (by decide)]
  have eT : ∀ c m, hT s' c m = hT s c m := fun c m => by unfold hT; rw [hb 4 (by decide)]
  have eR : ∀ c m, hR s' c m = hR s c m := fun c m => by unfold hR; rw [hb 5 (by decide)]
  have eH : ∀ c m, hH s' c m = hH s c m := fun c m => by unfold hH; rw [hb 6 (by decide)]
  refine ⟨h0, hn, hf, hl, ⟨?_, ?_, ?_, ?_, ?_, ?_, ?_, ?_, ?_⟩, ?_, ?_, hB', hO'⟩
  · intro c r m hr hx
    rw [eX] at hx
    have := b1 c r m hr hx
    rw [sl]
    omega
  · intro c r r' m h1 h2 h3 h4
    rw [eX] at h3 h4
    exact b2 c r r' m h1 h2 h3 h4
  · intro c m
    rw [eC]
    simp only [eX]
    exact b3 c m
  · intro t m
    rw [eT, b4 t m]
    simp only [eC]
    exact ⟨fun ⟨c, h1, h2⟩ => ⟨c, h1, by rw [(ht c m h1).1]; exact h2⟩, fun ⟨c, h1, h2⟩ => ⟨c, h1, by rw [← (ht c m h1).1]; exact h2⟩⟩
  · intro c c' m h1 h2 h3
    rw [eC] at h1 h2
    rw [(ht c m h1).1, (ht c' m h2).1] at h3
    exact b5 c c' m h1 h2 h3
  · intro r m hr
    rw [eR]
    simp only [eX]
    exact b6 r m hr
  · intro c c' r m hr h1 h2
    rw [eX] at h1 h2
    exact b7 c c' r m hr h1 h2
  · intro k m
    rw [eH, b8 k m]
    simp only [eC]
    exact ⟨fun ⟨c, h1, h2⟩ => ⟨c, h1, by rw [(ht c m h1).2]; exact h2⟩, fun ⟨c, h1, h2⟩ => ⟨c, h1, by rw [← (ht c m h1).2]; exact h2⟩⟩
  · intro c c' k m h1 h2 h3 h4
    rw [eC] at h1 h2
    rw [(ht c m h1).2] at h3
    rw [(ht c' m h2).2] at h4
    exact b9 c c' k m h1 h2 h3 h4
  · intro c hc
    have e : plc s' c = plc s c := by unfold plc; rw [hb 3 (by decide)]
    rw [e]
    exact hp c hc
  · intro c d
    rw [np]
    simp only [eC]
    exact bd c d
/-- no lessons: nothing to keep -/
theorem inv_none (h : inv s) (hno : ∀ c m, hC s c m = false) (h0 : nf s') (hn : okN s') (hf : okF s') (hl : okL s') (hb : ∀ i, 2 ≤ i → s'.2.2 i = s.2.2 i) (hB' : bB s') (hO' : bO s') : inv s' := by
  obtain ⟨-, -, -, -, ⟨b1, b2, b3, b4, b5, b6, b7, b8, b9⟩, bp, bd, -, -⟩ := h
  have hx0 : ∀ c r m, r < 6 → hX s c r m = false := fun c r m hr => by
    cases e : hX s c r m
    · rfl
    · have := (b3 c m).mpr ⟨r, hr, e⟩
      rw [hno] at this
      exact absurd this (by decide)
  have eX : ∀ c r m, r < 6 → hX s' c r m = false := fun c r m hr => by
    rw [← hx0 c r m hr]
    unfold hX
    rw [hb 2 (by decide)]
  have eC : ∀ c m, hC s' c m = false := fun c m => by
    rw [← hno c m]
    unfold hC
    rw [hb 3 (by decide)]
  have eT : ∀ c m, hT s' c m = false := fun c m => by
    have e : hT s' c m = hT s c m := by unfold hT; rw [hb 4 (by decide)]
    rw [e]
    cases e2 : hT s c m
    · rfl
    · obtain ⟨c', h1, -⟩ := (b4 c m).mp e2
      rw [hno] at h1
      exact absurd h1 (by decide)
  have eR : ∀ c m, c < 6 → hR s' c m = false := fun c m hc => by
    have e : hR s' c m = hR s c m := by unfold hR; rw [hb 5 (by decide)]
    rw [e]
    cases e2 : hR s c m
    · rfl
    · obtain ⟨c', h1⟩ := (b6 c m hc).mp e2
      rw [hx0 _ _ _ hc] at h1
      exact absurd h1 (by decide)
  have eH : ∀ c m, hH s' c m = false := fun c m => by
    have e : hH s' c m = hH s c m := by unfold hH; rw [hb 6 (by decide)]
    rw [e]
    cases e2 : hH s c m
    · rfl
    · obtain ⟨c', h1, -⟩ := (b8 c m).mp e2
      rw [hno] at h1
      exact absurd h1 (by decide)
  have ff : ¬ (false = true) := by decide
  refine ⟨h0, hn, hf, hl, ⟨?_, ?_, ?_, ?_, ?_, ?_, ?_, ?_, ?_⟩, ?_, ?_, hB', hO'⟩
  · intro c r m hr hx
    rw [eX _ _ _ hr] at hx
    exact absurd hx ff
  · intro c r r' m h1 _ h3 _
    rw [eX _ _ _ h1] at h3
    exact absurd h3 ff
  · intro c m
    rw [eC]
    exact ⟨fun h => absurd h ff, fun ⟨r, h1, h2⟩ => by rw [eX _ _ _ h1] at h2; exact h2⟩
  · intro t m
    rw [eT]
    exact ⟨fun h => absurd h ff, fun ⟨r, h1, h2⟩ => by rw [eC] at h1; exact h1⟩
  · intro c c' m h1 _ _
    rw [eC] at h1
    exact absurd h1 ff
  · intro r m hr
    rw [eR _ _ hr]
    exact ⟨fun h => absurd h ff, fun ⟨c, h1⟩ => by rw [eX _ _ _ hr] at h1; exact h1⟩
  · intro c c' r m hr h1 _
    rw [eX _ _ _ hr] at h1
    exact absurd h1 ff
  · intro k m
    rw [eH]
    exact ⟨fun h => absurd h ff, fun ⟨c, h1, h2⟩ => by rw [eC] at h1; exact h1⟩
  · intro c c' k m h1 _ _ _
    rw [eC] at h1
    exact absurd h1 ff
  · intro c _
    have : plc s' c = 0 := ct_zero (fun k _ => eC c k)
    omega
  · intro c d
    rw [ct_zero (fun k _ => eC c _)]
    omega
theorem sS_nf {i : Nat} {v : Int32} (h : nf s) (hi : i < 6) : nf (sS s i v) := ⟨fun k hk => by
  show upF s.1 i v k = 0
  rw [upF_ne (by omega)]
  exact h.1 k hk, h.2.1, h.2.2⟩
theorem sN_nf {i k : Nat} {v : Int32} (h : nf s) (hk : k < bN i) : nf (sN s i (upF (s.2.1 i) k v)) := ⟨h.1, fun i' q hq => by
  by_cases e : i' = i
  · subst e
    show upF s.2.1 i' _ i' q = 0
    rw [upF_at, upF_ne (by omega)]
    exact h.2.1 i' q hq
  · show upF s.2.1 i _ i' q = 0
    rw [upF_ne e]
    exact h.2.1 i' q hq, h.2.2⟩
theorem cl {k : Nat} (h : k < 2 ^ 31) : (nI k).toNatClampNeg = k := nI_clamp h
theorem inv_group (h : inv s) (hg : nG s < 8) : inv (sS s 2 (nI (nG s + 1))) := by
  have hh := h
  obtain ⟨h0, hn, hf, hl, hb, bp, bd, bb, bo⟩ := h
  have e : nG (sS s 2 (nI (nG s + 1))) = nG s + 1 := cl (by omega)
  refine inv_cong hh (sS_nf h0 (by decide)) ⟨hn.1, hn.2.1, ⟨by rw [e]; rfl, by omega⟩, hn.2.2.2⟩ (fun c hc => ?_) hl (fun _ _ => rfl) (Nat.le_refl _) (Nat.le_refl _) rfl rfl (fun _ _ _ => ⟨rfl, fun _ => rfl⟩) bp bb bo
  obtain ⟨⟨f1, f2⟩, f3, f4⟩ := hf c hc
  refine ⟨⟨f1, ?_⟩, ?_, f4⟩
  · rw [e]
    exact Nat.lt_succ_of_lt f2
  · rw [e]
    rcases f3 with f3 | ⟨f3, f5, f6⟩
    · exact .inl f3
    · exact .inr ⟨f3, Nat.lt_succ_of_lt f5, f6⟩
theorem inv_teacher (h : inv s) {a b : Int32} (hg : nT s < 8) : inv (sS (sN (sN s 0 (upF (s.2.1 0) (nT s * 2 + 0) a)) 0 (upF (upF (s.2.1 0) (nT s * 2 + 0) a) (nT s * 2 + 1) b)) 3 (nI (nT s + 1))) := by
  have hh := h
  obtain ⟨h0, hn, hf, hl, hb, bp, bd, bb, bo⟩ := h
  have e : nT (sS (sN (sN s 0 (upF (s.2.1 0) (nT s * 2 + 0) a)) 0 (upF (upF (s.2.1 0) (nT s * 2 + 0) a) (nT s * 2 + 1) b)) 3 (nI (nT s + 1))) = nT s + 1 := cl (by omega)
  have n1 : nf (sN s 0 (upF (s.2.1 0) (nT s * 2 + 0) a)) := sN_nf h0 (show nT s * 2 + 0 < 16 by omega)
  have n2 := sN_nf (i := 0) (k := nT s * 2 + 1) (v := b) n1 (show nT s * 2 + 1 < 16 by omega)
  refine inv_cong hh (sS_nf n2 (by decide)) ⟨hn.1, hn.2.1, hn.2.2.1, ⟨by rw [e]; rfl, by omega⟩, hn.2.2.2.2⟩ (fun c hc => ?_) hl (fun _ _ => rfl) (Nat.le_refl _) (Nat.le_refl _) rfl rfl (fun _ _ _ => ⟨rfl, fun _ => rfl⟩) bp bb bo
  obtain ⟨f1, f2, f3, f4, f5⟩ := hf c hc
  refine ⟨f1, f2, f3, f4, ?_⟩
  rw [e]
  exact Nat.lt_succ_of_lt f5
theorem inv_room (h : inv s) {a : Int32} (hg : nR s < 6) : inv (sS (sN s 1 (upF (s.2.1 1) (nR s * 1 + 0) a)) 4 (nI (nR s + 1))) := by
  have hh := h
  obtain ⟨h0, hn, hf, hl, hb, bp, bd, bb, bo⟩ := h
  have e : nR (sS (sN s 1 (upF (s.2.1 1) (nR s * 1 + 0) a)) 4 (nI (nR s + 1))) = nR s + 1 := cl (by omega)
  have n1 : nf (sN s 1 (upF (s.2.1 1) (nR s * 1 + 0) a)) := sN_nf h0 (show nR s * 1 + 0 < 6 by omega)
  exact inv_cong hh (sS_nf n1 (by decide)) ⟨hn.1, hn.2.1, hn.2.2.1, hn.2.2.2.1, ⟨by rw [e]; rfl, by omega⟩, hn.2.2.2.2.2⟩ hf hl (fun _ _ => rfl) (Nat.le_refl _) (by rw [e]; omega) rfl rfl (fun _ _ _ => ⟨rfl, fun _ => rfl⟩) bp bb bo
theorem inv_holiday (h : inv s) {d : Nat} {b : Bool} (hd : d < 400) : inv (sJs s 0 (d / 64) (d % 64) b) := by
  have hh := h
  obtain ⟨h0, hn, hf, hl, hb, bp, bd, bb, bo⟩ := h
  refine inv_cong hh (sJs_nf h0 (show d / 64 < 7 by omega)) hn hf hl (fun i hi => ?_) (Nat.le_refl _) (Nat.le_refl _) rfl rfl (fun _ _ _ => ⟨rfl, fun _ => rfl⟩) bp bb (fun e he => ?_)
  · exact upF_ne (by omega)
  · have he : bt6 ((sJs s 0 (d / 64) (d % 64) b).2.2 0 (e / 64)) (e % 64) = true := he
    rw [sJs_bit (by omega)] at he
    split at he
    · omega
    · exact bo e he
theorem inv_bar (h : inv s) {t m : Nat} {b : Bool} (ht : t < 8) (hm : m < slS s) : inv (sJs s 1 t m b) := by
  have hh := h
  have h48 := (sl48 hh).1
  obtain ⟨h0, hn, hf, hl, hb, bp, bd, bb, bo⟩ := h
  refine inv_cong hh (sJs_nf h0 (show t < 8 from ht)) hn hf hl (fun i hi => ?_) (Nat.le_refl _) (Nat.le_refl _) rfl rfl (fun _ _ _ => ⟨rfl, fun _ => rfl⟩) bp (fun t' m' he => ?_) bo
  · exact upF_ne (by omega)
  · have he : bt6 ((sJs s 1 t m b).2.2 1 t') m' = true := he
    rw [sJs_bit (by omega)] at he
    show m' < slS s
    split at he
    · omega
    · exact bb t' m' he
theorem inv_cycle (h : inv s) {d p : Nat} (h1 : 2 ≤ d) (h2 : d ≤ 8) (h3 : 2 ≤ p) (h4 : p ≤ 6) (hno : plcAll s = 0) : inv (sJ (sS (sS s 0 (nI d)) 1 (nI p)) 1 (fun _ => 0)) := by
  have hh := h
  obtain ⟨h0, hn, hf, hl, hb, bp, bd, bb, bo⟩ := h
  have hz : ∀ n, sm (plc s) n = 0 → ∀ c, c < n → plc s c = 0 := by
    intro n
    induction n with
    | zero => exact fun _ c hc => absurd hc (Nat.not_lt_zero _)
    | succ n ih =>
      intro e c hc
      have e2 : sm (plc s) n + plc s n = 0 := e
      by_cases e3 : c = n
      · subst e3
        omega
      · exact ih (by omega) c (by omega)
  have hcz : ∀ (f : Nat → Bool) n, ct f n = 0 → ∀ k, k < n → f k = false := by
    intro f n
    induction n with
    | zero => exact fun _ c hc => absurd hc (Nat.not_lt_zero _)
    | succ n ih =>
      intro e c hc
      have e2 : ct f n + (if f n = true then 1 else 0) = 0 := e
      by_cases e3 : c = n
      · subst e3
        cases e4 : f c
        · rfl
        · rw [e4] at e2
          simp at e2
      · exact ih (by omega) c (by omega)
  have hno2 : ∀ c m, hC s c m = false := fun c m => by
    cases e : hC s c m
    · rfl
    · have h5 := inv_C hh e
      have h20 := nC20 hh
      have h48 := (sl48 hh).1
      have h6 := hz 20 hno c (by omega)
      have h7 : hC s c m = false := hcz _ 64 h6 m (by omega)
      rw [h7] at e
      exact absurd e (by decide)
  have e0 : nD (sJ (sS (sS s 0 (nI d)) 1 (nI p)) 1 (fun _ => 0)) = d := cl (by omega)
  have e1 : nP (sJ (sS (sS s 0 (nI d)) 1 (nI p)) 1 (fun _ => 0)) = p := cl (by omega)
  refine inv_none hh hno2 ?_ ⟨⟨by rw [e0]; rfl, by omega⟩, ⟨by rw [e1]; rfl, by omega⟩, hn.2.2⟩ hf hl (fun i hi => upF_ne (by omega)) (fun t m he => ?_) bo
  · have n1 := sS_nf (i := 1) (v := nI p) (sS_nf (i := 0) (v := nI d) h0 (by decide)) (by decide)
    refine ⟨n1.1, n1.2.1, fun i q hq => ?_⟩
    by_cases e : i = 1
    · subst e
      show upF s.2.2 1 (fun _ => 0) 1 q = 0
      rw [upF_at]
    · show upF s.2.2 1 (fun _ => 0) i q = 0
      rw [upF_ne e]
      exact h0.2.2 i q hq
  · exfalso
    have he : bt6 (0 : Int64) m = true := he
    unfold bt6 at he
    simp at he
end
