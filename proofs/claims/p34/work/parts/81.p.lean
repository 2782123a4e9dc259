/-! A STATE: the most lessons and the equipment are kept -/
section
variable {s s' : SV}
/-- a change that touches no lesson -/
theorem inv2_cong (h : inv2 s) (hi : inv s') (hT' : ∀ t, t < nT s → s'.2.2 4 t = s.2.2 4 t) (np : nP s' = nP s) (nt : ∀ t, t < nT s → tf s' t 0 = tf s t 0 ∧ tf s' t 1 = tf s t 1) (hn : ∀ t, t < nT s' → ¬ t < nT s → ∃ a b, tf s' t 0 = nI a ∧ tf s' t 1 = nI b ∧ a ≤ 40 ∧ b ≤ 6 ∧ ∀ m, hT s' t m = false) (hX' : s'.2.2 2 = s.2.2 2) (hf : ∀ c r m, r < 6 → hX s c r m = true → fact s' c 4 = fact s c 4 ∧ re s' r = re s r) : inv2 s' := by
  refine ⟨hi, fun t ht => ?_, fun c r m hr hx => ?_⟩
  · by_cases e : t < nT s
    · obtain ⟨a, b, h1, h2, h3, h4, h5, h6⟩ := h.2.1 t e
      refine ⟨a, b, by rw [(nt t e).1]; exact h1, by rw [(nt t e).2]; exact h2, h3, h4, by rw [hT' t e]; exact h5, fun d => ?_⟩
      rw [np]
      have : (fun k => hT s' t (d * nP s + k)) = (fun k => hT s t (d * nP s + k)) := by
        funext k
        unfold hT
        rw [hT' t e]
      rw [this]
      exact h6 d
    · obtain ⟨a, b, h1, h2, h3, h4, h5⟩ := hn t ht e
      refine ⟨a, b, h1, h2, h3, h4, ?_, fun d => ?_⟩
      · have : pcn (s'.2.2 4 t) = 0 := ct_zero (fun k _ => h5 k)
        omega
      · rw [ct_zero (fun k _ => h5 _)]
        omega
  · have hx2 : hX s c r m = true := by
      unfold hX at hx ⊢
      rw [hX'] at hx
      exact hx
    rw [(hf c r m hr hx2).1, (hf c r m hr hx2).2]
    exact h.2.2 c r m hr hx2
/-- the same numbers of teachers, rooms and courses' facts -/
theorem inv2_same (h : inv2 s) (hi : inv s') (h1 : s'.1 3 = s.1 3) (np : nP s' = nP s) (h2 : s'.2.1 = s.2.1) (h4 : s'.2.2 4 = s.2.2 4) (hx : s'.2.2 2 = s.2.2 2) : inv2 s' := by
  have e : nT s' = nT s := by unfold nT; rw [h1]
  refine inv2_cong h hi (fun t _ => by rw [h4]) np (fun t _ => ?_) (fun t ht hn => absurd (e ▸ ht) hn) hx (fun c r m _ _ => ?_)
  · unfold tf
    rw [h2]
    exact ⟨rfl, rfl⟩
  · unfold fact re
    rw [h2]
    exact ⟨rfl, rfl⟩
theorem i2_group (h : inv2 s) (hg : nG s < 8) : inv2 (sS s 2 (nI (nG s + 1))) := inv2_same h (inv_group h.1 hg) rfl rfl rfl rfl rfl
theorem hT_no (h : inv s) {t m : Nat} (ht : nT s ≤ t) : hT s t m = false := by
  cases e : hT s t m
  · rfl
  · obtain ⟨c, h1, h2⟩ := (h.2.2.2.2.1.2.2.2.1 t m).mp e
    have h3 := (h.2.2.1 c (inv_C h h1).1).2.2.2.2
    omega
theorem i2_teacher (h : inv2 s) {a b : Nat} (ha : a ≤ 40) (hb : b ≤ 6) (hg : nT s < 8) : inv2 (sS (sN (sN s 0 (upF (s.2.1 0) (nT s * 2 + 0) (nI a))) 0 (upF (upF (s.2.1 0) (nT s * 2 + 0) (nI a)) (nT s * 2 + 1) (nI b))) 3 (nI (nT s + 1))) := by
  have hi := inv_teacher h.1 (a := nI a) (b := nI b) hg
  have htf : ∀ t k, tf (sS (sN (sN s 0 (upF (s.2.1 0) (nT s * 2 + 0) (nI a))) 0 (upF (upF (s.2.1 0) (nT s * 2 + 0) (nI a)) (nT s * 2 + 1) (nI b))) 3 (nI (nT s + 1))) t k = upF (upF (s.2.1 0) (nT s * 2 + 0) (nI a)) (nT s * 2 + 1) (nI b) (t * 2 + k) := fun t k => by
    unfold tf
    rw [sS_2, sN_at]
  have e : nT (sS (sN (sN s 0 (upF (s.2.1 0) (nT s * 2 + 0) (nI a))) 0 (upF (upF (s.2.1 0) (nT s * 2 + 0) (nI a)) (nT s * 2 + 1) (nI b))) 3 (nI (nT s + 1))) = nT s + 1 := cl (by omega)
  refine inv2_cong h hi (fun t _ => rfl) rfl (fun t ht => ?_) (fun t ht hn => ?_) rfl (fun c r m _ _ => ⟨rfl, rfl⟩)
  · rw [htf, htf, upF_ne (by omega), upF_ne (by omega), upF_ne (by omega), upF_ne (by omega)]
    exact ⟨rfl, rfl⟩
  · rw [e] at ht
    obtain rfl : t = nT s := by omega
    refine ⟨a, b, ?_, ?_, ha, hb, fun m => ?_⟩
    · rw [htf, upF_ne (by omega), upF_at]
    · rw [htf, upF_at]
    · show hT s (nT s) m = false
      exact hT_no h.1 (Nat.le_refl _)
theorem i2_room (h : inv2 s) {a : Int32} (hg : nR s < 6) : inv2 (sS (sN s 1 (upF (s.2.1 1) (nR s * 1 + 0) a)) 4 (nI (nR s + 1))) := by
  refine inv2_cong h (inv_room h.1 hg) (fun t _ => rfl) rfl (fun t _ => ⟨rfl, rfl⟩) (fun t ht hn => absurd ht hn) rfl (fun c r m hr hx => ⟨rfl, ?_⟩)
  have := (h.1.2.2.2.2.1.1 c r m hr hx).2.1
  unfold re
  rw [sS_2, sN_at, upF_ne (by omega)]
theorem i2_holiday (h : inv2 s) {d : Nat} {b : Bool} (hd : d < 400) : inv2 (sJs s 0 (d / 64) (d % 64) b) := inv2_same h (inv_holiday h.1 hd) rfl rfl rfl (show (sJ s 0 _).2.2 4 = s.2.2 4 from sJ_ne (by decide)) (show (sJ s 0 _).2.2 2 = s.2.2 2 from sJ_ne (by decide))
theorem i2_bar (h : inv2 s) {t m : Nat} {b : Bool} (ht : t < 8) (hm : m < slS s) : inv2 (sJs s 1 t m b) := inv2_same h (inv_bar h.1 ht hm) rfl rfl rfl (show (sJ s 1 _).2.2 4 = s.2.2 4 from sJ_ne (by decide)) (show (sJ s 1 _).2.2 2 = s.2.2 2 from sJ_ne (by decide))
theorem i2_cycle (h : inv2 s) {d p : Nat} (h1 : 2 ≤ d) (h2 : d ≤ 8) (h3 : 2 ≤ p) (h4 : p ≤ 6) (hno : plcAll s = 0) : inv2 (sJ (sS (sS s 0 (nI d)) 1 (nI p)) 1 (fun _ => 0)) := by
  have hi := inv_cycle h.1 h1 h2 h3 h4 hno
  have hz : ∀ (f : Nat → Nat) n, sm f n = 0 → ∀ c, c < n → f c = 0 := by
    intro f n
    induction n with
    | zero => exact fun _ c hc => absurd hc (Nat.not_lt_zero _)
    | succ n ih =>
      intro e c hc
      have e2 : sm f n + f n = 0 := e
      by_cases e3 : c = n
      · subst e3
        omega
      · exact ih (by omega) c (by omega)
  have hcz : ∀ (f : Nat → Bool) n, ct f n = 0 → ∀ k, k < n → f k = false := by
    intro f n
    induction n with
    | zero => exact fun _ c hc => absurd hc (Nat.not_lt_zero _)
    | succ n ih =>
      intro e c hc
      have e2 : ct f n + (if f n = true then 1 else 0) = 0 := e
      by_cases e3 : c = n
      · subst e3
        cases e4 : f c
        · rfl
        · rw [e4] at e2
          simp at e2
      · exact ih (by omega) c (by omega)
  have hC0 : ∀ c m, hC s c m = false := fun c m => by
    cases e : hC s c m
    · rfl
    · have h5 := inv_C h.1 e
      have h20 := nC20 h.1
      have h48 := (sl48 h.1).1
      have h6 := hz _ 20 hno c (by omega)
      have h7 : hC s c m = false := hcz _ 64 h6 m (by omega)
      rw [h7] at e
      exact absurd e (by decide)
  have hT0 : ∀ t m, hT s t m = false := fun t m => by
    cases e : hT s t m
    · rfl
    · obtain ⟨c, h5, -⟩ := (h.1.2.2.2.2.1.2.2.2.1 t m).mp e
      rw [hC0] at h5
      exact absurd h5 (by decide)
  refine ⟨hi, fun t ht => ?_, fun c r m hr hx => ?_⟩
  · obtain ⟨a, b, k1, k2, k3, k4, -, -⟩ := h.2.1 t ht
    refine ⟨a, b, k1, k2, k3, k4, ?_, fun e => ?_⟩
    · have : pcn ((sJ (sS (sS s 0 (nI d)) 1 (nI p)) 1 (fun _ => 0)).2.2 4 t) = 0 := ct_zero (fun k _ => hT0 t k)
      omega
    · have : ct (fun k => hT (sJ (sS (sS s 0 (nI d)) 1 (nI p)) 1 (fun _ => 0)) t (e * nP (sJ (sS (sS s 0 (nI d)) 1 (nI p)) 1 (fun _ => 0)) + k)) (nP (sJ (sS (sS s 0 (nI d)) 1 (nI p)) 1 (fun _ => 0))) = 0 := ct_zero (fun k _ => hT0 t _)
      omega
  · have hx2 : hX s c r m = true := hx
    exact h.2.2 c r m hr hx2
theorem i2_join (h : inv2 s) {c x : Nat} (hc : c < nC s) (hx : x < nG s) (h2 : fact s c 2 = 0) (hp : plc s c = 0) : inv2 (sN s 2 (upF (s.2.1 2) (c * 6 + 1) (nI x))) := by
  refine inv2_cong h (inv_join h.1 hc hx h2 hp) (fun t _ => rfl) rfl (fun t _ => ⟨rfl, rfl⟩) (fun t ht hn => absurd ht hn) rfl (fun c' r m hr hx' => ⟨?_, rfl⟩)
  unfold fact
  rw [sN_at, upF_ne (by omega)]
theorem i2_course (h : inv2 s) {x p t l : Nat} {q : Int32} (hc : nC s < 20) (hx : x < nG s) (hp : p ≤ 2) (ht : t < nT s) (hl1 : 1 ≤ l) (hl2 : l ≤ 10) : inv2 (sS (sN s 2 (newF (s.2.1 2) (nC s) (nI x) (-5) (nI p) (nI t) q (nI l))) 5 (nI (nC s + 1))) := by
  refine inv2_cong h (inv_course h.1 hc hx hp ht hl1 hl2) (fun t _ => rfl) rfl (fun t _ => ⟨rfl, rfl⟩) (fun t ht hn => absurd ht hn) rfl (fun c' r m hr hx' => ⟨?_, rfl⟩)
  have := (h.1.2.2.2.2.1.1 c' r m hr hx').1
  unfold fact
  rw [sS_2, sN_at]
  unfold newF
  rw [upF_ne (by omega), upF_ne (by omega), upF_ne (by omega), upF_ne (by omega), upF_ne (by omega), upF_ne (by omega)]
theorem tf_setL {c m r t k : Nat} {b : Bool} : tf (setL s c m r b) t k = tf s t k := by
  unfold tf
  rw [setL_21]
theorem re_setL {c m r k : Nat} {b : Bool} : re (setL s c m r b) k = re s k := by
  unfold re
  rw [setL_21]
theorem i2_out (h : inv2 s) {c m r : Nat} (hr : r < 6) (hx : hX s c r m = true) : inv2 (setL s c m r false) := by
  have h48 := (sl48 h.1).1
  have hm := (h.1.2.2.2.2.1.1 c r m hr hx).2.2
  have hm6 : m < 64 := by omega
  have hTm : ∀ t k, hT (setL s c m r false) t k = true → hT s t k = true := fun t k hk => by
    rw [setL_T hm6] at hk
    split at hk
    · exact absurd hk (by decide)
    · exact hk
  refine ⟨inv_out h.1 hr hx, fun t ht => ?_, fun c' r' m' hr' hx' => ?_⟩
  · rw [setL_nT] at ht
    obtain ⟨a, b, k1, k2, k3, k4, k5, k6⟩ := h.2.1 t ht
    refine ⟨a, b, by rw [tf_setL]; exact k1, by rw [tf_setL]; exact k2, k3, k4, ?_, fun d => ?_⟩
    · exact Nat.le_trans (ct_mono (fun k _ hk => hTm t k hk)) k5
    · rw [setL_nP]
      exact Nat.le_trans (ct_mono (fun k _ hk => hTm t _ hk)) (k6 d)
  · rw [setL_X hm6 hr hr'] at hx'
    rw [setL_fact, re_setL]
    split at hx'
    · exact absurd hx' (by decide)
    · exact h.2.2 c' r' m' hr' hx'
theorem i2_in (h : inv2 s) {c m r : Nat} (hc : c < nC s) (hr : r < nR s) (hm : m < slS s) (h0 : fstS s c m r = 0) : inv2 (setL s c m r true) := by
  have h48 := (sl48 h.1).1
  have h6 := nR6 h.1
  have hP := nP6 h.1
  have hP2 : 2 ≤ nP s := h.1.2.1.2.1.2.1
  have hm6 : m < 64 := by omega
  have hr6 : r < 6 := by omega
  have hre : reaS s c m = 0 ∧ rooS s c m r = 0 := by
    unfold fstS at h0
    by_cases e : reaS s c m = 0
    · rw [if_pos e] at h0
      exact ⟨e, h0⟩
    · rw [if_neg e] at h0
      exact absurd h0 e
  obtain ⟨a1, a2, a3, a4, a5, a6, a7⟩ := reaS_iff.mp hre.1
  have hfT := (h.1.2.2.1 c hc).2.2.2.2
  refine ⟨inv_in h.1 hc hr hm h0, fun t ht => ?_, fun c' r' m' hr' hx' => ?_⟩
  · rw [setL_nT] at ht
    obtain ⟨a, b, k1, k2, k3, k4, k5, k6⟩ := h.2.1 t ht
    refine ⟨a, b, by rw [tf_setL]; exact k1, by rw [tf_setL]; exact k2, k3, k4, ?_, fun d => ?_⟩
    · by_cases e : t = fT s c
      · subst e
        rw [k1] at a6
        have hb := pcn_le (s.2.2 4 (fT s c))
        have a6' := (nI_ltI (a := pcn (s.2.2 4 (fT s c))) (b := a) (by omega) (by omega)).mp a6
        refine Nat.le_trans (ct_one (p := bt6 ((setL s c m r true).2.2 4 (fT s c))) (q := bt6 (s.2.2 4 (fT s c))) (a := m) (fun k _ hk => ?_)) a6'
        show hT (setL s c m r true) (fT s c) k = hT s (fT s c) k
        rw [setL_T hm6, if_neg (fun e => hk e.2)]
      · refine Nat.le_trans (ct_mono (fun k _ hk => ?_)) k5
        have hk2 : hT (setL s c m r true) t k = true := hk
        rw [setL_T hm6, if_neg (fun e2 => e e2.1)] at hk2
        exact hk2
    · rw [setL_nP]
      by_cases e : t = fT s c ∧ d = m / nP s
      · obtain ⟨rfl, rfl⟩ := e
        rw [k2] at a5
        have hb := ct_le (fun k => hT s (fT s c) (m / nP s * nP s + k)) (nP s)
        have a5' := (nI_ltI (a := ct (fun k => hT s (fT s c) (m / nP s * nP s + k)) (nP s)) (b := b) (by omega) (by omega)).mp a5
        refine Nat.le_trans (ct_one (q := fun k => hT s (fT s c) (m / nP s * nP s + k)) (a := m % nP s) (fun k _ hk => ?_)) a5'
        have hdm := Nat.div_add_mod m (nP s)
        rw [setL_T hm6, if_neg]
        rintro ⟨-, e2⟩
        rw [Nat.mul_comm] at e2
        omega
      · refine Nat.le_trans (ct_mono (fun k hk hk1 => ?_)) (k6 d)
        rw [setL_T hm6] at hk1
        split at hk1
        · rename_i e2
          exfalso
          refine e ⟨e2.1, ?_⟩
          rw [← e2.2]
          rw [Nat.mul_comm, Nat.mul_add_div (by omega), Nat.div_eq_of_lt hk, Nat.add_zero]
        · exact hk1
  · rw [setL_X hm6 hr6 hr'] at hx'
    rw [setL_fact, re_setL]
    split at hx'
    · rename_i e
      obtain ⟨rfl, rfl, rfl⟩ := e
      have h9 := hre.2
      unfold rooS at h9
      split at h9
      · exact absurd h9 (by decide)
      · split at h9
        · assumption
        · exact absurd h9 (by decide)
    · exact h.2.2 c' r' m' hr' hx'
theorem i2_fill {c : Nat} : ∀ (d i : Nat) (s : SV), inv2 s → c < nC s → i + d = slS s → inv2 (fillS s c d i)
  | 0, _, s, hI, _, _ => hI
  | d + 1, i, s, hI, hc, hi => by
    cases e : lowR s c i with
    | none =>
      rw [fillS_n e]
      exact i2_fill d (i + 1) s hI hc (by omega)
    | some r =>
      obtain ⟨r1, r2, r3⟩ := lowR_some e
      rw [fillS_s e]
      exact i2_fill (c := c) d (i + 1) (setL s c i r true) (i2_in hI hc r1 (by omega) r2) (by rw [setL_nC]; exact hc) (by rw [setL_sl]; omega)
end
