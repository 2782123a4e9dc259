/-! THE TWO AGREE: acts that change the state at once -/
def rec2 (g : SG) (n : Nat) : SG := gD (gDN g 1 (recK (segW (g.2.2.2.2 1) 9460 1892 (g.2.2.2.2 0)) n)) 0 (nI (recN n + 1))
section
variable {sc : Nat × (Nat → Int32)} {g : SG} {fs n : Nat} {Q : Option Value → ri_W → Prop}
theorem m_rec2 (hn : n ≤ 4) (hs : g.2.2.2.1 0 = nI n) : ev sc 116 [.ref 154] (Wd g) Q = Q none (Wd (rec2 g n)) := m_records hn hs
theorem fin_eq {s : SV} : gDN (rec2 (stS (remG g fs n) 0 s) n) 0 (mdl s) = fin g fs n (segW (g.2.2.2.2 1) 9460 1892 (g.2.2.2.2 0)) s := rfl
theorem remG_0 : (remG g fs n).1 0 = g.1 0 := stS_ne (by have := @slot_lt (fs1 fs n) (recN n); omega)
theorem R_act (h : R g) (hh : Rh g fs n) {s : SV} (hs : inv s) : R (fin g fs n (segW (g.2.2.2.2 1) 9460 1892 (g.2.2.2.2 0)) s) := R_fin h hh hs (fun q hq => segW_out (by omega)) (fun k hk => by rw [segW_in hk, h.2.2.1])
theorem both_act (h : R g) (hh : Rh g fs n) {y1 y2 : Nat} {as : List Value} {v : Int32} {s : SV} (hs : inv s) (h1 : ∀ Q, ev sc y1 (.ref 0 :: as) (Wd g) Q = Q (some (.int v)) (Wd (stS (remG g fs n) 0 s))) (h2 : ∀ Q, ev sc y2 (.ref 154 :: as) (Wd (stS (remG g fs n) 0 s)) Q = Q (some (.int v)) (Wd (gDN (rec2 (stS (remG g fs n) 0 s) n) 0 (mdl s)))) : both sc y1 y2 as g := ⟨v, _, _, h1, h2, by rw [fin_eq]; exact R_act h hh hs⟩
/-- remembering, as the class does it -/
theorem c_rem (h : R g) (hh : Rh g fs n) : ev sc 97 [.ref 0] (Wd g) Q = Q none (Wd (remG g fs n)) := c_remember h.1 hh.1 hh.2.1 hh.2.2.1 hh.2.2.2.1
theorem rg2 {s : SV} : (stS (remG g fs n) 0 s).2.2 = g.2.2 := rfl
theorem sS_at {s : SV} {i : Nat} {v : Int32} : (sS s i v).1 i = v := upF_at
theorem sS_ne {s : SV} {i k : Nat} {v : Int32} (h : k ≠ i) : (sS s i v).1 k = s.1 k := upF_ne h
theorem sN_at {s : SV} {i : Nat} {f : Nat → Int32} : (sN s i f).2.1 i = f := upF_at
theorem mdl_sS {s : SV} {i : Nat} {v : Int32} (hi : i < 6) : upF (mdl s) i v = mdl (sS s i v) := by
  funext q
  by_cases e : q = i
  · rw [e, upF_at, mdl_n hi, sS_at]
  · rw [upF_ne e]
    unfold mdl
    rw [sS_ne e, sS_2]
    rfl
theorem mdl_sN0 {s : SV} {k : Nat} {v : Int32} (hk : k < 16) : upF (mdl s) (6 + k) v = mdl (sN s 0 (upF (s.2.1 0) k v)) := by
  funext q
  by_cases e : q = 6 + k
  · rw [e, upF_at]
    unfold mdl
    rw [if_neg (by omega), if_pos (by omega), sN_at, show 6 + k - 6 = k by omega, upF_at]
  · rw [upF_ne e]
    unfold mdl
    rw [sN_1, sN_ne (show 1 ≠ 0 by decide), sN_ne (show 2 ≠ 0 by decide), sN_at]
    split
    · rfl
    · split
      · rw [upF_ne (by omega)]
      · rfl
theorem mdl_sN1 {s : SV} {k : Nat} {v : Int32} (hk : k < 6) : upF (mdl s) (22 + k) v = mdl (sN s 1 (upF (s.2.1 1) k v)) := by
  funext q
  by_cases e : q = 22 + k
  · rw [e, upF_at]
    unfold mdl
    rw [if_neg (by omega), if_neg (by omega), if_pos (by omega), sN_at, show 22 + k - 22 = k by omega, upF_at]
  · rw [upF_ne e]
    unfold mdl
    rw [sN_1, sN_ne (show 0 ≠ 1 by decide), sN_ne (show 2 ≠ 1 by decide), sN_at]
    split
    · rfl
    · split
      · rfl
      · split
        · rw [upF_ne (by omega)]
        · rfl
theorem mdl_sN2 {s : SV} {k : Nat} {v : Int32} (hk : k < 120) : upF (mdl s) (28 + k) v = mdl (sN s 2 (upF (s.2.1 2) k v)) := by
  funext q
  by_cases e : q = 28 + k
  · rw [e, upF_at]
    unfold mdl
    rw [if_neg (by omega), if_neg (by omega), if_neg (by omega), if_pos (by omega), sN_at, show 28 + k - 28 = k by omega, upF_at]
  · rw [upF_ne e]
    unfold mdl
    rw [sN_1, sN_ne (show 0 ≠ 2 by decide), sN_ne (show 1 ≠ 2 by decide), sN_at]
    split
    · rfl
    · split
      · rfl
      · split
        · rfl
        · split
          · rw [upF_ne (by omega)]
          · rfl
theorem mdl_bar {s : SV} {t m : Nat} {b : Bool} (ht : t < 8) (hm : m < 48) : upF (mdl s) (1108 + 48 * t + m) (bI b) = mdl (sJs s 1 t m b) := by
  have hm6 : m < 64 := by omega
  have eB : ∀ t' m', hB (sJs s 1 t m b) t' m' = if t' = t ∧ m' = m then b else hB s t' m' := fun t' m' => by
    unfold hB
    rw [sJs_bit hm6]
    simp
  have eX : ∀ c m', rmS (sJs s 1 t m b) c m' = rmS s c m' := fun c m' => rfl
  have eH : ∀ d, hol (sJs s 1 t m b) d = hol s d := fun d => rfl
  funext q
  by_cases e : q = 1108 + 48 * t + m
  · rw [e, upF_at, mdl_b ht hm, eB, if_pos ⟨rfl, rfl⟩]
  · rw [upF_ne e]
    unfold mdl
    rw [sJs_1, sJs_21, eX, eB, eH]
    split
    · rfl
    · split
      · rfl
      · split
        · rfl
        · split
          · rfl
          · split
            · rfl
            · split
              · rw [if_neg (by omega)]
              · rfl
theorem mdl_hol {s : SV} {d : Nat} {b : Bool} (hd : d < 400) : upF (mdl s) (1492 + d) (bI b) = mdl (sJs s 0 (d / 64) (d % 64) b) := by
  have eB : ∀ d', hol (sJs s 0 (d / 64) (d % 64) b) d' = if d' = d then b else hol s d' := fun d' => by
    unfold hol
    rw [sJs_bit (by omega)]
    by_cases e : d' = d
    · rw [if_pos (by rw [e]; exact ⟨rfl, rfl, rfl⟩), if_pos e]
    · rw [if_neg (by omega), if_neg e]
  have eX : ∀ c m', rmS (sJs s 0 (d / 64) (d % 64) b) c m' = rmS s c m' := fun c m' => rfl
  have eH : ∀ t m, hB (sJs s 0 (d / 64) (d % 64) b) t m = hB s t m := fun t m => rfl
  funext q
  by_cases e : q = 1492 + d
  · rw [e, upF_at, mdl_h hd, eB, if_pos rfl]
  · rw [upF_ne e]
    unfold mdl
    rw [sJs_1, sJs_21, eX, eB, eH]
    split
    · rfl
    · split
      · rfl
      · split
        · rfl
        · split
          · rfl
          · split
            · rfl
            · split
              · rfl
              · split
                · rw [if_neg (by omega)]
                · rfl
theorem o_addGroup (h : R g) : both sc 63 127 [] g := by
  have hI := h.2.1
  have hM := h.2.2.1
  have hG8 := nG8 hI
  obtain ⟨fs, n, hh⟩ := h.2.2.2.1
  by_cases e : nG (g.1 0) = 8
  · have e1 : (g.1 0).1 2 = 8 := by rw [nG_eq hI, e]; rfl
    refine both_q h (v := -3) (fun Q => ?_) (fun Q => ?_)
    · simp only [↓en63, ↓u63_0, ↓u63_1, ↓u63_4, ↓u63_7, ↓u63_9, ↓u63_15, ↓u63_12, ↓u63_16, ↓u63_14, ↓u63_19, ↓u63_20, ↓u63_23, ↓u63_26, ↓u63_27, ↓u63_28, ↓u63_31, ↓u63_32, ↓u63_33, ↓u63_34, ↓u63_37, ↓u63_38, ↓nf0, ↓sf2 z7, e1, show ((8 : Int32) < 8) = False by decide, show ((8 : Int32) ≤ 8) = True by decide, if_true, if_false]
    · simp only [↓en127, ↓u127_0, ↓u127_1, ↓u127_4, ↓u127_5, ↓u127_6, ↓u127_8, ↓u127_14, ↓u127_11, ↓u127_15, ↓u127_13, ↓u127_18, ↓u127_19, ↓u127_22, ↓u127_23, ↓u127_24, ↓u127_25, ↓u127_26, ↓u127_27, ↓u127_28, ↓u127_29, ↓u127_32, ↓u127_33, ↓u127_34, ↓u127_35, ↓u127_36, ↓df0, ↓dI0, r2, m2, if_true, if_false, hM, mdl_n (show 2 < 6 by decide), e1]
  · have hg : nG (g.1 0) < 8 := by omega
    have c1 : nI (nG (g.1 0)) < 8 := nI_lt (b := 8) hg (by decide)
    have c2 : ¬ nI (nG (g.1 0)) = 8 := fun e2 => e ((nI_eq (b := 8) (by omega) (by decide)).mp e2)
    refine both_act h hh (v := nI (nG (g.1 0))) (inv_group hI hg) (fun Q => ?_) (fun Q => ?_)
    · simp only [↓en63, ↓u63_0, ↓u63_1, ↓u63_4, ↓u63_7, ↓u63_9, ↓u63_15, ↓u63_12, ↓u63_16, ↓u63_14, ↓u63_19, ↓u63_20, ↓u63_23, ↓u63_26, ↓u63_27, ↓u63_28, ↓u63_31, ↓u63_32, ↓u63_33, ↓u63_34, ↓u63_37, ↓u63_38, ↓nf0, ↓sf2 z7, nG_eq hI, c1, if_true, ↓m_o, ↓c_rem h hh, ↓c_v_none, remG_0, sp2 z7, nI_1]
    · have hM2 : (stS (remG g fs n) 0 (sS (g.1 0) 2 (nI (nG (g.1 0) + 1)))).2.2.2.2 0 = mdl (g.1 0) := hM
      have hM3 : (rec2 (stS (remG g fs n) 0 (sS (g.1 0) 2 (nI (nG (g.1 0) + 1)))) n).2.2.2.2 0 = mdl (g.1 0) := hM
      have hr := fun Q => m_rec2 (sc := sc) (Q := Q) (g := stS (remG g fs n) 0 (sS (g.1 0) 2 (nI (nG (g.1 0) + 1)))) hh.2.1 hh.2.2.2.2.1
      simp only [↓en127, ↓u127_0, ↓u127_1, ↓u127_4, ↓u127_5, ↓u127_6, ↓u127_8, ↓u127_14, ↓u127_11, ↓u127_15, ↓u127_13, ↓u127_18, ↓u127_19, ↓u127_22, ↓u127_23, ↓u127_24, ↓u127_25, ↓u127_26, ↓u127_27, ↓u127_28, ↓u127_29, ↓u127_32, ↓u127_33, ↓u127_34, ↓u127_35, ↓u127_36, ↓df0, ↓dI0, r2, m2, if_true, if_false, hM2, mdl_n (show 2 < 6 by decide), nG_eq hI, c2, ↓d_o, ↓hr, ↓c_v_none, hM3, nI_1, upF_eq, ds0, gDN_at, upF_at, mdl_sS (show 2 < 6 by decide), sS_at, nI_pred]
end
