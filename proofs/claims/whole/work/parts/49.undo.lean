/-! THE TWO AGREE: undo, keep, restore -/
section
variable {sc : Nat × (Nat → Int32)} {g : SG} {fs n j : Nat} {Q : Option Value → ri_W → Prop}
theorem segW_mdl {s s1 : SV} {h : Nat → Int32} (hh : ∀ k, k < 1892 → h k = mdl s k) : segW (mdl s1) 0 1892 h = mdl s := by
  funext q
  by_cases e : q < 1892
  · have := segW_in (f := mdl s1) (h := h) (a := 0) e
    rw [Nat.zero_add] at this
    rw [this, hh q e]
  · rw [segW_out (by omega)]
    unfold mdl
    rw [if_neg (by omega), if_neg (by omega), if_neg (by omega), if_neg (by omega), if_neg (by omega), if_neg (by omega), if_neg (by omega), if_neg (by omega), if_neg (by omega), if_neg (by omega), if_neg (by omega), if_neg (by omega), if_neg (by omega), if_neg (by omega)]
theorem o_undo (h : R g) : both sc 77 117 [] g := by
  have hR := h
  obtain ⟨a1, a2, a3, ⟨fs, n, h1, h2, h3, h4, h5, h6⟩, ⟨b, b1, b2, b3⟩, a6⟩ := h
  cases n with
  | zero =>
    have e0 : (nI 0 = 0) = True := eq_true nI_0
    have e1 : (nI 0 ≤ 0) = True := by decide
    have e2 : ((0 : Int32) < nI 0) = False := by decide
    refine both_q hR (v := -5) (fun Q => ?_) (fun Q => ?_)
    · simp only [↓en77, ↓u77_0, ↓u77_1, ↓u77_4, ↓u77_10, ↓u77_7, ↓u77_11, ↓u77_9, ↓u77_12, ↓u77_15, ↓u77_16, ↓u77_17, ↓u77_20, ↓u77_21, ↓u77_24, ↓u77_25, ↓u77_26, ↓u77_29, ↓u77_32, ↓u77_35, ↓u77_36, ↓u77_39, ↓mf6, h4, e1, e2, if_true, if_false]
    · simp only [↓en117, ↓u117_0, ↓u117_1, ↓u117_4, ↓u117_10, ↓u117_7, ↓u117_11, ↓u117_9, ↓u117_12, ↓u117_15, ↓u117_16, ↓u117_17, ↓u117_20, ↓u117_21, ↓u117_22, ↓u117_25, ↓u117_28, ↓u117_29, ↓u117_32, ↓df2, h5, e0, if_true, if_false]
  | succ n =>
    have e0 : ¬ nI (n + 1) = 0 := nI_ne0 (by omega) (by omega)
    have e1 : ¬ nI (n + 1) ≤ 0 := nI_nle (by omega) (by omega)
    have e2 : (0 : Int32) < nI (n + 1) := Int32.not_le.mp e1
    have hsl := @slot_lt fs n
    obtain ⟨h7, h8⟩ := h6 n (by omega)
    refine ⟨nI n, stS (gM g 2 (nI n)) 0 (g.1 (slot fs n)), gDN (gD (stS (gM g 2 (nI n)) 0 (g.1 (slot fs n))) 0 (nI n)) 0 (mdl (g.1 (slot fs n))), fun Q => ?_, fun Q => ?_, ?_⟩
    · have hh := fun Q => c_historyAt (sc := sc) (Q := Q) (g := gM g 2 (nI n)) (fs := fs) (n := n) h1 (by omega) h3
      have hc := fun Q => s_copyFrom (sc := sc) (Q := Q) (g := gM g 2 (nI n)) (j := 0) (i := slot fs n) z7 hsl.1 (by omega) (a1 _ hsl.1) (a1 0 z7)
      have g2 : (gM g 2 (nI n)).2.1 2 = nI n := rfl
      have g3 : (stS (gM g 2 (nI n)) 0 ((gM g 2 (nI n)).1 (slot fs n))).2.1 2 = nI n := rfl
      simp only [slot] at hc g3
      simp only [↓en77, ↓u77_0, ↓u77_1, ↓u77_4, ↓u77_10, ↓u77_7, ↓u77_11, ↓u77_9, ↓u77_12, ↓u77_15, ↓u77_16, ↓u77_17, ↓u77_20, ↓u77_21, ↓u77_24, ↓u77_25, ↓u77_26, ↓u77_29, ↓u77_32, ↓u77_35, ↓u77_36, ↓u77_39, ↓mf6, h4, e1, e2, if_true, if_false, nI_pred, mp6, ↓m_o, nf0, g2, hh, ↓c_v_some, ↓s_o z7, hc, ↓c_v_none, g3]
      rfl
    · have hb := fun Q => m_brings (sc := sc) (Q := Q) (c := n) (g := gD (stS (gM g 2 (nI n)) 0 (g.1 (slot fs n))) 0 (nI n)) (by omega)
      have h8' : ∀ k, k < 1892 → (gD (stS (gM g 2 (nI n)) 0 (g.1 (slot fs n))) 0 (nI n)).2.2.2.2 1 (n * 1892 + k) = mdl (g.1 (slot fs n)) k := h8
      rw [show (gD (stS (gM g 2 (nI n)) 0 (g.1 (slot fs n))) 0 (nI n)).2.2.2.2 0 = mdl (g.1 0) from a3, segW_mdl h8'] at hb
      have g1 : (stS (gM g 2 (nI n)) 0 (g.1 (slot fs n))).2.2.2.1 0 = nI (n + 1) := h5
      have g2 : (gD (stS (gM g 2 (nI n)) 0 (g.1 (slot fs n))) 0 (nI n)).2.2.2.1 0 = nI n := rfl
      have g3 : (gDN (gD (stS (gM g 2 (nI n)) 0 (g.1 (slot fs n))) 0 (nI n)) 0 (mdl (g.1 (slot fs n)))).2.2.2.1 0 = nI n := rfl
      simp only [↓en117, ↓u117_0, ↓u117_1, ↓u117_4, ↓u117_10, ↓u117_7, ↓u117_11, ↓u117_9, ↓u117_12, ↓u117_15, ↓u117_16, ↓u117_17, ↓u117_20, ↓u117_21, ↓u117_22, ↓u117_25, ↓u117_28, ↓u117_29, ↓u117_32, ↓df2, g1, e0, if_true, if_false, nI_pred, dp2, ↓d_o, g2, hb, ↓c_v_none, g3]
    · refine ⟨fun j hj => ?_, ?_, ?_, ⟨fs, n, h1, by omega, h3, rfl, rfl, fun i hi => ?_⟩, ⟨b, b1, b2, fun hb => ?_⟩, a6⟩
      · by_cases e : j = 0
        · subst e
          exact a1 _ hsl.1
        · show nf ((stS (gM g 2 (nI n)) 0 (g.1 (slot fs n))).1 j)
          rw [stS_ne e]
          exact a1 j hj
      · exact h7
      · rfl
      · have := @slot_lt fs i
        show inv ((stS (gM g 2 (nI n)) 0 (g.1 (slot fs n))).1 (slot fs i)) ∧ ∀ k, k < 1892 → g.2.2.2.2 1 (i * 1892 + k) = mdl ((stS (gM g 2 (nI n)) 0 (g.1 (slot fs n))).1 (slot fs i)) k
        rw [stS_ne (by omega)]
        exact h6 i (by omega)
      · exact b3 hb
theorem o_keep (h : R g) : both sc 78 119 [] g := by
  obtain ⟨a1, a2, a3, ⟨fs, n, h1, h2, h3, h4, h5, h6⟩, ⟨b, b1, b2, b3⟩, a6⟩ := h
  refine ⟨nI (sm (plc (g.1 0)) (nC (g.1 0))), gM (stS g 2 (g.1 0)) 0 1, gD (gDN (gM (stS g 2 (g.1 0)) 0 1) 1 (segW (g.2.2.2.2 1) 7568 1892 (mdl (g.1 0)))) 1 1, fun Q => ?_, fun Q => ?_, ?_⟩
  · have hc := fun Q => s_copyFrom (sc := sc) (Q := Q) (g := g) (j := 2) (i := 0) (by decide) z7 (by decide) (a1 0 z7) (a1 2 (by decide))
    have hp : ∀ Q, ev sc 38 [.ref (bs 0)] (Wd (gM (stS g 2 (g.1 0)) 0 1)) Q = Q (some (.int (nI (sm (plc (g.1 0)) (nC (g.1 0)))))) (Wd (gM (stS g 2 (g.1 0)) 0 1)) := fun Q => by
      rw [s_allPlaced z7, show (gM (stS g 2 (g.1 0)) 0 1).1 0 = g.1 0 from rfl, plcAll_eq a2]
    simp only [↓en78, ↓u78_0, ↓u78_1, ↓u78_4, ↓u78_5, ↓u78_8, ↓u78_11, ↓u78_12, ↓u78_13_b0, ↓u78_13_b1, ↓u78_16, ↓u78_17, ↓u78_20, ↓u78_23, ↓nf0, ↓nf2, ↓s_o z7, ↓s_o (show 2 < 7 by decide), ↓hc, ↓c_v_none, ↓mp3, ↓hp, ↓c_v_some]
  · have hk : ∀ Q, ev sc 113 [.ref 154, .int 4] (Wd (gM (stS g 2 (g.1 0)) 0 1)) Q = Q none (Wd (gDN (gM (stS g 2 (g.1 0)) 0 1) 1 (segW (g.2.2.2.2 1) 7568 1892 (mdl (g.1 0))))) := fun Q => by
      have := m_keeps (sc := sc) (Q := Q) (c := 4) (g := gM (stS g 2 (g.1 0)) 0 1) (by decide)
      rw [show (gM (stS g 2 (g.1 0)) 0 1).2.2.2.2 0 = mdl (g.1 0) from a3] at this
      exact this
    have hp := fun Q => m_placedInAll (sc := sc) (Q := Q) (g := gD (gDN (gM (stS g 2 (g.1 0)) 0 1) 1 (segW (g.2.2.2.2 1) 7568 1892 (mdl (g.1 0)))) 1 1) a2 a3
    simp only [↓en119, ↓u119_0, ↓u119_1, ↓u119_2, ↓u119_5, ↓u119_6, ↓u119_7_b0, ↓u119_7_b1, ↓u119_10, ↓u119_11, ↓u119_14, ↓d_o, ↓hk, ↓c_v_none, ↓dp3, ↓hp, ↓c_v_some]
  · refine ⟨fun j hj => ?_, a2, a3, ⟨fs, n, h1, h2, h3, h4, h5, fun i hi => ?_⟩, ⟨true, rfl, rfl, fun _ => ⟨a2, fun k hk => ?_⟩⟩, a6⟩
    · by_cases e : j = 2
      · subst e
        exact a1 0 z7
      · show nf ((stS g 2 (g.1 0)).1 j)
        rw [stS_ne e]
        exact a1 j hj
    · have := @slot_lt fs i
      show inv ((stS g 2 (g.1 0)).1 (slot fs i)) ∧ ∀ k, k < 1892 → segW (g.2.2.2.2 1) 7568 1892 (mdl (g.1 0)) (i * 1892 + k) = mdl ((stS g 2 (g.1 0)).1 (slot fs i)) k
      rw [stS_ne (by omega)]
      refine ⟨(h6 i hi).1, fun k hk => ?_⟩
      rw [segW_out (by omega)]
      exact (h6 i hi).2 k hk
    · show segW (g.2.2.2.2 1) 7568 1892 (mdl (g.1 0)) (7568 + k) = mdl (g.1 0) k
      rw [segW_in hk]
theorem o_restore (h : R g) : both sc 79 120 [] g := by
  have hR := h
  obtain ⟨a1, a2, a3, ⟨fs, n, hh⟩, ⟨b, b1, b2, b3⟩, a6⟩ := h
  cases b with
  | false =>
    refine both_q hR (v := -5) (fun Q => ?_) (fun Q => ?_)
    · simp only [↓en79, ↓u79_0, ↓u79_1, ↓u79_4, ↓u79_10, ↓u79_7, ↓u79_11, ↓u79_9, ↓u79_14, ↓u79_15, ↓u79_18, ↓u79_19, ↓u79_22, ↓u79_25, ↓u79_26, ↓u79_29, ↓u79_32, ↓mf3, b1, bI_f, n00, if_true]
    · simp only [↓en120, ↓u120_0, ↓u120_1, ↓u120_4, ↓u120_10, ↓u120_7, ↓u120_11, ↓u120_9, ↓u120_14, ↓u120_15, ↓u120_16, ↓u120_19, ↓u120_20, ↓u120_23, ↓df3, b2, bI_f, n00, if_true]
  | true =>
    obtain ⟨b4, b5⟩ := b3 rfl
    have hsl := @slot_lt (fs1 fs n) (recN n)
    have e2 : (remG g fs n).1 2 = g.1 2 := stS_ne (by omega)
    refine both_act hR hh (v := nI (sm (plc (g.1 2)) (nC (g.1 2)))) b4 (fun Q => ?_) (fun Q => ?_)
    · have hc := fun Q => s_copyFrom (sc := sc) (Q := Q) (g := remG g fs n) (j := 0) (i := 2) z7 (by decide) (by decide) (by rw [e2]; exact a1 2 (by decide)) (by rw [remG_0]; exact a1 0 z7)
      rw [e2] at hc
      have hp : ∀ Q, ev sc 38 [.ref (bs 0)] (Wd (stS (remG g fs n) 0 (g.1 2))) Q = Q (some (.int (nI (sm (plc (g.1 2)) (nC (g.1 2)))))) (Wd (stS (remG g fs n) 0 (g.1 2))) := fun Q => by
        rw [s_allPlaced z7, stS_at, plcAll_eq b4]
      simp only [↓en79, ↓u79_0, ↓u79_1, ↓u79_4, ↓u79_10, ↓u79_7, ↓u79_11, ↓u79_9, ↓u79_14, ↓u79_15, ↓u79_18, ↓u79_19, ↓u79_22, ↓u79_25, ↓u79_26, ↓u79_29, ↓u79_32, ↓mf3, b1, bI_t, n10, if_false, ↓m_o, ↓c_rem hR hh, ↓c_v_none, ↓nf0, ↓nf2, ↓s_o z7, ↓hc, ↓hp, ↓c_v_some]
    · have hr := fun Q => m_rec2 (sc := sc) (Q := Q) (g := stS (remG g fs n) 0 (g.1 2)) hh.2.1 hh.2.2.2.2.1
      have hkk : ∀ k, k < 1892 → (rec2 (stS (remG g fs n) 0 (g.1 2)) n).2.2.2.2 1 (4 * 1892 + k) = mdl (g.1 2) k := fun k hk => by
        rw [← b5 k hk]
        show recK (segW (g.2.2.2.2 1) 9460 1892 (g.2.2.2.2 0)) n (7568 + k) = _
        have hrn : recN n ≤ 3 := by
          have := hh.2.1
          unfold recN
          split <;> omega
        unfold recK recS
        rw [segW_out (by omega)]
        split
        · rw [segW_out (by omega), segW_out (by omega)]
        · rw [segW_out (by omega)]
      have hb : ∀ Q, ev sc 114 [.ref 154, .int 4] (Wd (rec2 (stS (remG g fs n) 0 (g.1 2)) n)) Q = Q none (Wd (gDN (rec2 (stS (remG g fs n) 0 (g.1 2)) n) 0 (mdl (g.1 2)))) := fun Q => by
        have := m_brings (sc := sc) (Q := Q) (c := 4) (g := rec2 (stS (remG g fs n) 0 (g.1 2)) n) (by decide)
        rw [rec2_now a3, segW_mdl hkk] at this
        exact this
      have hp := fun Q => m_placedInAll (sc := sc) (Q := Q) (g := gDN (rec2 (stS (remG g fs n) 0 (g.1 2)) n) 0 (mdl (g.1 2))) b4 gDN_at
      have g1 : (stS (remG g fs n) 0 (g.1 2)).2.2.2.1 1 = 1 := b2
      simp only [↓en120, ↓u120_0, ↓u120_1, ↓u120_4, ↓u120_10, ↓u120_7, ↓u120_11, ↓u120_9, ↓u120_14, ↓u120_15, ↓u120_16, ↓u120_19, ↓u120_20, ↓u120_23, ↓df3, g1, n10, if_false, ↓d_o, ↓hr, ↓c_v_none, ↓hb, ↓hp, ↓c_v_some]
end
