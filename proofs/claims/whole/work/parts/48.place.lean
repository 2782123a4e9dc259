/-! THE TWO AGREE: lessons are placed and taken away -/
section
variable {s : SV}
theorem errS_0 (hI : inv s) {v m r : Int32} (h : errS s v m r = 0) : ∃ c q o, v = nI c ∧ m = nI q ∧ r = nI o ∧ c < nC s ∧ q < slS s ∧ o < nR s ∧ fstS s c q o = 0 := by
  have hsl := sl_eq hI
  have h48 := (sl48 hI).1
  have h20 := nC20 hI
  have h6 := nR6 hI
  unfold errS at h
  rw [hsl, nR_eq hI, nC_eq hI] at h
  rcases ii_cases (v := v) (n := nC s) (by omega) with ⟨c, c1, rfl, c2⟩ | ⟨-, c2⟩
  · rcases ii_cases (v := m) (n := slS s) (by omega) with ⟨q, q1, rfl, q2⟩ | ⟨-, q2⟩
    · rcases ii_cases (v := r) (n := nR s) (by omega) with ⟨o, o1, rfl, o2⟩ | ⟨-, o2⟩
      · rw [c2, q2, o2, nI_clamp (show c < 2 ^ 31 by omega), nI_clamp (show q < 2 ^ 31 by omega), nI_clamp (show o < 2 ^ 31 by omega)] at h
        refine ⟨c, q, o, rfl, rfl, rfl, c1, q1, o1, ?_⟩
        by_cases e : fstS s c q o = 0
        · exact e
        · simp [e] at h
      · rw [c2, q2, o2] at h
        simp at h
    · rw [c2, q2] at h
      simp at h
  · rw [c2] at h
    simp at h
theorem klS_1 (hI : inv s) {v m : Int32} : klS s v m = 0 ∨ (klS s v m = 1 ∧ ∃ c q r, v = nI c ∧ m = nI q ∧ c < nC s ∧ q < slS s ∧ r < nR s ∧ hC s c q = true ∧ hX s c r q = true ∧ rmS s c q = some r) := by
  have hsl := sl_eq hI
  have h48 := (sl48 hI).1
  have h20 := nC20 hI
  unfold klS
  rw [hsl, nC_eq hI]
  rcases ii_cases (v := v) (n := nC s) (by omega) with ⟨c, c1, rfl, c2⟩ | ⟨-, c2⟩
  · rcases ii_cases (v := m) (n := slS s) (by omega) with ⟨q, q1, rfl, q2⟩ | ⟨-, q2⟩
    · rw [c2, q2, nI_clamp (show c < 2 ^ 31 by omega), nI_clamp (show q < 2 ^ 31 by omega)]
      cases e : hC s c q
      · left
        simp [bI]
      · right
        obtain ⟨r, h1, h2⟩ := (hI.2.2.2.2.1.2.2.1 c q).mp e
        exact ⟨by simp [bI], c, q, r, rfl, rfl, c1, q1, (hI.2.2.2.2.1.1 c r q h1 h2).2.1, e, h2, (rm_iff hI.2.2.2.2.1.2.1).mpr ⟨h1, h2⟩⟩
    · rw [c2, q2]
      left
      simp
  · rw [c2]
    left
    simp
theorem mdl_in (hI : inv s) {c m r : Nat} (hc : c < nC s) (hm : m < slS s) (hr : r < nR s) (h0 : fstS s c m r = 0) : upF (mdl s) (148 + 48 * c + m) (nI (r + 1)) = mdl (setL s c m r true) := by
  have h48 := (sl48 hI).1
  have h20 := nC20 hI
  have h6 := nR6 hI
  have := mdl_setL (b := true) hI.2.2.2.2.1.2.1 (inv_in hI hc hr hm h0).2.2.2.2.1.2.1 (show c < 20 by omega) (show m < 48 by omega) (show r < 6 by omega) (fun e => absurd e (by decide))
  rw [this]
  rfl
theorem mdl_out (hI : inv s) {c m r : Nat} (hx : hX s c r m = true) (hr : r < 6) : upF (mdl s) (148 + 48 * c + m) 0 = mdl (setL s c m r false) := by
  have h48 := (sl48 hI).1
  have h20 := nC20 hI
  have h1 := hI.2.2.2.2.1.1 c r m hr hx
  have := mdl_setL (b := false) hI.2.2.2.2.1.2.1 (inv_out hI hr hx).2.2.2.2.1.2.1 (show c < 20 by omega) (show m < 48 by omega) hr (fun _ => (rm_iff hI.2.2.2.2.1.2.1).mpr ⟨hr, hx⟩)
  rw [this]
  rfl
end
section
variable {sc : Nat × (Nat → Int32)} {g : SG} {fs n j : Nat} {Q : Option Value → ri_W → Prop}
theorem s_set1 (hj : j < 7) (hI : inv (g.1 j)) {c m r : Nat} (hc : c < nC (g.1 j)) (hr : r < 6) : ev sc 31 [.ref (bs j), .int (nI c), .int (nI m), .int (nI r), .int 1] (Wd g) Q = Q none (Wd (stS g j (setL (g.1 j) c m r true))) := s_setLesson (b := true) hj hI.2.1 hI.2.2.1 hc hr
theorem s_set0 (hj : j < 7) (hI : inv (g.1 j)) {c m r : Nat} (hc : c < nC (g.1 j)) (hr : r < 6) : ev sc 31 [.ref (bs j), .int (nI c), .int (nI m), .int (nI r), .int 0] (Wd g) Q = Q none (Wd (stS g j (setL (g.1 j) c m r false))) := s_setLesson (b := false) hj hI.2.1 hI.2.2.1 hc hr
theorem o_place (h : R g) {v x y : Int32} : both sc 69 144 [.int v, .int x, .int y] g := by
  have hI := h.2.1
  have hM := h.2.2.1
  have h48 := (sl48 hI).1
  have h20 := nC20 hI
  have h6 := nR6 hI
  obtain ⟨fs, n, hh⟩ := h.2.2.2.1
  by_cases e : errS (g.1 0) v x y = 0
  · obtain ⟨c, m, r, rfl, rfl, rfl, c1, m1', r1', h0⟩ := errS_0 hI e
    have hi := inv_in hI c1 r1' m1' h0
    have hl := mdl_in hI c1 m1' r1' h0
    have hst := fun Q => s_set1 (sc := sc) (g := remG g fs n) (Q := Q) (m := m) (r := r) (c := c) z7 (by rw [remG_0]; exact hI) (by rw [remG_0]; exact c1) (by omega)
    rw [remG_0] at hst
    generalize hs' : setL (g.1 0) c m r true = s' at hi hl hst
    refine both_act h hh (v := nI (plc s' c)) hi (fun Q => ?_) (fun Q => ?_)
    · have hp : ∀ Q, ev sc 36 [.ref (bs 0), .int (nI c)] (Wd (stS (remG g fs n) 0 s')) Q = Q (some (.int (nI (plc s' c)))) (Wd (stS (remG g fs n) 0 s')) := fun Q => by
        rw [s_placed z7 (show c < 20 by omega), stS_at]
      simp only [↓en69, ↓u69_0, ↓u69_1, ↓u69_4, ↓u69_5, ↓u69_6, ↓u69_7, ↓u69_10, ↓u69_12, ↓u69_14, ↓u69_20, ↓u69_17, ↓u69_21, ↓u69_19, ↓u69_24, ↓u69_25, ↓u69_28, ↓u69_29, ↓u69_30, ↓u69_31, ↓u69_32, ↓u69_35, ↓u69_36, ↓u69_39, ↓u69_40, ↓u69_43, ↓nf0, ↓s_o z7, ↓s_errorOfPlacing z7 hI.2.1 hI.2.2.1, ↓c_v_some, e, n00, if_true, ↓m_o, ↓c_rem h hh, ↓c_v_none, hst, hp]
    · have hr := fun Q => m_rec2 (sc := sc) (Q := Q) (g := stS (remG g fs n) 0 s') hh.2.1 hh.2.2.2.2.1
      have hpu := fun Q => m_puts (sc := sc) (Q := Q) (g := rec2 (stS (remG g fs n) 0 s') n) (c := c) (m := m) (r := r) (rec2_now hM) (by omega) (by omega) (by omega)
      rw [hl] at hpu
      have hp := fun Q => m_placed (sc := sc) (Q := Q) (g := gDN (rec2 (stS (remG g fs n) 0 s') n) 0 (mdl s')) (c := c) hi gDN_at (by omega)
      simp only [↓en144, ↓u144_0, ↓u144_1, ↓u144_2, ↓u144_3, ↓u144_4, ↓u144_7, ↓u144_9, ↓u144_11, ↓u144_17, ↓u144_14, ↓u144_18, ↓u144_16, ↓u144_21, ↓u144_22, ↓u144_23, ↓u144_24, ↓u144_25, ↓u144_28, ↓u144_29, ↓u144_30, ↓u144_33, ↓d_o, ↓m_placeError hI (stS_now hM), ↓c_v_some, e, n00, if_true, ↓hr, ↓c_v_none, ↓hpu, ↓hp]
  · refine both_q h (v := errS (g.1 0) v x y) (fun Q => ?_) (fun Q => ?_)
    · simp only [↓en69, ↓u69_0, ↓u69_1, ↓u69_4, ↓u69_5, ↓u69_6, ↓u69_7, ↓u69_10, ↓u69_12, ↓u69_14, ↓u69_20, ↓u69_17, ↓u69_21, ↓u69_19, ↓u69_24, ↓u69_25, ↓u69_28, ↓u69_29, ↓u69_30, ↓u69_31, ↓u69_32, ↓u69_35, ↓u69_36, ↓u69_39, ↓u69_40, ↓u69_43, ↓nf0, ↓s_o z7, ↓s_errorOfPlacing z7 hI.2.1 hI.2.2.1, ↓c_v_some, e, if_false]
    · simp only [↓en144, ↓u144_0, ↓u144_1, ↓u144_2, ↓u144_3, ↓u144_4, ↓u144_7, ↓u144_9, ↓u144_11, ↓u144_17, ↓u144_14, ↓u144_18, ↓u144_16, ↓u144_21, ↓u144_22, ↓u144_23, ↓u144_24, ↓u144_25, ↓u144_28, ↓u144_29, ↓u144_30, ↓u144_33, ↓d_o, ↓m_placeError hI hM, ↓c_v_some, e, if_false]
theorem o_takeAway (h : R g) {v x : Int32} : both sc 70 146 [.int v, .int x] g := by
  have hI := h.2.1
  have hM := h.2.2.1
  have h48 := (sl48 hI).1
  have h20 := nC20 hI
  have h6 := nR6 hI
  obtain ⟨fs, n, hh⟩ := h.2.2.2.1
  rcases klS_1 (v := v) (m := x) hI with e | ⟨e, c, m, r, rfl, rfl, c1, m1', r1', hc, hx, hrm⟩
  · refine both_q h (v := -1) (fun Q => ?_) (fun Q => ?_)
    · simp only [↓en70, ↓u70_0, ↓u70_1, ↓u70_4, ↓u70_5, ↓u70_6, ↓u70_9, ↓u70_14, ↓u70_12, ↓u70_15, ↓u70_13, ↓u70_18, ↓u70_19, ↓u70_22, ↓u70_23, ↓u70_24, ↓u70_25, ↓u70_28, ↓u70_29, ↓u70_30, ↓u70_33, ↓u70_34, ↓u70_37, ↓u70_38, ↓u70_41, ↓u70_42, ↓u70_45, ↓nf0, ↓s_o z7, ↓s_knowsLesson z7 hI.2.1, ↓c_v_some, e, n00, if_true]
    · simp only [↓en146, ↓u146_0, ↓u146_1, ↓u146_2, ↓u146_3, ↓u146_6, ↓u146_11, ↓u146_9, ↓u146_12, ↓u146_10, ↓u146_15, ↓u146_16, ↓u146_17, ↓u146_18, ↓u146_20, ↓u146_23, ↓u146_24, ↓u146_25, ↓u146_28, ↓d_o, ↓m_isLesson hI hM, ↓c_v_some, e, n00, if_true]
  · have hi := inv_out hI (show r < 6 by omega) hx
    have hl := mdl_out hI hx (show r < 6 by omega)
    have hst := fun Q => s_set0 (sc := sc) (g := remG g fs n) (Q := Q) (m := m) (r := r) (c := c) z7 (by rw [remG_0]; exact hI) (by rw [remG_0]; exact c1) (by omega)
    have hro := fun Q => s_roomOf (sc := sc) (g := remG g fs n) (Q := Q) (j := 0) (c := c) (m := m) z7 (by rw [remG_0]; exact hI.2.1) (by omega) (by omega)
    rw [remG_0] at hst hro
    rw [roomS_rm hI, hrm] at hro
    generalize hs' : setL (g.1 0) c m r false = s' at hi hl hst
    refine both_act h hh (v := nI (plc s' c)) hi (fun Q => ?_) (fun Q => ?_)
    · have hp : ∀ Q, ev sc 36 [.ref (bs 0), .int (nI c)] (Wd (stS (remG g fs n) 0 s')) Q = Q (some (.int (nI (plc s' c)))) (Wd (stS (remG g fs n) 0 s')) := fun Q => by
        rw [s_placed z7 (show c < 20 by omega), stS_at]
      simp only [↓en70, ↓u70_0, ↓u70_1, ↓u70_4, ↓u70_5, ↓u70_6, ↓u70_9, ↓u70_14, ↓u70_12, ↓u70_15, ↓u70_13, ↓u70_18, ↓u70_19, ↓u70_22, ↓u70_23, ↓u70_24, ↓u70_25, ↓u70_28, ↓u70_29, ↓u70_30, ↓u70_33, ↓u70_34, ↓u70_37, ↓u70_38, ↓u70_41, ↓u70_42, ↓u70_45, ↓nf0, ↓s_o z7, ↓s_knowsLesson z7 hI.2.1, ↓c_v_some, e, n10, if_false, ↓m_o, ↓c_rem h hh, ↓c_v_none, ↓hro, rmI, hst, hp]
    · have hr := fun Q => m_rec2 (sc := sc) (Q := Q) (g := stS (remG g fs n) 0 s') hh.2.1 hh.2.2.2.2.1
      have hpu := fun Q => m_puts_no (sc := sc) (Q := Q) (g := rec2 (stS (remG g fs n) 0 s') n) (c := c) (m := m) (rec2_now hM) (by omega) (by omega)
      rw [hl] at hpu
      have hp := fun Q => m_placed (sc := sc) (Q := Q) (g := gDN (rec2 (stS (remG g fs n) 0 s') n) 0 (mdl s')) (c := c) hi gDN_at (by omega)
      simp only [↓en146, ↓u146_0, ↓u146_1, ↓u146_2, ↓u146_3, ↓u146_6, ↓u146_11, ↓u146_9, ↓u146_12, ↓u146_10, ↓u146_15, ↓u146_16, ↓u146_17, ↓u146_18, ↓u146_20, ↓u146_23, ↓u146_24, ↓u146_25, ↓u146_28, ↓d_o, ↓m_isLesson hI (stS_now hM), ↓c_v_some, e, n10, if_false, ↓hr, ↓c_v_none, ↓hpu, ↓hp]
end
