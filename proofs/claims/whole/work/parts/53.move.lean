/-! THE TWO AGREE: a lesson is moved -/
section
variable {sc : Nat × (Nat → Int32)} {g : SG} {fs n j : Nat} {Q : Option Value → ri_W → Prop}
theorem gDN_4 {A B C D : Nat → Int32} {i : Nat} {v : Int32} : gDN (gD (gDN (gDN (gDN g 1 A) 0 B) 1 C) i v) 0 D = gDN (gD (gDN g 1 C) i v) 0 D := by
  unfold gDN gD
  show (g.1, g.2.1, g.2.2.1, upF g.2.2.2.1 i v, upF (upF (upF (upF g.2.2.2.2 1 A) 0 B) 1 C) 0 D) = (g.1, g.2.1, g.2.2.1, upF g.2.2.2.1 i v, upF (upF g.2.2.2.2 1 C) 0 D)
  congr 4
  funext q
  unfold upF
  by_cases e0 : q = 0
  · simp [e0]
  · by_cases e1 : q = 1 <;> simp [e0, e1]
theorem c_adopt (h : R g) (hh : Rh g fs n) : ev sc 98 [.ref 0] (Wd g) Q = Q none (Wd (stS (remG g fs n) 0 (g.1 1))) := by
  have hsl := @slot_lt (fs1 fs n) (recN n)
  have e1 : (remG g fs n).1 1 = g.1 1 := stS_ne (by omega)
  have hc := fun Q => s_copyFrom (sc := sc) (Q := Q) (g := remG g fs n) (j := 0) (i := 1) z7 (by decide) (by decide) (by rw [e1]; exact h.1 1 (by decide)) (by rw [remG_0]; exact h.1 0 z7)
  rw [e1] at hc
  simp only [↓en98, ↓u98_0, ↓u98_1, ↓u98_4, ↓u98_5, ↓u98_8, ↓u98_9, ↓u98_12, ↓u98_15, ↓m_o, ↓c_rem h hh, ↓c_v_none, ↓nf0, ↓nf1, ↓s_o z7, ↓hc]
/-- what the plain form has put aside -/
def k5 (g : SG) : Nat → Int32 := segW (g.2.2.2.2 1) 9460 1892 (mdl (g.1 0))
theorem m_keep5 {s : SV} (hM : g.2.2.2.2 0 = mdl s) : ev sc 113 [.ref 154, .int 5] (Wd g) Q = Q none (Wd (gDN g 1 (segW (g.2.2.2.2 1) 9460 1892 (mdl s)))) := by
  have := m_keeps (sc := sc) (Q := Q) (c := 5) (g := g) (by decide)
  rw [hM] at this
  exact this
/-- what was put aside is brought back -/
theorem m_back {s s1 : SV} {K : Nat → Int32} (hM : g.2.2.2.2 0 = mdl s) : ev sc 114 [.ref 154, .int 5] (Wd (gDN (gDN g 1 (segW K 9460 1892 (mdl s))) 0 (mdl s1))) Q = Q none (Wd (gDN g 1 (segW K 9460 1892 (mdl s)))) := by
  have h1 := m_brings (sc := sc) (Q := Q) (c := 5) (g := gDN (gDN g 1 (segW K 9460 1892 (mdl s))) 0 (mdl s1)) (by decide)
  have h2 : ∀ k, k < 1892 → (gDN (gDN g 1 (segW K 9460 1892 (mdl s))) 0 (mdl s1)).2.2.2.2 1 (5 * 1892 + k) = mdl s k := fun k hk => by
    rw [gDN_01, gDN_at, show 5 * 1892 = 9460 by decide]
    exact segW_in hk
  have h3 : (gDN g 1 (segW K 9460 1892 (mdl s))).2.2.2.2 0 = mdl s := hM
  rw [show (gDN (gDN g 1 (segW K 9460 1892 (mdl s))) 0 (mdl s1)).2.2.2.2 0 = mdl s1 from gDN_at, segW_mdl h2, gDN_tw, gDN_s h3] at h1
  exact h1
theorem R_adopt (h : R g) (hh : Rh g fs n) {s2 : SV} (hi : inv s2) : R (fin (stS g 1 s2) fs n (segW (g.2.2.2.2 1) 9460 1892 (mdl (g.1 0))) s2) := R_fin (R_trial h hi.1) (Rh_trial hh) hi (fun q hq => segW_out (by omega)) (fun k hk => segW_in hk)
theorem R_fail (h : R g) {s1 : SV} (hi : nf s1) : R (gDN (stS g 1 s1) 1 (segW (g.2.2.2.2 1) 9460 1892 (mdl (g.1 0)))) := R_k5 (R_trial h hi) (fun q hq => segW_out (by omega))
theorem m_record5 {A B : Nat → Int32} (hn : n ≤ 4) (hs : g.2.2.2.1 0 = nI n) : ev sc 115 [.ref 154] (Wd (gDN (gDN g 1 A) 0 B)) Q = Q none (Wd (gD (gDN (gDN (gDN g 1 A) 0 B) 1 (recK A n)) 0 (nI (recN n + 1)))) := m_recordsTrial (g := gDN (gDN g 1 A) 0 B) hn hs
theorem o_move (h : R g) {v x y z : Int32} : both sc 71 147 [.int v, .int x, .int y, .int z] g := by
  have hI := h.2.1
  have hM := h.2.2.1
  have h48 := (sl48 hI).1
  have h20 := nC20 hI
  have h6 := nR6 hI
  obtain ⟨fs, n, hh⟩ := h.2.2.2.1
  rcases klS_1 (v := v) (m := x) hI with e | ⟨e, c, m, r, rfl, rfl, c1, m1', r1', hc, hx, hrm⟩
  · refine both_q h (v := -1) (fun Q => ?_) (fun Q => ?_)
    · simp only [↓en71, ↓u71_0, ↓u71_1, ↓u71_4, ↓u71_5, ↓u71_6, ↓u71_9, ↓u71_35, ↓u71_12, ↓u71_36, ↓u71_13, ↓u71_16, ↓u71_17, ↓u71_20, ↓u71_23, ↓u71_24, ↓u71_27, ↓u71_29, ↓u71_32, ↓u71_37, ↓u71_38, ↓u71_41, ↓u71_42, ↓u71_43, ↓u71_46, ↓u71_48, ↓u71_49, ↓u71_52, ↓u71_53, ↓u71_56, ↓u71_59, ↓u71_60, ↓u71_63, ↓u71_64, ↓u71_65, ↓u71_67, ↓u71_68, ↓u71_71, ↓u71_72, ↓u71_75, ↓u71_76, ↓u71_77, ↓u71_79, ↓u71_82, ↓u71_88, ↓u71_85, ↓u71_89, ↓u71_87, ↓u71_90, ↓u71_103, ↓u71_93, ↓u71_104, ↓u71_95, ↓u71_107, ↓u71_97, ↓u71_108, ↓u71_100, ↓u71_109, ↓u71_102, ↓u71_111, ↓u71_112, ↓u71_115, ↓u71_116, ↓u71_119, ↓u71_121, ↓nf0, ↓s_o z7, ↓s_knowsLesson z7 hI.2.1, ↓c_v_some, e, n00, if_true]
    · simp only [↓en147, ↓u147_0, ↓u147_1, ↓u147_2, ↓u147_3, ↓u147_6, ↓u147_26, ↓u147_9, ↓u147_27, ↓u147_10, ↓u147_11, ↓u147_14, ↓u147_17, ↓u147_18, ↓u147_20, ↓u147_23, ↓u147_28, ↓u147_29, ↓u147_30, ↓u147_31, ↓u147_34, ↓u147_36, ↓u147_37, ↓u147_38, ↓u147_41, ↓u147_42, ↓u147_43, ↓u147_44, ↓u147_46, ↓u147_49, ↓u147_50, ↓u147_51, ↓u147_52, ↓u147_54, ↓u147_57, ↓u147_68, ↓u147_60, ↓u147_69, ↓u147_61, ↓u147_70, ↓u147_62, ↓u147_88, ↓u147_73, ↓u147_65, ↓u147_89, ↓u147_75, ↓u147_67, ↓u147_92, ↓u147_77, ↓u147_93, ↓u147_80, ↓u147_94, ↓u147_81, ↓u147_95, ↓u147_82, ↓u147_97, ↓u147_85, ↓u147_100, ↓u147_87, ↓u147_102, ↓d_o, ↓m_isLesson hI hM, ↓c_v_some, e, n00, if_true]
  · rcases ii_cases (v := y) (n := slS (g.1 0)) (by omega) with ⟨t, t1, rfl, t2⟩ | ⟨-, t2⟩
    · rcases ii_cases (v := z) (n := nR (g.1 0)) (by omega) with ⟨o, o1, rfl, o2⟩ | ⟨-, o2⟩
      · have hi := inv_out hI (show r < 6 by omega) hx
        have hl := mdl_out hI hx (show r < 6 by omega)
        have hcp := fun Q => s_copyFrom (sc := sc) (Q := Q) (g := g) (j := 1) (i := 0) (by decide) z7 (by decide) (h.1 0 z7) (h.1 1 (by decide))
        have hst := fun Q => s_set0 (sc := sc) (g := stS g 1 (g.1 0)) (Q := Q) (j := 1) (m := m) (r := r) (c := c) (by decide) (by rw [stS_at]; exact hI) (by rw [stS_at]; exact c1) (by omega)
        rw [stS_at, stS_twice] at hst
        have b2 : c < nC (setL (g.1 0) c m r false) := by rw [setL_nC]; exact c1
        have b3 : t < slS (setL (g.1 0) c m r false) := by rw [setL_sl]; exact t1
        have b4 : o < nR (setL (g.1 0) c m r false) := by rw [setL_nR]; exact o1
        have hro : ∀ Q, ev sc 35 [.ref (bs 0), .int (nI c), .int (nI m)] (Wd g) Q = Q (some (.int (nI r))) (Wd g) := fun Q => by
          rw [s_roomOf z7 hI.2.1 (show c < 20 by omega) (show m < 64 by omega), roomS_rm hI, hrm]
          rfl
        have hmr : ∀ g0 : SG, g0.2.2.2.2 0 = mdl (g.1 0) → ∀ Q, ev sc 109 [.ref 154, .int (nI c), .int (nI m)] (Wd g0) Q = Q (some (.int (nI r))) (Wd g0) := fun g0 hg Q => by
          rw [m_roomOf hI hg (show c < 20 by omega) (show m < 48 by omega), hrm]
          rfl
        generalize hs1 : setL (g.1 0) c m r false = s1 at hi hl hst b2 b3 b4
        have hfr := fun Q => s_firstReason (sc := sc) (Q := Q) (g := stS g 1 s1) (j := 1) (c := c) (m := t) (r := o) (by decide) (by rw [stS_at]; exact hi.2.1) (by rw [stS_at]; exact hi.2.2.1) (by rw [stS_at]; exact b2) (by rw [stS_at]; exact b3) (by omega)
        rw [stS_at] at hfr
        have et : (nI t = nI m) = (t = m) := propext (nI_eq (by omega) (by omega))
        have et2 : (nI m = nI t) = (m = t) := propext (nI_eq (by omega) (by omega))
        have eo : (nI o = nI r) = (o = r) := propext (nI_eq (by omega) (by omega))
        have eo2 : (nI r = nI o) = (r = o) := propext (nI_eq (by omega) (by omega))
        by_cases hf0 : fstS s1 c t o = 0
        · by_cases same : t = m ∧ o = r
          · obtain ⟨rfl, rfl⟩ := same
            refine ⟨-5, stS g 1 s1, gDN (stS g 1 s1) 1 (segW (g.2.2.2.2 1) 9460 1892 (mdl (g.1 0))), fun Q => ?_, fun Q => ?_, R_fail h hi.1⟩
            · simp only [↓en71, ↓u71_0, ↓u71_1, ↓u71_4, ↓u71_5, ↓u71_6, ↓u71_9, ↓u71_35, ↓u71_12, ↓u71_36, ↓u71_13, ↓u71_16, ↓u71_17, ↓u71_20, ↓u71_23, ↓u71_24, ↓u71_27, ↓u71_29, ↓u71_32, ↓u71_37, ↓u71_38, ↓u71_41, ↓u71_42, ↓u71_43, ↓u71_46, ↓u71_48, ↓u71_49, ↓u71_52, ↓u71_53, ↓u71_56, ↓u71_59, ↓u71_60, ↓u71_63, ↓u71_64, ↓u71_65, ↓u71_67, ↓u71_68, ↓u71_71, ↓u71_72, ↓u71_75, ↓u71_76, ↓u71_77, ↓u71_79, ↓u71_82, ↓u71_88, ↓u71_85, ↓u71_89, ↓u71_87, ↓u71_90, ↓u71_103, ↓u71_93, ↓u71_104, ↓u71_95, ↓u71_107, ↓u71_97, ↓u71_108, ↓u71_100, ↓u71_109, ↓u71_102, ↓u71_111, ↓u71_112, ↓u71_115, ↓u71_116, ↓u71_119, ↓u71_121, ↓nf0, ↓nf1, ↓s_o z7, ↓s_o (show 1 < 7 by decide), ↓s_knowsLesson z7 hI.2.1, ↓s_knowsSlot z7, ↓s_knowsRoom z7, ↓c_v_some, ↓c_v_none, e, sl_eq hI, nR_eq hI, t2, o2, n10, if_false, if_true, ↓hro, ↓hcp, ↓hst, ↓hfr, hf0, et, eo]
            · have hM1 : (stS g 1 s1).2.2.2.2 0 = mdl (g.1 0) := hM
              have hk : ∀ Q, ev sc 113 [.ref 154, .int 5] (Wd (stS g 1 s1)) Q = Q none (Wd (gDN (stS g 1 s1) 1 (segW (g.2.2.2.2 1) 9460 1892 (mdl (g.1 0))))) := fun Q => m_keep5 (sc := sc) (Q := Q) hM1
              have hpu := fun Q => m_puts_no (sc := sc) (Q := Q) (g := gDN (stS g 1 s1) 1 (segW (g.2.2.2.2 1) 9460 1892 (mdl (g.1 0)))) (s := g.1 0) (c := c) (m := t) hM1 (by omega) (by omega)
              rw [hl] at hpu
              have hre := fun Q => m_reasonOf (sc := sc) (Q := Q) (g := gDN (gDN (stS g 1 s1) 1 (segW (g.2.2.2.2 1) 9460 1892 (mdl (g.1 0)))) 0 (mdl s1)) hi gDN_at b2 b3 b4
              have hb := fun Q => m_back (sc := sc) (Q := Q) (K := g.2.2.2.2 1) (s1 := s1) hM1
              simp only [↓en147, ↓u147_0, ↓u147_1, ↓u147_2, ↓u147_3, ↓u147_6, ↓u147_26, ↓u147_9, ↓u147_27, ↓u147_10, ↓u147_11, ↓u147_14, ↓u147_17, ↓u147_18, ↓u147_20, ↓u147_23, ↓u147_28, ↓u147_29, ↓u147_30, ↓u147_31, ↓u147_34, ↓u147_36, ↓u147_37, ↓u147_38, ↓u147_41, ↓u147_42, ↓u147_43, ↓u147_44, ↓u147_46, ↓u147_49, ↓u147_50, ↓u147_51, ↓u147_52, ↓u147_54, ↓u147_57, ↓u147_68, ↓u147_60, ↓u147_69, ↓u147_61, ↓u147_70, ↓u147_62, ↓u147_88, ↓u147_73, ↓u147_65, ↓u147_89, ↓u147_75, ↓u147_67, ↓u147_92, ↓u147_77, ↓u147_93, ↓u147_80, ↓u147_94, ↓u147_81, ↓u147_95, ↓u147_82, ↓u147_97, ↓u147_85, ↓u147_100, ↓u147_87, ↓u147_102, ↓d_o, ↓m_isLesson hI hM1, ↓m_isSlot hM1, ↓m_isRoom hM1, ↓c_v_some, ↓c_v_none, e, sl_eq hI, nR_eq hI, t2, o2, n10, if_false, if_true, ↓hmr _ hM1, ↓hk, ↓hpu, ↓hre, hf0, ↓hb, n00]
          · have hi2 := inv_in hi b2 b4 b3 hf0
            have hl2 := mdl_in hi b2 b3 b4 hf0
            have hst2 := fun Q => s_set1 (sc := sc) (g := stS g 1 s1) (Q := Q) (j := 1) (m := t) (r := o) (c := c) (by decide) (by rw [stS_at]; exact hi) (by rw [stS_at]; exact b2) (by omega)
            rw [stS_at, stS_twice] at hst2
            generalize hs2 : setL s1 c t o true = s2 at hi2 hl2 hst2
            have hR1 := R_trial h hi2.1
            have hRh1 := Rh_trial hh (t := s2)
            have had := fun Q => c_adopt (sc := sc) (Q := Q) hR1 hRh1
            rw [stS_at] at had
            refine ⟨nI r, stS (remG (stS g 1 s2) fs n) 0 s2, fin (stS g 1 s2) fs n (segW (g.2.2.2.2 1) 9460 1892 (mdl (g.1 0))) s2, fun Q => ?_, fun Q => ?_, R_adopt h hh hi2⟩
            · simp only [↓en71, ↓u71_0, ↓u71_1, ↓u71_4, ↓u71_5, ↓u71_6, ↓u71_9, ↓u71_35, ↓u71_12, ↓u71_36, ↓u71_13, ↓u71_16, ↓u71_17, ↓u71_20, ↓u71_23, ↓u71_24, ↓u71_27, ↓u71_29, ↓u71_32, ↓u71_37, ↓u71_38, ↓u71_41, ↓u71_42, ↓u71_43, ↓u71_46, ↓u71_48, ↓u71_49, ↓u71_52, ↓u71_53, ↓u71_56, ↓u71_59, ↓u71_60, ↓u71_63, ↓u71_64, ↓u71_65, ↓u71_67, ↓u71_68, ↓u71_71, ↓u71_72, ↓u71_75, ↓u71_76, ↓u71_77, ↓u71_79, ↓u71_82, ↓u71_88, ↓u71_85, ↓u71_89, ↓u71_87, ↓u71_90, ↓u71_103, ↓u71_93, ↓u71_104, ↓u71_95, ↓u71_107, ↓u71_97, ↓u71_108, ↓u71_100, ↓u71_109, ↓u71_102, ↓u71_111, ↓u71_112, ↓u71_115, ↓u71_116, ↓u71_119, ↓u71_121, ↓nf0, ↓nf1, ↓m_o, ↓s_o z7, ↓s_o (show 1 < 7 by decide), ↓s_knowsLesson z7 hI.2.1, ↓s_knowsSlot z7, ↓s_knowsRoom z7, ↓c_v_some, ↓c_v_none, e, sl_eq hI, nR_eq hI, t2, o2, n10, if_false, if_true, ↓hro, ↓hcp, ↓hst, ↓hfr, hf0, et, eo, ↓hst2, ↓had]
              by_cases q1 : t = m
              · rw [if_pos q1, if_neg (fun q2 => same ⟨q1, q2⟩)]
              · rw [if_neg q1]
            · have hM1 : (stS (remG (stS g 1 s2) fs n) 0 s2).2.2.2.2 0 = mdl (g.1 0) := hM
              have hk : ∀ Q, ev sc 113 [.ref 154, .int 5] (Wd (stS (remG (stS g 1 s2) fs n) 0 s2)) Q = Q none (Wd (gDN (stS (remG (stS g 1 s2) fs n) 0 s2) 1 (segW (g.2.2.2.2 1) 9460 1892 (mdl (g.1 0))))) := fun Q => m_keep5 (sc := sc) (Q := Q) hM1
              have hpu := fun Q => m_puts_no (sc := sc) (Q := Q) (g := gDN (stS (remG (stS g 1 s2) fs n) 0 s2) 1 (segW (g.2.2.2.2 1) 9460 1892 (mdl (g.1 0)))) (s := g.1 0) (c := c) (m := m) hM1 (by omega) (by omega)
              rw [hl] at hpu
              have hre := fun Q => m_reasonOf (sc := sc) (Q := Q) (g := gDN (gDN (stS (remG (stS g 1 s2) fs n) 0 s2) 1 (segW (g.2.2.2.2 1) 9460 1892 (mdl (g.1 0)))) 0 (mdl s1)) hi gDN_at b2 b3 b4
              have hr5 := fun Q => m_record5 (sc := sc) (Q := Q) (g := stS (remG (stS g 1 s2) fs n) 0 s2) (A := segW (g.2.2.2.2 1) 9460 1892 (mdl (g.1 0))) (B := mdl s1) hh.2.1 hh.2.2.2.2.1
              have hpu2 := fun Q => m_puts (sc := sc) (Q := Q) (g := gD (gDN (gDN (gDN (stS (remG (stS g 1 s2) fs n) 0 s2) 1 (segW (g.2.2.2.2 1) 9460 1892 (mdl (g.1 0)))) 0 (mdl s1)) 1 (recK (segW (g.2.2.2.2 1) 9460 1892 (mdl (g.1 0))) n)) 0 (nI (recN n + 1))) (s := s1) (c := c) (m := t) (r := o) rfl (by omega) (by omega) (by omega)
              rw [hl2, gDN_4] at hpu2
              simp only [↓en147, ↓u147_0, ↓u147_1, ↓u147_2, ↓u147_3, ↓u147_6, ↓u147_26, ↓u147_9, ↓u147_27, ↓u147_10, ↓u147_11, ↓u147_14, ↓u147_17, ↓u147_18, ↓u147_20, ↓u147_23, ↓u147_28, ↓u147_29, ↓u147_30, ↓u147_31, ↓u147_34, ↓u147_36, ↓u147_37, ↓u147_38, ↓u147_41, ↓u147_42, ↓u147_43, ↓u147_44, ↓u147_46, ↓u147_49, ↓u147_50, ↓u147_51, ↓u147_52, ↓u147_54, ↓u147_57, ↓u147_68, ↓u147_60, ↓u147_69, ↓u147_61, ↓u147_70, ↓u147_62, ↓u147_88, ↓u147_73, ↓u147_65, ↓u147_89, ↓u147_75, ↓u147_67, ↓u147_92, ↓u147_77, ↓u147_93, ↓u147_80, ↓u147_94, ↓u147_81, ↓u147_95, ↓u147_82, ↓u147_97, ↓u147_85, ↓u147_100, ↓u147_87, ↓u147_102, ↓d_o, ↓m_isLesson hI hM1, ↓m_isSlot hM1, ↓m_isRoom hM1, ↓c_v_some, ↓c_v_none, e, sl_eq hI, nR_eq hI, t2, o2, n10, if_false, if_true, ↓hmr _ hM1, ↓hk, ↓hpu, ↓hre, hf0, n00, et2, eo2, ↓hr5, ↓hpu2]
              by_cases q1 : m = t
              · rw [if_pos q1, if_neg (fun q2 => same ⟨q1.symm, q2.symm⟩)]
                rfl
              · rw [if_neg q1]
                rfl
        · refine ⟨-4, stS g 1 s1, gDN (stS g 1 s1) 1 (segW (g.2.2.2.2 1) 9460 1892 (mdl (g.1 0))), fun Q => ?_, fun Q => ?_, R_fail h hi.1⟩
          · simp only [↓en71, ↓u71_0, ↓u71_1, ↓u71_4, ↓u71_5, ↓u71_6, ↓u71_9, ↓u71_35, ↓u71_12, ↓u71_36, ↓u71_13, ↓u71_16, ↓u71_17, ↓u71_20, ↓u71_23, ↓u71_24, ↓u71_27, ↓u71_29, ↓u71_32, ↓u71_37, ↓u71_38, ↓u71_41, ↓u71_42, ↓u71_43, ↓u71_46, ↓u71_48, ↓u71_49, ↓u71_52, ↓u71_53, ↓u71_56, ↓u71_59, ↓u71_60, ↓u71_63, ↓u71_64, ↓u71_65, ↓u71_67, ↓u71_68, ↓u71_71, ↓u71_72, ↓u71_75, ↓u71_76, ↓u71_77, ↓u71_79, ↓u71_82, ↓u71_88, ↓u71_85, ↓u71_89, ↓u71_87, ↓u71_90, ↓u71_103, ↓u71_93, ↓u71_104, ↓u71_95, ↓u71_107, ↓u71_97, ↓u71_108, ↓u71_100, ↓u71_109, ↓u71_102, ↓u71_111, ↓u71_112, ↓u71_115, ↓u71_116, ↓u71_119, ↓u71_121, ↓nf0, ↓nf1, ↓s_o z7, ↓s_o (show 1 < 7 by decide), ↓s_knowsLesson z7 hI.2.1, ↓s_knowsSlot z7, ↓s_knowsRoom z7, ↓c_v_some, ↓c_v_none, e, sl_eq hI, nR_eq hI, t2, o2, n10, if_false, if_true, ↓hro, ↓hcp, ↓hst, ↓hfr, hf0]
          · have hM1 : (stS g 1 s1).2.2.2.2 0 = mdl (g.1 0) := hM
            have hk : ∀ Q, ev sc 113 [.ref 154, .int 5] (Wd (stS g 1 s1)) Q = Q none (Wd (gDN (stS g 1 s1) 1 (segW (g.2.2.2.2 1) 9460 1892 (mdl (g.1 0))))) := fun Q => m_keep5 (sc := sc) (Q := Q) hM1
            have hpu := fun Q => m_puts_no (sc := sc) (Q := Q) (g := gDN (stS g 1 s1) 1 (segW (g.2.2.2.2 1) 9460 1892 (mdl (g.1 0)))) (s := g.1 0) (c := c) (m := m) hM1 (by omega) (by omega)
            rw [hl] at hpu
            have hre := fun Q => m_reasonOf (sc := sc) (Q := Q) (g := gDN (gDN (stS g 1 s1) 1 (segW (g.2.2.2.2 1) 9460 1892 (mdl (g.1 0)))) 0 (mdl s1)) hi gDN_at b2 b3 b4
            have hb := fun Q => m_back (sc := sc) (Q := Q) (K := g.2.2.2.2 1) (s1 := s1) hM1
            simp only [↓en147, ↓u147_0, ↓u147_1, ↓u147_2, ↓u147_3, ↓u147_6, ↓u147_26, ↓u147_9, ↓u147_27, ↓u147_10, ↓u147_11, ↓u147_14, ↓u147_17, ↓u147_18, ↓u147_20, ↓u147_23, ↓u147_28, ↓u147_29, ↓u147_30, ↓u147_31, ↓u147_34, ↓u147_36, ↓u147_37, ↓u147_38, ↓u147_41, ↓u147_42, ↓u147_43, ↓u147_44, ↓u147_46, ↓u147_49, ↓u147_50, ↓u147_51, ↓u147_52, ↓u147_54, ↓u147_57, ↓u147_68, ↓u147_60, ↓u147_69, ↓u147_61, ↓u147_70, ↓u147_62, ↓u147_88, ↓u147_73, ↓u147_65, ↓u147_89, ↓u147_75, ↓u147_67, ↓u147_92, ↓u147_77, ↓u147_93, ↓u147_80, ↓u147_94, ↓u147_81, ↓u147_95, ↓u147_82, ↓u147_97, ↓u147_85, ↓u147_100, ↓u147_87, ↓u147_102, ↓d_o, ↓m_isLesson hI hM1, ↓m_isSlot hM1, ↓m_isRoom hM1, ↓c_v_some, ↓c_v_none, e, sl_eq hI, nR_eq hI, t2, o2, n10, if_false, if_true, ↓hmr _ hM1, ↓hk, ↓hpu, ↓hre, hf0, ↓hb, n00]
      · refine both_q h (v := -1) (fun Q => ?_) (fun Q => ?_)
        · simp only [↓en71, ↓u71_0, ↓u71_1, ↓u71_4, ↓u71_5, ↓u71_6, ↓u71_9, ↓u71_35, ↓u71_12, ↓u71_36, ↓u71_13, ↓u71_16, ↓u71_17, ↓u71_20, ↓u71_23, ↓u71_24, ↓u71_27, ↓u71_29, ↓u71_32, ↓u71_37, ↓u71_38, ↓u71_41, ↓u71_42, ↓u71_43, ↓u71_46, ↓u71_48, ↓u71_49, ↓u71_52, ↓u71_53, ↓u71_56, ↓u71_59, ↓u71_60, ↓u71_63, ↓u71_64, ↓u71_65, ↓u71_67, ↓u71_68, ↓u71_71, ↓u71_72, ↓u71_75, ↓u71_76, ↓u71_77, ↓u71_79, ↓u71_82, ↓u71_88, ↓u71_85, ↓u71_89, ↓u71_87, ↓u71_90, ↓u71_103, ↓u71_93, ↓u71_104, ↓u71_95, ↓u71_107, ↓u71_97, ↓u71_108, ↓u71_100, ↓u71_109, ↓u71_102, ↓u71_111, ↓u71_112, ↓u71_115, ↓u71_116, ↓u71_119, ↓u71_121, ↓nf0, ↓s_o z7, ↓s_knowsLesson z7 hI.2.1, ↓s_knowsSlot z7, ↓s_knowsRoom z7, ↓c_v_some, e, sl_eq hI, nR_eq hI, t2, o2, n10, n00, if_false, if_true]
        · simp only [↓en147, ↓u147_0, ↓u147_1, ↓u147_2, ↓u147_3, ↓u147_6, ↓u147_26, ↓u147_9, ↓u147_27, ↓u147_10, ↓u147_11, ↓u147_14, ↓u147_17, ↓u147_18, ↓u147_20, ↓u147_23, ↓u147_28, ↓u147_29, ↓u147_30, ↓u147_31, ↓u147_34, ↓u147_36, ↓u147_37, ↓u147_38, ↓u147_41, ↓u147_42, ↓u147_43, ↓u147_44, ↓u147_46, ↓u147_49, ↓u147_50, ↓u147_51, ↓u147_52, ↓u147_54, ↓u147_57, ↓u147_68, ↓u147_60, ↓u147_69, ↓u147_61, ↓u147_70, ↓u147_62, ↓u147_88, ↓u147_73, ↓u147_65, ↓u147_89, ↓u147_75, ↓u147_67, ↓u147_92, ↓u147_77, ↓u147_93, ↓u147_80, ↓u147_94, ↓u147_81, ↓u147_95, ↓u147_82, ↓u147_97, ↓u147_85, ↓u147_100, ↓u147_87, ↓u147_102, ↓d_o, ↓m_isLesson hI hM, ↓m_isSlot hM, ↓m_isRoom hM, ↓c_v_some, e, sl_eq hI, nR_eq hI, t2, o2, n10, n00, if_false, if_true]
    · refine both_q h (v := -1) (fun Q => ?_) (fun Q => ?_)
      · simp only [↓en71, ↓u71_0, ↓u71_1, ↓u71_4, ↓u71_5, ↓u71_6, ↓u71_9, ↓u71_35, ↓u71_12, ↓u71_36, ↓u71_13, ↓u71_16, ↓u71_17, ↓u71_20, ↓u71_23, ↓u71_24, ↓u71_27, ↓u71_29, ↓u71_32, ↓u71_37, ↓u71_38, ↓u71_41, ↓u71_42, ↓u71_43, ↓u71_46, ↓u71_48, ↓u71_49, ↓u71_52, ↓u71_53, ↓u71_56, ↓u71_59, ↓u71_60, ↓u71_63, ↓u71_64, ↓u71_65, ↓u71_67, ↓u71_68, ↓u71_71, ↓u71_72, ↓u71_75, ↓u71_76, ↓u71_77, ↓u71_79, ↓u71_82, ↓u71_88, ↓u71_85, ↓u71_89, ↓u71_87, ↓u71_90, ↓u71_103, ↓u71_93, ↓u71_104, ↓u71_95, ↓u71_107, ↓u71_97, ↓u71_108, ↓u71_100, ↓u71_109, ↓u71_102, ↓u71_111, ↓u71_112, ↓u71_115, ↓u71_116, ↓u71_119, ↓u71_121, ↓nf0, ↓s_o z7, ↓s_knowsLesson z7 hI.2.1, ↓s_knowsSlot z7, ↓c_v_some, e, sl_eq hI, t2, n10, n00, if_false, if_true]
      · simp only [↓en147, ↓u147_0, ↓u147_1, ↓u147_2, ↓u147_3, ↓u147_6, ↓u147_26, ↓u147_9, ↓u147_27, ↓u147_10, ↓u147_11, ↓u147_14, ↓u147_17, ↓u147_18, ↓u147_20, ↓u147_23, ↓u147_28, ↓u147_29, ↓u147_30, ↓u147_31, ↓u147_34, ↓u147_36, ↓u147_37, ↓u147_38, ↓u147_41, ↓u147_42, ↓u147_43, ↓u147_44, ↓u147_46, ↓u147_49, ↓u147_50, ↓u147_51, ↓u147_52, ↓u147_54, ↓u147_57, ↓u147_68, ↓u147_60, ↓u147_69, ↓u147_61, ↓u147_70, ↓u147_62, ↓u147_88, ↓u147_73, ↓u147_65, ↓u147_89, ↓u147_75, ↓u147_67, ↓u147_92, ↓u147_77, ↓u147_93, ↓u147_80, ↓u147_94, ↓u147_81, ↓u147_95, ↓u147_82, ↓u147_97, ↓u147_85, ↓u147_100, ↓u147_87, ↓u147_102, ↓d_o, ↓m_isLesson hI hM, ↓m_isSlot hM, ↓c_v_some, e, sl_eq hI, t2, n10, n00, if_false, if_true]
end
