/-! THE TWO AGREE: the cycle is set; a course joins a second group -/
theorem iiR {x A B : Int32} {a b : Nat} (hA : A.toInt = a) (hB : B.toInt = b) (hb : b < 2 ^ 31) : (∃ k, a ≤ k ∧ k ≤ b ∧ x = nI k ∧ ii x A B = 1) ∨ ii x A B = 0 := by
  unfold ii
  by_cases h1 : x < A
  · exact .inr (if_pos h1)
  · by_cases h2 : B < x
    · exact .inr (by rw [if_neg h1, if_pos h2])
    · left
      have h3 : x.toInt ≤ B.toInt := Int32.le_iff_toInt_le.mp (Int32.not_lt.mp h2)
      have h4 : A.toInt ≤ x.toInt := Int32.le_iff_toInt_le.mp (Int32.not_lt.mp h1)
      have h5 : x = nI x.toInt.toNat := Int32.toInt_inj.mp (by
        rw [nI_toInt (by omega)]
        omega)
      exact ⟨x.toInt.toNat, by omega, by omega, h5, by rw [if_neg h1, if_neg h2]⟩
section
variable {sc : Nat × (Nat → Int32)} {g : SG} {fs n j : Nat} {Q : Option Value → ri_W → Prop}
theorem w_clear (hj : j < 7) (h0 : nf (g.1 j)) : ev sc 11 [.ref (bs j + 9)] (Wd g) Q = Q none (Wd (stS g j (sJ (g.1 j) 1 (fun _ => 0)))) := by
  have := s_clear (sc := sc) (Q := Q) (jo1 (g := g) hj) (jj1 hj) (by omega) (by decide) (fun q hq => h0.2.2 1 q hq)
  rw [js1 hj] at this
  exact this
theorem mdl_clear {s : SV} : segW (mdl s) 1108 384 (fun _ => 0) = mdl (sJ s 1 (fun _ => 0)) := by
  have e1 : ∀ t m, hB (sJ s 1 (fun _ => 0)) t m = false := fun t m => by
    show bt6 (0 : Int64) m = false
    unfold bt6
    simp
  have eX : ∀ c m', rmS (sJ s 1 (fun _ => 0)) c m' = rmS s c m' := fun c m' => rfl
  have eH : ∀ d, hol (sJ s 1 (fun _ => 0)) d = hol s d := fun d => rfl
  funext q
  unfold segW
  by_cases e : 1108 ≤ q ∧ q < 1108 + 384
  · rw [if_pos e]
    unfold mdl
    rw [if_neg (by omega), if_neg (by omega), if_neg (by omega), if_neg (by omega), if_neg (by omega), if_pos (by omega), e1]
    rfl
  · rw [if_neg e]
    unfold mdl
    rw [eX, eH]
    split
    · rfl
    · split
      · rfl
      · split
        · rfl
        · split
          · rfl
          · split
            · rfl
            · split
              · omega
              · rfl
theorem l384 {i : Nat} (h : i < 384) : ¬ (384 : Int32) ≤ nI i := nI_ge (b := 384) h (by decide)
theorem g384 {i : Nat} (h : i = 384) : (384 : Int32) ≤ nI i := by rw [h]; decide
theorem y1108 {i : Nat} : (1108 : Int32) + nI i = nI (1108 + i) := by rw [show (1108 : Int32) = nI 1108 from rfl, nI_add]
theorem m_cycle_l {a b : Int32} {s1 s' : SV} (hs : sJ s1 1 (fun _ => 0) = s') : ∀ (d i : Nat) (g : SG), i + d = 384 → g.2.2.2.2 0 = segW (mdl s1) 1108 i (fun _ => 0) → rv sc 121 76 [(0, .ref 154), (1, .int a), (2, .int b), (3, .int (nI i))] [] (Wd g) Q = Q (some (.int (s'.1 0 * s'.1 1))) (Wd (gDN g 0 (mdl s'))) := by
  intro d
  induction d with
  | zero =>
    intro i g hi hg
    have e : i = 384 := by omega
    rw [e, mdl_clear, hs] at hg
    rw [u121_76]
    simp only [↓u121_0, ↓u121_1, ↓u121_2, ↓u121_4, ↓u121_7, ↓u121_20, ↓u121_10, ↓u121_22, ↓u121_11, ↓u121_12, ↓u121_14, ↓u121_17, ↓u121_23, ↓u121_24, ↓u121_27, ↓u121_33, ↓u121_30, ↓u121_34, ↓u121_32, ↓u121_35, ↓u121_38, ↓u121_39, ↓u121_40, ↓u121_56, ↓u121_43, ↓u121_57, ↓u121_44, ↓u121_60, ↓u121_45, ↓u121_61, ↓u121_48, ↓u121_64, ↓u121_49, ↓u121_65, ↓u121_50, ↓u121_66, ↓u121_53, ↓u121_67, ↓u121_55, ↓u121_68, ↓u121_71, ↓u121_72, ↓u121_73, ↓u121_74, ↓u121_75, ↓u121_77, ↓u121_80, ↓u121_100, ↓u121_83, ↓u121_101, ↓u121_84, ↓u121_104, ↓u121_87, ↓u121_90, ↓u121_91, ↓u121_92, ↓u121_93, ↓u121_94, ↓u121_97, g384 e, if_true, if_false, ↓d_o, ↓m_slots hg, ↓c_v_some]
    rw [gDN_s hg]
  | succ d ih =>
    intro i g hi hg
    have ih1 := ih (i + 1) (gDN g 0 (upF (segW (mdl s1) 1108 i (fun _ => 0)) (1108 + i) 0)) (by omega) (by
      rw [gDN_at]
      exact segW_up (f := mdl s1) (h := fun _ => 0) (a := 1108) (i := i))
    rw [gDN_tw] at ih1
    rw [u121_76]
    simp only [↓u121_0, ↓u121_1, ↓u121_2, ↓u121_4, ↓u121_7, ↓u121_20, ↓u121_10, ↓u121_22, ↓u121_11, ↓u121_12, ↓u121_14, ↓u121_17, ↓u121_23, ↓u121_24, ↓u121_27, ↓u121_33, ↓u121_30, ↓u121_34, ↓u121_32, ↓u121_35, ↓u121_38, ↓u121_39, ↓u121_40, ↓u121_56, ↓u121_43, ↓u121_57, ↓u121_44, ↓u121_60, ↓u121_45, ↓u121_61, ↓u121_48, ↓u121_64, ↓u121_49, ↓u121_65, ↓u121_50, ↓u121_66, ↓u121_53, ↓u121_67, ↓u121_55, ↓u121_68, ↓u121_71, ↓u121_72, ↓u121_73, ↓u121_74, ↓u121_75, ↓u121_77, ↓u121_80, ↓u121_100, ↓u121_83, ↓u121_101, ↓u121_84, ↓u121_104, ↓u121_87, ↓u121_90, ↓u121_91, ↓u121_92, ↓u121_93, ↓u121_94, ↓u121_97, l384 (show i < 384 by omega), if_true, if_false, ↓df0, ↓dI0, y1108, nAt (show 1108 + i < 1892 by omega) (by decide), nI_clamp (show 1108 + i < 2 ^ 31 by omega), hg, upF_eq, ds0, nI_1]
    exact ih1
theorem o_setCycle (h : R g) {x y : Int32} : both sc 61 121 [.int x, .int y] g := by
  have hI := h.2.1
  have hM := h.2.2.1
  have hD8 := nD8 hI
  have hP6 := nP6 hI
  obtain ⟨fs, n, hh⟩ := h.2.2.2.1
  rcases iiR (x := x) (A := 2) (B := 8) (a := 2) (b := 8) rfl rfl (by decide) with ⟨d, d1, d2, rfl, d3⟩ | d3
  · rcases iiR (x := y) (A := 2) (B := 6) (a := 2) (b := 6) rfl rfl (by decide) with ⟨p, p1, p2, rfl, p3⟩ | p3
    · have hpl : sm (plc (g.1 0)) (nC (g.1 0)) ≤ 64 * 20 := by
        have h20 := nC20 hI
        have : ∀ m, sm (plc (g.1 0)) m ≤ 64 * m := by
          intro m
          induction m with
          | zero => exact Nat.le_refl _
          | succ m ih =>
            have h1 : plc (g.1 0) m ≤ 64 := pcn_le _
            show sm (plc (g.1 0)) m + plc (g.1 0) m ≤ _
            omega
        have := this (nC (g.1 0))
        omega
      by_cases e : sm (plc (g.1 0)) (nC (g.1 0)) = 0
      · have k1 : ¬ (0 : Int32) < nI (sm (plc (g.1 0)) (nC (g.1 0))) := by rw [e]; decide
        have k2 : nI (sm (plc (g.1 0)) (nC (g.1 0))) ≤ 0 := Int32.not_lt.mp k1
        by_cases e2 : d = nD (g.1 0) ∧ p = nP (g.1 0)
        · obtain ⟨rfl, rfl⟩ := e2
          refine both_q h (v := -5) (fun Q => ?_) (fun Q => ?_)
          · simp only [↓en61, ↓u61_0, ↓u61_1, ↓u61_2, ↓u61_4, ↓u61_7, ↓u61_20, ↓u61_10, ↓u61_22, ↓u61_11, ↓u61_12, ↓u61_14, ↓u61_17, ↓u61_23, ↓u61_24, ↓u61_27, ↓u61_30, ↓u61_36, ↓u61_33, ↓u61_37, ↓u61_35, ↓u61_38, ↓u61_41, ↓u61_44, ↓u61_61, ↓u61_47, ↓u61_62, ↓u61_48, ↓u61_65, ↓u61_49, ↓u61_66, ↓u61_52, ↓u61_69, ↓u61_55, ↓u61_70, ↓u61_58, ↓u61_73, ↓u61_60, ↓u61_74, ↓u61_77, ↓u61_78, ↓u61_81, ↓u61_82, ↓u61_85, ↓u61_88, ↓u61_91, ↓u61_92, ↓u61_95, ↓u61_98, ↓s_isIn, ↓c_v_some, d3, p3, n10, if_false, if_true, ↓nf0, ↓s_o z7, ↓s_allPlaced z7, plcAll_eq hI, k1, k2, ↓sf0 z7, ↓sf1 z7, nD_eq hI, nP_eq hI]
          · simp only [↓en121, ↓u121_0, ↓u121_1, ↓u121_2, ↓u121_4, ↓u121_7, ↓u121_20, ↓u121_10, ↓u121_22, ↓u121_11, ↓u121_12, ↓u121_14, ↓u121_17, ↓u121_23, ↓u121_24, ↓u121_27, ↓u121_33, ↓u121_30, ↓u121_34, ↓u121_32, ↓u121_35, ↓u121_38, ↓u121_39, ↓u121_40, ↓u121_56, ↓u121_43, ↓u121_57, ↓u121_44, ↓u121_60, ↓u121_45, ↓u121_61, ↓u121_48, ↓u121_64, ↓u121_49, ↓u121_65, ↓u121_50, ↓u121_66, ↓u121_53, ↓u121_67, ↓u121_55, ↓u121_68, ↓u121_71, ↓u121_72, ↓u121_73, ↓u121_74, ↓u121_75, ↓u121_77, ↓u121_80, ↓u121_100, ↓u121_83, ↓u121_101, ↓u121_84, ↓u121_104, ↓u121_87, ↓u121_90, ↓u121_91, ↓u121_92, ↓u121_93, ↓u121_94, ↓u121_97, ↓m_isIn, ↓c_v_some, d3, p3, n10, if_false, if_true, ↓d_o, ↓m_placedInAll hI hM, k1, k2, ↓df0, ↓dI0, hM, r0, r1, m0, m1, mdl_n (show 0 < 6 by decide), mdl_n (show 1 < 6 by decide), nD_eq hI, nP_eq hI]
        · have ne : (nI d = nI (nD (g.1 0))) = (d = nD (g.1 0)) := propext (nI_eq (by omega) (by omega))
          have ne2 : (nI p = nI (nP (g.1 0))) = (p = nP (g.1 0)) := propext (nI_eq (by omega) (by omega))
          have hi := inv_cycle hI d1 d2 p1 p2 (by rw [plcAll_eq hI]; exact e)
          have hnf : nf (sS (sS (g.1 0) 0 (nI d)) 1 (nI p)) := sS_nf (sS_nf hI.1 (by decide)) (by decide)
          have hcl := fun Q => w_clear (sc := sc) (Q := Q) (g := stS (remG g fs n) 0 (sS (sS (g.1 0) 0 (nI d)) 1 (nI p))) (j := 0) z7 (by rw [stS_at]; exact hnf)
          rw [stS_at, stS_twice] at hcl
          generalize hs' : sJ (sS (sS (g.1 0) 0 (nI d)) 1 (nI p)) 1 (fun _ => 0) = s' at hi hcl
          refine both_act h hh (v := s'.1 0 * s'.1 1) hi (fun Q => ?_) (fun Q => ?_)
          · have hsl : ∀ Q, ev sc 15 [.ref (bs 0)] (Wd (stS (remG g fs n) 0 s')) Q = Q (some (.int (s'.1 0 * s'.1 1))) (Wd (stS (remG g fs n) 0 s')) := fun Q => by
              rw [s_slots z7, stS_at]
            simp only [↓en61, ↓u61_0, ↓u61_1, ↓u61_2, ↓u61_4, ↓u61_7, ↓u61_20, ↓u61_10, ↓u61_22, ↓u61_11, ↓u61_12, ↓u61_14, ↓u61_17, ↓u61_23, ↓u61_24, ↓u61_27, ↓u61_30, ↓u61_36, ↓u61_33, ↓u61_37, ↓u61_35, ↓u61_38, ↓u61_41, ↓u61_44, ↓u61_61, ↓u61_47, ↓u61_62, ↓u61_48, ↓u61_65, ↓u61_49, ↓u61_66, ↓u61_52, ↓u61_69, ↓u61_55, ↓u61_70, ↓u61_58, ↓u61_73, ↓u61_60, ↓u61_74, ↓u61_77, ↓u61_78, ↓u61_81, ↓u61_82, ↓u61_85, ↓u61_88, ↓u61_91, ↓u61_92, ↓u61_95, ↓u61_98, ↓s_isIn, ↓c_v_some, d3, p3, n10, if_false, if_true, ↓nf0, ↓s_o z7, ↓s_allPlaced z7, plcAll_eq hI, k1, k2, ↓sf0 z7, ↓sf1 z7, nD_eq hI, nP_eq hI, ne, ne2, ↓m_o, ↓c_rem h hh, ↓c_v_none, remG_0, sp0 z7, sp1 z7, stS_at, stS_twice, ↓sf10 z7, ↓j_o1 z7, hcl, hsl]
            by_cases q1 : d = nD (g.1 0)
            · have q2 : ¬ p = nP (g.1 0) := fun q2 => e2 ⟨q1, q2⟩
              rw [if_pos q1, if_neg q2]
              try rw [hs']
            · rw [if_neg q1]
              try rw [hs']
          · have hr := fun Q => m_rec2 (sc := sc) (Q := Q) (g := stS (remG g fs n) 0 s') hh.2.1 hh.2.2.2.2.1
            have hl := m_cycle_l (sc := sc) (Q := Q) (a := nI d) (b := nI p) hs' 384 0 (gDN (rec2 (stS (remG g fs n) 0 s') n) 0 (mdl (sS (sS (g.1 0) 0 (nI d)) 1 (nI p)))) (by omega) (by rw [gDN_at, segW_0])
            rw [gDN_tw] at hl
            simp only [↓en121, ↓u121_0, ↓u121_1, ↓u121_2, ↓u121_4, ↓u121_7, ↓u121_20, ↓u121_10, ↓u121_22, ↓u121_11, ↓u121_12, ↓u121_14, ↓u121_17, ↓u121_23, ↓u121_24, ↓u121_27, ↓u121_33, ↓u121_30, ↓u121_34, ↓u121_32, ↓u121_35, ↓u121_38, ↓u121_39, ↓u121_40, ↓u121_56, ↓u121_43, ↓u121_57, ↓u121_44, ↓u121_60, ↓u121_45, ↓u121_61, ↓u121_48, ↓u121_64, ↓u121_49, ↓u121_65, ↓u121_50, ↓u121_66, ↓u121_53, ↓u121_67, ↓u121_55, ↓u121_68, ↓u121_71, ↓u121_72, ↓u121_73, ↓u121_74, ↓u121_75, ↓u121_77, ↓u121_80, ↓u121_100, ↓u121_83, ↓u121_101, ↓u121_84, ↓u121_104, ↓u121_87, ↓u121_90, ↓u121_91, ↓u121_92, ↓u121_93, ↓u121_94, ↓u121_97, ↓m_isIn, ↓c_v_some, d3, p3, n10, if_false, if_true, ↓d_o, ↓m_placedInAll hI (stS_now hM), k1, k2, ↓df0, ↓dI0, stS_now hM, rec2_now hM, r0, r1, m0, m1, mdl_n (show 0 < 6 by decide), mdl_n (show 1 < 6 by decide), nD_eq hI, nP_eq hI, ne, ne2, ↓hr, ↓c_v_none, upF_eq, ds0, gDN_at, gDN_tw, mdl_sS (show 0 < 6 by decide), mdl_sS (show 1 < 6 by decide)]
            by_cases q1 : d = nD (g.1 0)
            · have q2 : ¬ p = nP (g.1 0) := fun q2 => e2 ⟨q1, q2⟩
              rw [if_pos q1, if_neg q2]
              exact hl
            · rw [if_neg q1]
              exact hl
      · have k1 : (0 : Int32) < nI (sm (plc (g.1 0)) (nC (g.1 0))) := nI_lt (a := 0) (by omega) (by omega)
        have k2 : ¬ nI (sm (plc (g.1 0)) (nC (g.1 0))) ≤ 0 := nI_nle (by omega) (by omega)
        refine both_q h (v := -4) (fun Q => ?_) (fun Q => ?_)
        · simp only [↓en61, ↓u61_0, ↓u61_1, ↓u61_2, ↓u61_4, ↓u61_7, ↓u61_20, ↓u61_10, ↓u61_22, ↓u61_11, ↓u61_12, ↓u61_14, ↓u61_17, ↓u61_23, ↓u61_24, ↓u61_27, ↓u61_30, ↓u61_36, ↓u61_33, ↓u61_37, ↓u61_35, ↓u61_38, ↓u61_41, ↓u61_44, ↓u61_61, ↓u61_47, ↓u61_62, ↓u61_48, ↓u61_65, ↓u61_49, ↓u61_66, ↓u61_52, ↓u61_69, ↓u61_55, ↓u61_70, ↓u61_58, ↓u61_73, ↓u61_60, ↓u61_74, ↓u61_77, ↓u61_78, ↓u61_81, ↓u61_82, ↓u61_85, ↓u61_88, ↓u61_91, ↓u61_92, ↓u61_95, ↓u61_98, ↓s_isIn, ↓c_v_some, d3, p3, n10, if_false, if_true, ↓nf0, ↓s_o z7, ↓s_allPlaced z7, plcAll_eq hI, k1, k2]
        · simp only [↓en121, ↓u121_0, ↓u121_1, ↓u121_2, ↓u121_4, ↓u121_7, ↓u121_20, ↓u121_10, ↓u121_22, ↓u121_11, ↓u121_12, ↓u121_14, ↓u121_17, ↓u121_23, ↓u121_24, ↓u121_27, ↓u121_33, ↓u121_30, ↓u121_34, ↓u121_32, ↓u121_35, ↓u121_38, ↓u121_39, ↓u121_40, ↓u121_56, ↓u121_43, ↓u121_57, ↓u121_44, ↓u121_60, ↓u121_45, ↓u121_61, ↓u121_48, ↓u121_64, ↓u121_49, ↓u121_65, ↓u121_50, ↓u121_66, ↓u121_53, ↓u121_67, ↓u121_55, ↓u121_68, ↓u121_71, ↓u121_72, ↓u121_73, ↓u121_74, ↓u121_75, ↓u121_77, ↓u121_80, ↓u121_100, ↓u121_83, ↓u121_101, ↓u121_84, ↓u121_104, ↓u121_87, ↓u121_90, ↓u121_91, ↓u121_92, ↓u121_93, ↓u121_94, ↓u121_97, ↓m_isIn, ↓c_v_some, d3, p3, n10, if_false, if_true, ↓d_o, ↓m_placedInAll hI hM, k1, k2]
    · refine both_q h (v := -2) (fun Q => ?_) (fun Q => ?_)
      · simp only [↓en61, ↓u61_0, ↓u61_1, ↓u61_2, ↓u61_4, ↓u61_7, ↓u61_20, ↓u61_10, ↓u61_22, ↓u61_11, ↓u61_12, ↓u61_14, ↓u61_17, ↓u61_23, ↓u61_24, ↓u61_27, ↓u61_30, ↓u61_36, ↓u61_33, ↓u61_37, ↓u61_35, ↓u61_38, ↓u61_41, ↓u61_44, ↓u61_61, ↓u61_47, ↓u61_62, ↓u61_48, ↓u61_65, ↓u61_49, ↓u61_66, ↓u61_52, ↓u61_69, ↓u61_55, ↓u61_70, ↓u61_58, ↓u61_73, ↓u61_60, ↓u61_74, ↓u61_77, ↓u61_78, ↓u61_81, ↓u61_82, ↓u61_85, ↓u61_88, ↓u61_91, ↓u61_92, ↓u61_95, ↓u61_98, ↓s_isIn, ↓c_v_some, d3, p3, n10, n00, if_false, if_true]
      · simp only [↓en121, ↓u121_0, ↓u121_1, ↓u121_2, ↓u121_4, ↓u121_7, ↓u121_20, ↓u121_10, ↓u121_22, ↓u121_11, ↓u121_12, ↓u121_14, ↓u121_17, ↓u121_23, ↓u121_24, ↓u121_27, ↓u121_33, ↓u121_30, ↓u121_34, ↓u121_32, ↓u121_35, ↓u121_38, ↓u121_39, ↓u121_40, ↓u121_56, ↓u121_43, ↓u121_57, ↓u121_44, ↓u121_60, ↓u121_45, ↓u121_61, ↓u121_48, ↓u121_64, ↓u121_49, ↓u121_65, ↓u121_50, ↓u121_66, ↓u121_53, ↓u121_67, ↓u121_55, ↓u121_68, ↓u121_71, ↓u121_72, ↓u121_73, ↓u121_74, ↓u121_75, ↓u121_77, ↓u121_80, ↓u121_100, ↓u121_83, ↓u121_101, ↓u121_84, ↓u121_104, ↓u121_87, ↓u121_90, ↓u121_91, ↓u121_92, ↓u121_93, ↓u121_94, ↓u121_97, ↓m_isIn, ↓c_v_some, d3, p3, n10, n00, if_false, if_true]
  · refine both_q h (v := -2) (fun Q => ?_) (fun Q => ?_)
    · simp only [↓en61, ↓u61_0, ↓u61_1, ↓u61_2, ↓u61_4, ↓u61_7, ↓u61_20, ↓u61_10, ↓u61_22, ↓u61_11, ↓u61_12, ↓u61_14, ↓u61_17, ↓u61_23, ↓u61_24, ↓u61_27, ↓u61_30, ↓u61_36, ↓u61_33, ↓u61_37, ↓u61_35, ↓u61_38, ↓u61_41, ↓u61_44, ↓u61_61, ↓u61_47, ↓u61_62, ↓u61_48, ↓u61_65, ↓u61_49, ↓u61_66, ↓u61_52, ↓u61_69, ↓u61_55, ↓u61_70, ↓u61_58, ↓u61_73, ↓u61_60, ↓u61_74, ↓u61_77, ↓u61_78, ↓u61_81, ↓u61_82, ↓u61_85, ↓u61_88, ↓u61_91, ↓u61_92, ↓u61_95, ↓u61_98, ↓s_isIn, ↓c_v_some, d3, n00, if_true]
    · simp only [↓en121, ↓u121_0, ↓u121_1, ↓u121_2, ↓u121_4, ↓u121_7, ↓u121_20, ↓u121_10, ↓u121_22, ↓u121_11, ↓u121_12, ↓u121_14, ↓u121_17, ↓u121_23, ↓u121_24, ↓u121_27, ↓u121_33, ↓u121_30, ↓u121_34, ↓u121_32, ↓u121_35, ↓u121_38, ↓u121_39, ↓u121_40, ↓u121_56, ↓u121_43, ↓u121_57, ↓u121_44, ↓u121_60, ↓u121_45, ↓u121_61, ↓u121_48, ↓u121_64, ↓u121_49, ↓u121_65, ↓u121_50, ↓u121_66, ↓u121_53, ↓u121_67, ↓u121_55, ↓u121_68, ↓u121_71, ↓u121_72, ↓u121_73, ↓u121_74, ↓u121_75, ↓u121_77, ↓u121_80, ↓u121_100, ↓u121_83, ↓u121_101, ↓u121_84, ↓u121_104, ↓u121_87, ↓u121_90, ↓u121_91, ↓u121_92, ↓u121_93, ↓u121_94, ↓u121_97, ↓m_isIn, ↓c_v_some, d3, n00, if_true]
end
