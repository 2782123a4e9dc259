/-! THE PLAIN FORM: reasons and what is told -/
theorem ii1 {v : Int32} {n : Nat} (h : ii v 0 (nI n - 1) = 1) (hn : n < 2 ^ 31) : ∃ k, k < n ∧ v = nI k := by
  rcases ii_cases (v := v) hn with ⟨k, h1, h2, _⟩ | ⟨_, h2⟩
  · exact ⟨k, h1, h2⟩
  · rw [h2] at h
    exact absurd h (by decide)
section
variable {sc : Nat × (Nat → Int32)} {g : SG} {s : SV} {Q : Option Value → ri_W → Prop}
theorem m_isFor (hM : g.2.2.2.2 0 = mdl s) {c : Nat} {x : Int32} (hc : c < 20) : ev sc 139 [.ref 154, .int (nI c), .int x] (Wd g) Q = Q (some (.int (bI (isF s c x)))) (Wd g) := by
  simp only [↓en139, ↓u139_0, ↓u139_1, ↓u139_2, ↓u139_3, ↓u139_6, ↓u139_7, ↓u139_20, ↓u139_10, ↓u139_21, ↓u139_11, ↓u139_25, ↓u139_12, ↓u139_13, ↓u139_16, ↓u139_17, ↓u139_24, ↓d_o, ↓m_of0 hM hc, ↓m_of1 hM hc, ↓c_v_some, ↓c_b_0, ↓c_b_1]
  unfold isF
  by_cases h1 : fact s c 0 = x <;> by_cases h2 : fact s c 1 = x <;> simp [h1, h2, bI]
theorem bI_or {a b : Bool} : (if bI a = 0 then bI b else 1) = bI (a || b) := by cases a <;> cases b <;> decide

theorem m_isBusy_l (hI : inv s) (hM : g.2.2.2.2 0 = mdl s) {c m : Nat} (hc : c < nC s) (hm : m < 48) : ∀ (d i : Nat), i + d = nC s → rv sc 140 5 [(0, .ref 154), (1, .int (nI c)), (2, .int (nI m)), (3, .int (bI (anyB (fun c' => hC s c' m && (shS s c c' && !hvS s c c')) i))), (4, .int (nI i))] [] (Wd g) Q = Q (some (.int (bI (anyB (fun c' => hC s c' m && (shS s c c' && !hvS s c c')) (nC s))))) (Wd g) := by
  have h48 := (sl48 hI).1
  have h20 := nC20 hI
  have h6 := nP6 hI
  have h8 := nD8 hI
  intro d
  induction d with
  | zero =>
    intro i hi
    have h5 : nI (nC s) ≤ nI i := nI_le (by omega) (by omega)
    rw [u140_5]
    simp only [↓u140_0, ↓u140_1, ↓u140_2, ↓u140_3, ↓u140_7, ↓u140_8, ↓u140_11, ↓u140_12, ↓u140_13, ↓u140_125, ↓u140_16, ↓u140_126, ↓u140_17, ↓u140_19, ↓u140_20, ↓u140_21, ↓u140_22, ↓u140_25, ↓u140_28, ↓u140_57, ↓u140_31, ↓u140_58, ↓u140_32, ↓u140_62, ↓u140_33, ↓u140_64, ↓u140_34, ↓u140_65, ↓u140_37, ↓u140_67, ↓u140_39, ↓u140_68, ↓u140_61, ↓u140_42, ↓u140_71, ↓u140_43, ↓u140_72, ↓u140_45, ↓u140_73, ↓u140_46, ↓u140_74, ↓u140_47, ↓u140_77, ↓u140_48, ↓u140_78, ↓u140_51, ↓u140_79, ↓u140_54, ↓u140_86, ↓u140_82, ↓u140_87, ↓u140_83, ↓u140_89, ↓u140_90, ↓u140_113, ↓u140_93, ↓u140_114, ↓u140_94, ↓u140_118, ↓u140_96, ↓u140_119, ↓u140_97, ↓u140_122, ↓u140_100, ↓u140_117, ↓u140_103, ↓u140_105, ↓u140_108, ↓u140_110, h5, if_true, if_false, ↓df0, ↓dI0, r5, m5, hM, mdl_n (show 5 < 6 by decide), nC_eq hI, cb_bI]
    rw [show i = nC s by omega]
  | succ d ih =>
    intro i hi
    have h5 : ¬ nI (nC s) ≤ nI i := nI_ge (by omega) (by omega)
    have ih1 := ih (i + 1) (by omega)
    have hi20 : i < 20 := by omega
    have hc20 : c < 20 := by omega
    have f0 := fun Q => m_isFor (sc := sc) (g := g) (Q := Q) hM (x := fact s c 0) hi20
    have f1 := fun Q => m_isFor (sc := sc) (g := g) (Q := Q) hM (x := fact s c 1) hi20
    have key : ∀ a b : Bool, a = anyB (fun c' => hC s c' m && (shS s c c' && !hvS s c c')) i → b = (hC s i m && (shS s c i && !hvS s c i)) → (a || b) = anyB (fun c' => hC s c' m && (shS s c c' && !hvS s c c')) (i + 1) := fun a b e1 e2 => by rw [e1, e2]; rfl
    rw [u140_5]
    simp only [↓u140_0, ↓u140_1, ↓u140_2, ↓u140_3, ↓u140_7, ↓u140_8, ↓u140_11, ↓u140_12, ↓u140_13, ↓u140_125, ↓u140_16, ↓u140_126, ↓u140_17, ↓u140_19, ↓u140_20, ↓u140_21, ↓u140_22, ↓u140_25, ↓u140_28, ↓u140_57, ↓u140_31, ↓u140_58, ↓u140_32, ↓u140_62, ↓u140_33, ↓u140_64, ↓u140_34, ↓u140_65, ↓u140_37, ↓u140_67, ↓u140_39, ↓u140_68, ↓u140_61, ↓u140_42, ↓u140_71, ↓u140_43, ↓u140_72, ↓u140_45, ↓u140_73, ↓u140_46, ↓u140_74, ↓u140_47, ↓u140_77, ↓u140_48, ↓u140_78, ↓u140_51, ↓u140_79, ↓u140_54, ↓u140_86, ↓u140_82, ↓u140_87, ↓u140_83, ↓u140_89, ↓u140_90, ↓u140_113, ↓u140_93, ↓u140_114, ↓u140_94, ↓u140_118, ↓u140_96, ↓u140_119, ↓u140_97, ↓u140_122, ↓u140_100, ↓u140_117, ↓u140_103, ↓u140_105, ↓u140_108, ↓u140_110, h5, if_true, if_false, ↓df0, ↓dI0, r5, m5, hM, mdl_n (show 5 < 6 by decide), nC_eq hI, ↓d_o, ↓m_of0 hM hc20, ↓m_of1 hM hc20, ↓m_of2 hM hc20, ↓m_of2 hM hi20, ↓m_has hI hM hi20 hm, ↓f0, ↓f1, ↓c_v_some, nI_1]
    rw [← key _ _ rfl rfl] at ih1
    generalize anyB (fun c' => hC s c' m && (shS s c c' && !hvS s c c')) i = za at ih1 ⊢
    generalize anyB (fun c' => hC s c' m && (shS s c c' && !hvS s c c')) (nC s) = zn at ih1 ⊢
    cases za <;> cases eh : hC s i m <;> cases e0 : isF s i (fact s c 0) <;> by_cases e1 : fact s c 1 = -5 <;> cases e2 : isF s i (fact s c 1) <;> by_cases e3 : fact s i 2 + fact s c 2 = 3 <;> simp [eh, shS, hvS, e0, e1, e2, e3, bI] at ih1 ⊢ <;> first | done | exact ih1
theorem m_isBusy (hI : inv s) (hM : g.2.2.2.2 0 = mdl s) {c m : Nat} (hc : c < nC s) (hm : m < 48) : ev sc 140 [.ref 154, .int (nI c), .int (nI m)] (Wd g) Q = Q (some (.int (bI (busyS s c m)))) (Wd g) := by
  rw [← any_busy hI hc]
  simp only [↓en140, ↓u140_0, ↓u140_1, ↓u140_2, ↓u140_3, ↓u140_7, ↓u140_8, ↓u140_11, ↓u140_12, ↓u140_13, ↓u140_125, ↓u140_16, ↓u140_126, ↓u140_17, ↓u140_19, ↓u140_20, ↓u140_21, ↓u140_22, ↓u140_25, ↓u140_28, ↓u140_57, ↓u140_31, ↓u140_58, ↓u140_32, ↓u140_62, ↓u140_33, ↓u140_64, ↓u140_34, ↓u140_65, ↓u140_37, ↓u140_67, ↓u140_39, ↓u140_68, ↓u140_61, ↓u140_42, ↓u140_71, ↓u140_43, ↓u140_72, ↓u140_45, ↓u140_73, ↓u140_46, ↓u140_74, ↓u140_47, ↓u140_77, ↓u140_48, ↓u140_78, ↓u140_51, ↓u140_79, ↓u140_54, ↓u140_86, ↓u140_82, ↓u140_87, ↓u140_83, ↓u140_89, ↓u140_90, ↓u140_113, ↓u140_93, ↓u140_114, ↓u140_94, ↓u140_118, ↓u140_96, ↓u140_119, ↓u140_97, ↓u140_122, ↓u140_100, ↓u140_117, ↓u140_103, ↓u140_105, ↓u140_108, ↓u140_110]
  exact m_isBusy_l hI hM hc hm (nC s) 0 (by omega)

theorem x22 {r : Nat} : (22 : Int32) + nI r = nI (22 + r) := by rw [show (22 : Int32) = nI 22 from rfl, nI_add]
theorem x6 {t : Nat} : (6 : Int32) + 2 * nI t = nI (6 + 2 * t + 0) := by rw [show (6 : Int32) = nI 6 from rfl, show (2 : Int32) = nI 2 from rfl, pk_mul, nI_add, Nat.add_zero]
theorem x61 {t : Nat} : nI (6 + 2 * t + 0) + 1 = nI (6 + 2 * t + 1) := by rw [nI_1]
theorem m_reasonOf (hI : inv s) (hM : g.2.2.2.2 0 = mdl s) {c m r : Nat} (hc : c < nC s) (hm : m < slS s) (hr : r < nR s) : ev sc 141 [.ref 154, .int (nI c), .int (nI m), .int (nI r)] (Wd g) Q = Q (some (.int (fstS s c m r))) (Wd g) := by
  have h48 := (sl48 hI).1
  have h20 := nC20 hI
  have h6 := nP6 hI
  have h8 := nD8 hI
  have hr6 : r < 6 := by have := hI.2.1.2.2.2.2.1.2; omega
  have hc20 : c < 20 := by omega
  have hm48 : m < 48 := by omega
  have hP2 : 2 ≤ nP s := hI.2.1.2.1.2.1
  obtain ⟨f1, f2⟩ := (hI.2.2.1 c hc).2.2.2
  have ht8 : fT s c < 8 := by have := hI.2.1.2.2.2.1.2; omega
  have he : m / nP s < nD s := by
    rw [Nat.div_lt_iff_lt_mul (by omega)]
    exact hm
  have hp0 : ¬ nI (nP s) = 0 := nI_ne0 (by omega) (by omega)
  have hdv : nI m / nI (nP s) = nI (m / nP s) := pk_div (by omega) (by omega) (by omega)
  have e3 := fun Q => m_of3 (sc := sc) (g := g) (Q := Q) hM hc20
  rw [f1] at e3
  have d0 : ∀ Q, ev sc 137 [.ref 154, .int (nI c), .int (nI (m / nP s)), .int 0] (Wd g) Q = Q (some (.int (nI (ct (fun p => hC s c (m / nP s * nP s + p)) (nP s))))) (Wd g) := fun Q => by
    rw [← day_C hI hc]
    exact m_onDay (b := false) hI hM hc20 he
  have d1 : ∀ Q, ev sc 137 [.ref 154, .int (nI (fT s c)), .int (nI (m / nP s)), .int 1] (Wd g) Q = Q (some (.int (nI (ct (fun p => hT s (fT s c) (m / nP s * nP s + p)) (nP s))))) (Wd g) := fun Q => by
    rw [← day_T hI ht8]
    exact m_onDay (b := true) hI hM (by omega) he
  have lo := fun Q => m_lessonsOf (sc := sc) (g := g) (Q := Q) hI hM (t := fT s c)
  rw [all_T hI ht8] at lo
  have co := fun Q => m_courseOf (sc := sc) (g := g) (Q := Q) hI hM (t := fT s c) hm48
  have ci := fun Q => m_courseIn (sc := sc) (g := g) (Q := Q) hI hM (r := r) hm48
  simp only [↓en141, ↓u141_0, ↓u141_1, ↓u141_2, ↓u141_3, ↓u141_6, ↓u141_8, ↓u141_9, ↓u141_10, ↓u141_13, ↓u141_14, ↓u141_15, ↓u141_16, ↓u141_18, ↓u141_19, ↓u141_20, ↓u141_23, ↓u141_24, ↓u141_25, ↓u141_26, ↓u141_29, ↓u141_34, ↓u141_32, ↓u141_35, ↓u141_33, ↓u141_36, ↓u141_38, ↓u141_39, ↓u141_42, ↓u141_43, ↓u141_48, ↓u141_46, ↓u141_49, ↓u141_47, ↓u141_51, ↓u141_52, ↓u141_55, ↓u141_60, ↓u141_58, ↓u141_61, ↓u141_59, ↓u141_63, ↓u141_64, ↓u141_67, ↓u141_69, ↓u141_74, ↓u141_72, ↓u141_75, ↓u141_73, ↓u141_77, ↓u141_79, ↓u141_80, ↓u141_83, ↓u141_84, ↓u141_87, ↓u141_89, ↓u141_90, ↓u141_92, ↓u141_93, ↓u141_94, ↓u141_95, ↓u141_96, ↓u141_97, ↓u141_102, ↓u141_100, ↓u141_103, ↓u141_101, ↓u141_105, ↓u141_108, ↓u141_109, ↓u141_112, ↓u141_114, ↓u141_115, ↓u141_117, ↓u141_118, ↓u141_119, ↓u141_120, ↓u141_126, ↓u141_123, ↓u141_127, ↓u141_125, ↓u141_128, ↓u141_129, ↓u141_132, ↓u141_138, ↓u141_135, ↓u141_139, ↓u141_137, ↓u141_140, ↓u141_141, ↓u141_144, ↓u141_146, ↓u141_152, ↓u141_149, ↓u141_153, ↓u141_151, ↓u141_154, ↓u141_155, ↓u141_158, ↓u141_159, ↓u141_162, ↓u141_164, ↓u141_165, ↓u141_166, ↓u141_167, ↓u141_168, ↓u141_169, ↓u141_170, ↓u141_178, ↓u141_173, ↓u141_179, ↓u141_175, ↓d_o, ↓e3, ↓m_of4 hM hc20, ↓m_of5 hM hc20, ↓m_placed hI hM hc20, ↓m_isBarred hM ht8 hm48, ↓co, ↓ci, ↓lo, d0, d1, ↓m_isBusy hI hM hc hm48, ↓c_v_some, ↓df0, ↓dI0, r1, m1, hM, mdl_n (show 1 < 6 by decide), nP_eq hI, hp0, hdv, if_true, if_false, x22, x6, x61, nAt (show 22 + r < 1892 by omega) (by decide), nI_clamp (show 22 + r < 2 ^ 31 by omega), mdl_r hr6, nAt (show 6 + 2 * fT s c + 0 < 1892 by omega) (by decide), nI_clamp (show 6 + 2 * fT s c + 0 < 2 ^ 31 by omega), nAt (show 6 + 2 * fT s c + 1 < 1892 by omega) (by decide), nI_clamp (show 6 + 2 * fT s c + 1 < 2 ^ 31 by omega), mdl_t ht8 (show 0 < 2 by decide), mdl_t ht8 (show 1 < 2 by decide), fdI_n5 (show nC s < 2 ^ 31 by omega), any_T hI ht8, any_R hI hr6]
  obtain ⟨l1, l2, l3⟩ := hI.2.2.2.1 c hc
  have hpl : plc s c ≤ 64 := pcn_le _
  have hpf := hI.2.2.2.2.2.1 c hc
  have E1 : (nI (plc s c) = fact s c 5) = ¬ (nI (plc s c) < fact s c 5) := by
    rw [l1]
    refine propext ?_
    rw [nI_eq (by omega) (by omega), nI_ltI (by omega) (by omega)]
    omega
  have hdl := hI.2.2.2.2.2.2.1 c (m / nP s)
  have E2 : (nI (ct (fun p => hC s c (m / nP s * nP s + p)) (nP s)) = 2) = ¬ (nI (ct (fun p => hC s c (m / nP s * nP s + p)) (nP s)) < 2) := by
    refine propext ?_
    rw [show (2 : Int32) = nI 2 from rfl, nI_eq (by omega) (by omega), nI_ltI (by omega) (by omega)]
    omega
  simp only [E1, E2]
  unfold fstS reaS rooS
  by_cases a1 : nI (plc s c) < fact s c 5
  · by_cases a2 : nI (ct (fun p => hC s c (m / nP s * nP s + p)) (nP s)) < 2
    · simp only [a1, a2, not_true_eq_false, if_true, if_false]
      cases hB s (fT s c) m
      · cases hT s (fT s c) m
        · by_cases a5 : nI (ct (fun p => hT s (fT s c) (m / nP s * nP s + p)) (nP s)) < tf s (fT s c) 1
          · by_cases a6 : nI (pcn (s.2.2 4 (fT s c))) < tf s (fT s c) 0
            · simp only [a5, a6, bI_f, n00, if_true, if_false, Bool.false_eq_true]
              cases busyS s c m
              · cases hR s r m
                · simp only [bI_f, n00, if_true, if_false, Bool.false_eq_true]
                  split <;> rfl
                · simp [bI]
              · simp [bI]
            · simp [a5, a6, bI]
          · simp [a5, bI]
        · simp [bI]
      · simp [bI]
    · simp only [a1, a2, not_true_eq_false, not_false_eq_true, if_true, if_false]
      rfl
  · simp only [a1, not_false_eq_true, if_true, if_false]
    rfl
theorem m_placeError (hI : inv s) (hM : g.2.2.2.2 0 = mdl s) {v m r : Int32} : ev sc 143 [.ref 154, .int v, .int m, .int r] (Wd g) Q = Q (some (.int (errS s v m r))) (Wd g) := by
  have hsl := sl_eq hI
  have h48 := (sl48 hI).1
  have hRn := hI.2.1.2.2.2.2.1
  have hCn := hI.2.1.2.2.2.2.2
  simp only [↓en143, ↓u143_0, ↓u143_1, ↓u143_2, ↓u143_5, ↓u143_24, ↓u143_8, ↓u143_25, ↓u143_9, ↓u143_10, ↓u143_13, ↓u143_16, ↓u143_17, ↓u143_18, ↓u143_21, ↓u143_26, ↓u143_27, ↓u143_28, ↓u143_29, ↓u143_30, ↓u143_33, ↓u143_40, ↓u143_36, ↓u143_42, ↓u143_37, ↓d_o, ↓m_isCourse hM, ↓m_isSlot hM, ↓m_isRoom hM, ↓c_v_some]
  unfold errS
  rw [hsl, hRn.1, hCn.1]
  rcases ii_cases (v := v) (n := nC s) (by omega) with ⟨c, c1, rfl, c2⟩ | ⟨-, c2⟩
  · rcases ii_cases (v := m) (n := slS s) (by omega) with ⟨q, q1, rfl, q2⟩ | ⟨-, q2⟩
    · rcases ii_cases (v := r) (n := nR s) (by omega) with ⟨o, o1, rfl, o2⟩ | ⟨-, o2⟩
      · simp only [↓u143_0, ↓u143_1, ↓u143_2, ↓u143_5, ↓u143_24, ↓u143_8, ↓u143_25, ↓u143_9, ↓u143_10, ↓u143_13, ↓u143_16, ↓u143_17, ↓u143_18, ↓u143_21, ↓u143_26, ↓u143_27, ↓u143_28, ↓u143_29, ↓u143_30, ↓u143_33, ↓u143_40, ↓u143_36, ↓u143_42, ↓u143_37, c2, q2, o2, n10, if_false, ↓d_o, ↓m_reasonOf hI hM c1 q1 o1, ↓c_v_some, nI_clamp (show c < 2 ^ 31 by omega), nI_clamp (show q < 2 ^ 31 by omega), nI_clamp (show o < 2 ^ 31 by omega)]
        split <;> rfl
      · simp only [c2, q2, o2, n10, n00, if_false, if_true]
    · simp only [c2, q2, n10, n00, if_false, if_true]
  · simp only [c2, n00, if_true]
theorem m_isLesson (hI : inv s) (hM : g.2.2.2.2 0 = mdl s) {v m : Int32} : ev sc 145 [.ref 154, .int v, .int m] (Wd g) Q = Q (some (.int (klS s v m))) (Wd g) := by
  have hsl := sl_eq hI
  have h48 := (sl48 hI).1
  have hCn := hI.2.1.2.2.2.2.2
  simp only [↓en145, ↓u145_0, ↓u145_1, ↓u145_2, ↓u145_5, ↓u145_29, ↓u145_8, ↓u145_30, ↓u145_9, ↓u145_10, ↓u145_13, ↓u145_16, ↓u145_17, ↓u145_18, ↓u145_19, ↓u145_22, ↓u145_25, ↓u145_26, ↓d_o, ↓m_isCourse hM, ↓m_isSlot hM, ↓c_v_some]
  unfold klS
  rw [hsl, hCn.1]
  rcases ii_cases (v := v) (n := nC s) (by omega) with ⟨c, c1, rfl, c2⟩ | ⟨-, c2⟩
  · rcases ii_cases (v := m) (n := slS s) (by omega) with ⟨q, q1, rfl, q2⟩ | ⟨-, q2⟩
    · simp only [↓u145_0, ↓u145_1, ↓u145_2, ↓u145_5, ↓u145_29, ↓u145_8, ↓u145_30, ↓u145_9, ↓u145_10, ↓u145_13, ↓u145_16, ↓u145_17, ↓u145_18, ↓u145_19, ↓u145_22, ↓u145_25, ↓u145_26, c2, q2, n10, if_false, ↓d_o, ↓m_has hI hM (show c < 20 by omega) (show q < 48 by omega), ↓c_v_some, nI_clamp (show c < 2 ^ 31 by omega), nI_clamp (show q < 2 ^ 31 by omega)]
      cases hC s c q <;> simp only [↓u145_0, ↓u145_1, ↓u145_2, ↓u145_5, ↓u145_29, ↓u145_8, ↓u145_30, ↓u145_9, ↓u145_10, ↓u145_13, ↓u145_16, ↓u145_17, ↓u145_18, ↓u145_19, ↓u145_22, ↓u145_25, ↓u145_26, bI_t, bI_f, n10, n00, if_true, if_false, ↓c_b_0, ↓c_b_1]
    · simp only [c2, q2, n10, n00, if_false, if_true, ↓c_b_0]
  · simp only [c2, n00, if_true, ↓c_b_0]
def reasonV (s : SV) (v m r : Int32) : Int32 := if ii v 0 (s.1 5 - 1) = 0 then -1 else if ii m 0 (s.1 0 * s.1 1 - 1) = 0 then -1 else if ii r 0 (s.1 4 - 1) = 0 then -1 else fstS s v.toNatClampNeg m.toNatClampNeg r.toNatClampNeg
theorem m_reason (hI : inv s) (hM : g.2.2.2.2 0 = mdl s) {v m r : Int32} : ev sc 142 [.ref 154, .int v, .int m, .int r] (Wd g) Q = Q (some (.int (reasonV s v m r))) (Wd g) := by
  have hsl := sl_eq hI
  have h48 := (sl48 hI).1
  have hRn := hI.2.1.2.2.2.2.1
  have hCn := hI.2.1.2.2.2.2.2
  simp only [↓en142, ↓u142_0, ↓u142_1, ↓u142_2, ↓u142_5, ↓u142_34, ↓u142_8, ↓u142_35, ↓u142_9, ↓u142_10, ↓u142_13, ↓u142_16, ↓u142_17, ↓u142_18, ↓u142_21, ↓u142_24, ↓u142_25, ↓u142_26, ↓u142_27, ↓u142_28, ↓u142_31, ↓d_o, ↓m_isCourse hM, ↓m_isSlot hM, ↓m_isRoom hM, ↓c_v_some]
  unfold reasonV
  rw [hsl, hRn.1, hCn.1]
  rcases ii_cases (v := v) (n := nC s) (by omega) with ⟨c, c1, rfl, c2⟩ | ⟨-, c2⟩
  · rcases ii_cases (v := m) (n := slS s) (by omega) with ⟨q, q1, rfl, q2⟩ | ⟨-, q2⟩
    · rcases ii_cases (v := r) (n := nR s) (by omega) with ⟨o, o1, rfl, o2⟩ | ⟨-, o2⟩
      · simp only [↓u142_0, ↓u142_1, ↓u142_2, ↓u142_5, ↓u142_34, ↓u142_8, ↓u142_35, ↓u142_9, ↓u142_10, ↓u142_13, ↓u142_16, ↓u142_17, ↓u142_18, ↓u142_21, ↓u142_24, ↓u142_25, ↓u142_26, ↓u142_27, ↓u142_28, ↓u142_31, c2, q2, o2, n10, if_false, ↓d_o, ↓m_reasonOf hI hM c1 q1 o1, ↓c_v_some, nI_clamp (show c < 2 ^ 31 by omega), nI_clamp (show q < 2 ^ 31 by omega), nI_clamp (show o < 2 ^ 31 by omega)]
      · simp only [c2, q2, o2, n10, n00, if_false, if_true]
    · simp only [c2, q2, n10, n00, if_false, if_true]
  · simp only [c2, n00, if_true]

end
