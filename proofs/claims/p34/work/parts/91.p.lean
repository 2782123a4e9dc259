/-! THE LAW'S OWN METHODS: a course's lessons are right -/
section
variable {sc : Nat × (Nat → Int32)} {s : SV} {g : SG} {fs n j : Nat} {w : ri_W} {Q : Option Value → ri_W → Prop}
theorem plc_sl (hI : inv s) {c : Nat} : plc s c = ct (hC s c) (slS s) := row_sl hI (i := 3) (k := c) (fun m hm => (inv_C hI (c := c) (m := m) hm).2)
theorem ct_step {p : Nat → Bool} {i : Nat} : ct p (i + 1) = ct p i + (if p i = true then 1 else 0) := rfl
theorem ct_mon {p : Nat → Bool} {a b : Nat} (h : a ≤ b) : ct p a ≤ ct p b := by
  obtain ⟨d, rfl⟩ := Nat.exists_eq_add_of_le h
  rw [ct_split]
  omega
/-- the lesson at a place of a course: its slot, its room -/
theorem lat_any (hI : inv s) {c k : Nat} (hk : k < 2 ^ 31) : ∀ (d i : Nat), i + d = slS s → ct (hC s c) i ≤ k → (k < plc s c → ∃ m r, m < slS s ∧ r < 6 ∧ hX s c r m = true ∧ hC s c m = true ∧ ct (hC s c) m = k ∧ latS s c (nI k) d i (ct (hC s c) i) = nI (10 * m + r)) ∧ (plc s c ≤ k → latS s c (nI k) d i (ct (hC s c) i) = -5) := by
  have h48 := (sl48 hI).1
  have hps := plc_sl hI (c := c)
  intro d
  induction d with
  | zero =>
    intro i hi hb
    have e : i = slS s := by omega
    subst e
    exact ⟨fun h => absurd h (by omega), fun _ => rfl⟩
  | succ d ih =>
    intro i hi hb
    have hst := ct_step (p := hC s c) (i := i)
    have hcb := ct_le (hC s c) i
    rw [latS_succ]
    by_cases e : hC s c i = true
    · rw [if_pos e] at hst
      rw [if_pos e]
      by_cases e2 : ct (hC s c) i = k
      · refine ⟨fun _ => ?_, fun h => ?_⟩
        · obtain ⟨r, h1, h2⟩ := (hI.2.2.2.2.1.2.2.1 c i).mp e
          refine ⟨i, r, by omega, h1, h2, e, e2, ?_⟩
          rw [if_pos (by rw [e2]), (rm_iff hI.2.2.2.2.1.2.1).mpr ⟨h1, h2⟩]
          show (10 : Int32) * nI i + nI r = _
          rw [show (10 : Int32) = nI 10 from rfl, pk_mul, nI_add]
        · have := ct_mon (p := hC s c) (show i + 1 ≤ slS s by omega)
          omega
      · rw [if_neg (fun h => e2 ((nI_eq (by omega) hk).mp h)), ← hst]
        exact ih (i + 1) (by omega) (by omega)
    · rw [if_neg e] at hst
      rw [if_neg e]
      have := ih (i + 1) (by omega) (by omega)
      rw [hst, Nat.add_zero] at this
      exact this
theorem lat_nth (hI : inv s) {c k : Nat} (h : k < plc s c) : ∃ m r, m < slS s ∧ r < 6 ∧ hX s c r m = true ∧ hC s c m = true ∧ ct (hC s c) m = k ∧ latS s c (nI k) (slS s) 0 0 = nI (10 * m + r) := by
  have hb : plc s c ≤ 64 := pcn_le _
  exact (lat_any hI (k := k) (c := c) (by omega) (slS s) 0 (by omega) (Nat.zero_le _)).1 h
theorem lat_end (hI : inv s) {c : Nat} : latS s c (nI (plc s c)) (slS s) 0 0 = -5 := by
  have hb : plc s c ≤ 64 := pcn_le _
  exact (lat_any hI (k := plc s c) (c := c) (by omega) (slS s) 0 (by omega) (Nat.zero_le _)).2 (Nat.le_refl _)
/-- what isCourse knows of the last lesson: its day, and how many lessons of that day there were up to it -/
def icI (s : SV) (c n : Nat) (dy od : Int32) : Prop := (n = 0 ∧ dy = -1 ∧ od = 0) ∨ ∃ m, hC s c m = true ∧ m < slS s ∧ ct (hC s c) (m + 1) = n ∧ dy = nI (m / nP s) ∧ od = nI (n - ct (hC s c) (m / nP s * nP s))
theorem ic_step (hI : inv s) {c n m : Nat} {dy od : Int32} (h : icI s c n dy od) (hm : m < slS s) (hc : hC s c m = true) (hn : ct (hC s c) m = n) : icI s c (n + 1) (nI (m / nP s)) (if nI (m / nP s) = dy then od + 1 else 1) ∧ ¬ (2 : Int32) < (if nI (m / nP s) = dy then od + 1 else 1) := by
  have h48 := (sl48 hI).1
  have hP6 := nP6 hI
  have hP2 : 2 ≤ nP s := hI.2.1.2.1.2.1
  have hn1 : ct (hC s c) (m + 1) = n + 1 := by rw [ct_step, if_pos hc, hn]
  have hlo : m / nP s * nP s ≤ m := Nat.div_mul_le_self m (nP s)
  have hhi : m < m / nP s * nP s + nP s := by
    have := Nat.div_add_mod m (nP s)
    have := Nat.mod_lt m (show nP s > 0 by omega)
    rw [Nat.mul_comm]
    omega
  have hday : n + 1 - ct (hC s c) (m / nP s * nP s) ≤ 2 := by
    have h1 := ct_split (hC s c) (m / nP s * nP s) (m + 1 - m / nP s * nP s)
    rw [show m / nP s * nP s + (m + 1 - m / nP s * nP s) = m + 1 by omega, hn1] at h1
    have h2 := ct_mon (p := fun k => hC s c (m / nP s * nP s + k)) (show m + 1 - m / nP s * nP s ≤ nP s by omega)
    have h3 := hI.2.2.2.2.2.2.1 c (m / nP s)
    omega
  have hdv : m / nP s ≤ m := Nat.div_le_self _ _
  have key : (if nI (m / nP s) = dy then od + 1 else 1) = nI (n + 1 - ct (hC s c) (m / nP s * nP s)) := by
    have hle : ct (hC s c) (m / nP s * nP s) ≤ n := by
      rw [← hn]
      exact ct_mon hlo
    rcases h with ⟨rfl, rfl, rfl⟩ | ⟨m', h1, h2, h3, rfl, rfl⟩
    · have hne : ¬ nI (m / nP s) = -1 := fun e => nI_pos (n := m / nP s) (by omega) (by rw [e]; decide)
      rw [if_neg hne, show 0 + 1 - ct (hC s c) (m / nP s * nP s) = 1 by omega]
      rfl
    · have h3' : ct (hC s c) m' + 1 = n := by rw [← h3, ct_step, if_pos h1]
      have hlt : m' < m := by
        rcases Nat.lt_or_ge m' m with h | h
        · exact h
        · have := ct_mon (p := hC s c) h
          omega
      have hdv' : m' / nP s ≤ m' := Nat.div_le_self _ _
      have hdm : m' / nP s ≤ m / nP s := Nat.div_le_div_right (by omega)
      by_cases e : m / nP s = m' / nP s
      · have hle2 : ct (hC s c) (m' / nP s * nP s) ≤ n := by rw [← e]; exact hle
        rw [e, if_pos rfl, nI_1]
        congr 1
        omega
      · have e2 : ¬ nI (m / nP s) = nI (m' / nP s) := fun h => e ((nI_eq (by omega) (by omega)).mp h)
        rw [if_neg e2]
        have h4 : m' + 1 ≤ m / nP s * nP s := by
          have h5 : (m' / nP s + 1) * nP s ≤ m / nP s * nP s := Nat.mul_le_mul_right _ (by omega)
          have h6 := Nat.div_add_mod m' (nP s)
          have h7 := Nat.mod_lt m' (show nP s > 0 by omega)
          rw [Nat.succ_mul] at h5
          rw [Nat.mul_comm] at h6
          omega
        have h5 := ct_mon (p := hC s c) h4
        rw [show n + 1 - ct (hC s c) (m / nP s * nP s) = 1 by omega]
        rfl
  rw [key]
  exact ⟨.inr ⟨m, hc, hm, hn1, rfl, rfl⟩, nI_nlt (b := n + 1 - ct (hC s c) (m / nP s * nP s)) (a := 2) hday (by decide)⟩
theorem ten_div {m r : Nat} (hm : m < 64) (hr : r < 6) : nI (10 * m + r) / 10 = nI m ∧ nI (10 * m + r) - nI (10 * m + r) / 10 * 10 = nI r := by
  have h1 := pk_div (a := 10 * m + r) (d := 10) (by omega) (by decide) (by decide)
  have h2 := pk_rem (a := 10 * m + r) (d := 10) (by omega) (by decide) (by decide)
  rw [show nI 10 = (10 : Int32) from rfl] at h1 h2
  rw [h1] at h2 ⊢
  rw [h2]
  exact ⟨by rw [show (10 * m + r) / 10 = m by omega], by rw [show (10 * m + r) % 10 = r by omega]⟩
theorem ic_n (hJ : inv2 (g.1 0)) {c : Nat} (hc : c < nC (g.1 0)) : ∀ (e n : Nat) (dy od : Int32), n + e = plc (g.1 0) c → icI (g.1 0) c n dy od → rv sc 96 47 [(0, .ref 0), (1, .int (nI c)), (2, .int dy), (3, .int od), (4, .int 1), (5, .int (nI n))] [] (Wd g) Q = Q (some (.int 1)) (Wd g) := by
  have hI := hJ.1
  have h48 := (sl48 hI).1
  have h20 := nC20 hI
  have hP6 := nP6 hI
  have hP2 : 2 ≤ nP (g.1 0) := hI.2.1.2.1.2.1
  have hb : plc (g.1 0) c ≤ 64 := pcn_le _
  obtain ⟨⟨g1, g2⟩, g3, ⟨g4, g5⟩, g6, g7⟩ := hI.2.2.1 c hc
  have k0 := fun Q => v_fact0 (sc := sc) (Q := Q) hI hc
  have k2 := fun Q => v_fact2 (sc := sc) (Q := Q) hI hc
  have k3 := fun Q => v_fact3 (sc := sc) (Q := Q) hI hc
  rw [g1] at k0
  rw [g4] at k2
  rw [g6] at k3
  intro e
  induction e with
  | zero =>
    intro n dy od hn hin
    have e1 : n = plc (g.1 0) c := by omega
    subst e1
    have h5 : nI (plc (g.1 0) c) ≤ nI (plc (g.1 0) c) := nI_le (Nat.le_refl _) (by omega)
    rw [u96_47]
    simp only [↓u96_49, ↓u96_50, ↓u96_51, ↓u96_53, ↓u96_56, ↓u96_241, ↓u96_243, ↓m_o, ↓c_v_some, ↓v_plc hI hc, h5, if_true, ↓c_b_1]
  | succ e ih =>
    intro n dy od hn hin
    have h5 : ¬ nI (plc (g.1 0) c) ≤ nI n := nI_ge (by omega) (by omega)
    obtain ⟨m, r, m1, r6, hx, hcm, hct, hl⟩ := lat_nth hI (c := c) (k := n) (by omega)
    obtain ⟨i1, i2⟩ := ic_step hI hin m1 hcm hct
    have ih1 := ih (n + 1) _ _ (by omega) i1
    have hla := fun Q => v_lessonAt (sc := sc) (Q := Q) (k := n) hI hc (by omega)
    rw [hl] at hla
    obtain ⟨t1, t2⟩ := ten_div (m := m) (r := r) (by omega) r6
    have t3 := t2
    rw [t1] at t3
    have dv : nI m / nI (nP (g.1 0)) = nI (m / nP (g.1 0)) := pk_div (by omega) (by omega) (by omega)
    have d0 : ¬ nI (nP (g.1 0)) = 0 := nI_ne0 (by omega) (by omega)
    have r1 := (hI.2.2.2.2.1.1 c r m r6 hx).2.1
    have hra := fun Q => v_roomAt (sc := sc) (Q := Q) hI r1 m1
    rw [fdI_uniq (c := c) (by omega) hc hx (fun c' _ h' => hI.2.2.2.2.1.2.2.2.2.2.2.1 c' c r m r6 h' hx)] at hra
    have hta := fun Q => v_teacherAt (sc := sc) (Q := Q) hI g7 m1
    rw [fdI_uniq (c := c) (by omega) hc (by rw [hcm, decide_eq_true g6]; rfl) (fun c' _ h' => by
      rw [Bool.and_eq_true, decide_eq_true_eq] at h'
      refine hI.2.2.2.2.1.2.2.2.2.1 c' c m h'.2 hcm ?_
      show (fact (g.1 0) c' 3).toNatClampNeg = _
      rw [h'.1, nI_clamp (by have := nT8 hI; omega)])] at hta
    have hG8 := nG8 hI
    have hgr : ∀ h, (h = 1 ∨ h = 2) → (fP (g.1 0) c = 0 ∨ fP (g.1 0) c = h) → ∀ Q, ev sc 72 [.ref 0, .int (nI (fG (g.1 0) c)), .int (nI h), .int (nI m)] (Wd g) Q = Q (some (.int (nI c))) (Wd g) := fun h hh hp Q => by
      have hp2 : ii (nI h) 0 2 = 1 := ii_in (n := 3) (by omega) (by decide)
      rw [v_groupAt hI g2 m1 hp2]
      have own : isForS (g.1 0) c (nI (fG (g.1 0) c)) (nI h) = true := by
        unfold isForS
        rw [g1, g4]
        rcases hp with hp | hp
        · rw [hp]
          simp [show nI 0 = (0 : Int32) from rfl]
        · rw [hp]
          simp
      rw [fdI_uniq (c := c) (by omega) hc (by rw [hcm, own]; rfl) (fun c' hc' h' => by
        rw [Bool.and_eq_true] at h'
        have o1 := own
        rw [isFor_tk hI hc (by omega) hh] at o1
        have o2 := h'.2
        rw [isFor_tk hI hc' (by omega) hh] at o2
        exact hI.2.2.2.2.1.2.2.2.2.2.2.2.2 c' c _ m h'.1 hcm o2 o1)]
    have heq := hJ.2.2 c r m r6 hx
    have eself : (nI c = nI c) = True := eq_true rfl
    have eq0 : ((0 : Int32) = 0) = True := eq_true rfl
    refine Eq.trans ?_ ih1
    rw [u96_47]
    have hP3 : fP (g.1 0) c = 0 ∨ fP (g.1 0) c = 1 ∨ fP (g.1 0) c = 2 := by omega
    by_cases q : nI (m / nP (g.1 0)) = dy
    · simp only [q, if_true] at i2 ⊢
      rcases hP3 with p0 | p0 | p0
      all_goals
        rw [p0] at k2
      · have hg1 := hgr 1 (.inl rfl) (.inl p0)
        rw [show nI 1 = (1 : Int32) from rfl] at hg1
        rw [show nI 0 = (0 : Int32) from rfl] at k2
        simp only [↓u96_49, ↓u96_50, ↓u96_51, ↓u96_53, ↓u96_56, ↓u96_59, ↓u96_61, ↓u96_64, ↓u96_65, ↓u96_66, ↓u96_68, ↓u96_71, ↓u96_73, ↓u96_74, ↓u96_76, ↓u96_77, ↓u96_78, ↓u96_80, ↓u96_83, ↓u96_85, ↓u96_86, ↓u96_88, ↓u96_90, ↓u96_91, ↓u96_92, ↓u96_95, ↓u96_96, ↓u96_97, ↓u96_100, ↓u96_101, ↓u96_102, ↓u96_103, ↓u96_106, ↓u96_107, ↓u96_108, ↓u96_110, ↓u96_111, ↓u96_112, ↓u96_115, ↓u96_116, ↓u96_117, ↓u96_118, ↓u96_119, ↓u96_122, ↓u96_123, ↓u96_125, ↓u96_127, ↓u96_130, ↓u96_131, ↓u96_134, ↓u96_135, ↓u96_136, ↓u96_137, ↓u96_138, ↓u96_141, ↓u96_143, ↓u96_146, ↓u96_147, ↓u96_150, ↓u96_151, ↓u96_154, ↓u96_155, ↓u96_157, ↓u96_159, ↓u96_162, ↓u96_163, ↓u96_164, ↓u96_165, ↓u96_168, ↓u96_169, ↓u96_171, ↓u96_172, ↓u96_175, ↓u96_176, ↓u96_177, ↓u96_178, ↓u96_181, ↓u96_182, ↓u96_185, ↓u96_186, ↓u96_188, ↓u96_189, ↓u96_190, ↓u96_191, ↓u96_194, ↓u96_196, ↓u96_198, ↓u96_201, ↓u96_202, ↓u96_203, ↓u96_204, ↓u96_205, ↓u96_208, ↓u96_210, ↓u96_213, ↓u96_214, ↓u96_217, ↓u96_219, ↓u96_221, ↓u96_224, ↓u96_225, ↓u96_228, ↓u96_229, ↓u96_232, ↓u96_233, ↓u96_235, ↓u96_238, ↓m_o, ↓c_v_some, ↓v_plc hI hc, ↓v_count1 hI, ↓v_room0 hI r1, ↓v_fact4 hI hc, ↓k0, ↓k2, ↓k3, ↓hla, ↓hra, ↓hta, ↓hg1, h5, t1, t2, t3, n10_0, d0, dv, q, i2, heq, eself, n10, n00, if_false, if_true, nI_1]
      · have hg1 := hgr 1 (.inl rfl) (.inr p0)
        rw [show nI 1 = (1 : Int32) from rfl] at hg1 k2
        simp only [↓u96_49, ↓u96_50, ↓u96_51, ↓u96_53, ↓u96_56, ↓u96_59, ↓u96_61, ↓u96_64, ↓u96_65, ↓u96_66, ↓u96_68, ↓u96_71, ↓u96_73, ↓u96_74, ↓u96_76, ↓u96_77, ↓u96_78, ↓u96_80, ↓u96_83, ↓u96_85, ↓u96_86, ↓u96_88, ↓u96_90, ↓u96_91, ↓u96_92, ↓u96_95, ↓u96_96, ↓u96_97, ↓u96_100, ↓u96_101, ↓u96_102, ↓u96_103, ↓u96_106, ↓u96_107, ↓u96_108, ↓u96_110, ↓u96_111, ↓u96_112, ↓u96_115, ↓u96_116, ↓u96_117, ↓u96_118, ↓u96_119, ↓u96_122, ↓u96_123, ↓u96_125, ↓u96_127, ↓u96_130, ↓u96_131, ↓u96_134, ↓u96_135, ↓u96_136, ↓u96_137, ↓u96_138, ↓u96_141, ↓u96_143, ↓u96_146, ↓u96_147, ↓u96_150, ↓u96_151, ↓u96_154, ↓u96_155, ↓u96_157, ↓u96_159, ↓u96_162, ↓u96_163, ↓u96_164, ↓u96_165, ↓u96_168, ↓u96_169, ↓u96_171, ↓u96_172, ↓u96_175, ↓u96_176, ↓u96_177, ↓u96_178, ↓u96_181, ↓u96_182, ↓u96_185, ↓u96_186, ↓u96_188, ↓u96_189, ↓u96_190, ↓u96_191, ↓u96_194, ↓u96_196, ↓u96_198, ↓u96_201, ↓u96_202, ↓u96_203, ↓u96_204, ↓u96_205, ↓u96_208, ↓u96_210, ↓u96_213, ↓u96_214, ↓u96_217, ↓u96_219, ↓u96_221, ↓u96_224, ↓u96_225, ↓u96_228, ↓u96_229, ↓u96_232, ↓u96_233, ↓u96_235, ↓u96_238, ↓m_o, ↓c_v_some, ↓v_plc hI hc, ↓v_count1 hI, ↓v_room0 hI r1, ↓v_fact4 hI hc, ↓k0, ↓k2, ↓k3, ↓hla, ↓hra, ↓hta, ↓hg1, h5, t1, t2, t3, n10_0, d0, dv, q, i2, heq, eself, n10, n00, if_false, if_true, nI_1]
      · have hg1 := hgr 2 (.inr rfl) (.inr p0)
        rw [show nI 2 = (2 : Int32) from rfl] at hg1 k2
        simp only [↓u96_49, ↓u96_50, ↓u96_51, ↓u96_53, ↓u96_56, ↓u96_59, ↓u96_61, ↓u96_64, ↓u96_65, ↓u96_66, ↓u96_68, ↓u96_71, ↓u96_73, ↓u96_74, ↓u96_76, ↓u96_77, ↓u96_78, ↓u96_80, ↓u96_83, ↓u96_85, ↓u96_86, ↓u96_88, ↓u96_90, ↓u96_91, ↓u96_92, ↓u96_95, ↓u96_96, ↓u96_97, ↓u96_100, ↓u96_101, ↓u96_102, ↓u96_103, ↓u96_106, ↓u96_107, ↓u96_108, ↓u96_110, ↓u96_111, ↓u96_112, ↓u96_115, ↓u96_116, ↓u96_117, ↓u96_118, ↓u96_119, ↓u96_122, ↓u96_123, ↓u96_125, ↓u96_127, ↓u96_130, ↓u96_131, ↓u96_134, ↓u96_135, ↓u96_136, ↓u96_137, ↓u96_138, ↓u96_141, ↓u96_143, ↓u96_146, ↓u96_147, ↓u96_150, ↓u96_151, ↓u96_154, ↓u96_155, ↓u96_157, ↓u96_159, ↓u96_162, ↓u96_163, ↓u96_164, ↓u96_165, ↓u96_168, ↓u96_169, ↓u96_171, ↓u96_172, ↓u96_175, ↓u96_176, ↓u96_177, ↓u96_178, ↓u96_181, ↓u96_182, ↓u96_185, ↓u96_186, ↓u96_188, ↓u96_189, ↓u96_190, ↓u96_191, ↓u96_194, ↓u96_196, ↓u96_198, ↓u96_201, ↓u96_202, ↓u96_203, ↓u96_204, ↓u96_205, ↓u96_208, ↓u96_210, ↓u96_213, ↓u96_214, ↓u96_217, ↓u96_219, ↓u96_221, ↓u96_224, ↓u96_225, ↓u96_228, ↓u96_229, ↓u96_232, ↓u96_233, ↓u96_235, ↓u96_238, ↓m_o, ↓c_v_some, ↓v_plc hI hc, ↓v_count1 hI, ↓v_room0 hI r1, ↓v_fact4 hI hc, ↓k0, ↓k2, ↓k3, ↓hla, ↓hra, ↓hta, ↓hg1, h5, t1, t2, t3, n10_0, d0, dv, q, i2, heq, eself, n10, n00, z20, if_false, if_true, nI_1]
    · simp only [q, if_false] at i2 ⊢
      rcases hP3 with p0 | p0 | p0
      all_goals
        rw [p0] at k2
      · have hg1 := hgr 1 (.inl rfl) (.inl p0)
        rw [show nI 1 = (1 : Int32) from rfl] at hg1
        rw [show nI 0 = (0 : Int32) from rfl] at k2
        simp only [↓u96_49, ↓u96_50, ↓u96_51, ↓u96_53, ↓u96_56, ↓u96_59, ↓u96_61, ↓u96_64, ↓u96_65, ↓u96_66, ↓u96_68, ↓u96_71, ↓u96_73, ↓u96_74, ↓u96_76, ↓u96_77, ↓u96_78, ↓u96_80, ↓u96_83, ↓u96_85, ↓u96_86, ↓u96_88, ↓u96_90, ↓u96_91, ↓u96_92, ↓u96_95, ↓u96_96, ↓u96_97, ↓u96_100, ↓u96_101, ↓u96_102, ↓u96_103, ↓u96_106, ↓u96_107, ↓u96_108, ↓u96_110, ↓u96_111, ↓u96_112, ↓u96_115, ↓u96_116, ↓u96_117, ↓u96_118, ↓u96_119, ↓u96_122, ↓u96_123, ↓u96_125, ↓u96_127, ↓u96_130, ↓u96_131, ↓u96_134, ↓u96_135, ↓u96_136, ↓u96_137, ↓u96_138, ↓u96_141, ↓u96_143, ↓u96_146, ↓u96_147, ↓u96_150, ↓u96_151, ↓u96_154, ↓u96_155, ↓u96_157, ↓u96_159, ↓u96_162, ↓u96_163, ↓u96_164, ↓u96_165, ↓u96_168, ↓u96_169, ↓u96_171, ↓u96_172, ↓u96_175, ↓u96_176, ↓u96_177, ↓u96_178, ↓u96_181, ↓u96_182, ↓u96_185, ↓u96_186, ↓u96_188, ↓u96_189, ↓u96_190, ↓u96_191, ↓u96_194, ↓u96_196, ↓u96_198, ↓u96_201, ↓u96_202, ↓u96_203, ↓u96_204, ↓u96_205, ↓u96_208, ↓u96_210, ↓u96_213, ↓u96_214, ↓u96_217, ↓u96_219, ↓u96_221, ↓u96_224, ↓u96_225, ↓u96_228, ↓u96_229, ↓u96_232, ↓u96_233, ↓u96_235, ↓u96_238, ↓m_o, ↓c_v_some, ↓v_plc hI hc, ↓v_count1 hI, ↓v_room0 hI r1, ↓v_fact4 hI hc, ↓k0, ↓k2, ↓k3, ↓hla, ↓hra, ↓hta, ↓hg1, h5, t1, t2, t3, n10_0, d0, dv, q, i2, heq, eself, n10, n00, if_false, if_true, nI_1]
      · have hg1 := hgr 1 (.inl rfl) (.inr p0)
        rw [show nI 1 = (1 : Int32) from rfl] at hg1 k2
        simp only [↓u96_49, ↓u96_50, ↓u96_51, ↓u96_53, ↓u96_56, ↓u96_59, ↓u96_61, ↓u96_64, ↓u96_65, ↓u96_66, ↓u96_68, ↓u96_71, ↓u96_73, ↓u96_74, ↓u96_76, ↓u96_77, ↓u96_78, ↓u96_80, ↓u96_83, ↓u96_85, ↓u96_86, ↓u96_88, ↓u96_90, ↓u96_91, ↓u96_92, ↓u96_95, ↓u96_96, ↓u96_97, ↓u96_100, ↓u96_101, ↓u96_102, ↓u96_103, ↓u96_106, ↓u96_107, ↓u96_108, ↓u96_110, ↓u96_111, ↓u96_112, ↓u96_115, ↓u96_116, ↓u96_117, ↓u96_118, ↓u96_119, ↓u96_122, ↓u96_123, ↓u96_125, ↓u96_127, ↓u96_130, ↓u96_131, ↓u96_134, ↓u96_135, ↓u96_136, ↓u96_137, ↓u96_138, ↓u96_141, ↓u96_143, ↓u96_146, ↓u96_147, ↓u96_150, ↓u96_151, ↓u96_154, ↓u96_155, ↓u96_157, ↓u96_159, ↓u96_162, ↓u96_163, ↓u96_164, ↓u96_165, ↓u96_168, ↓u96_169, ↓u96_171, ↓u96_172, ↓u96_175, ↓u96_176, ↓u96_177, ↓u96_178, ↓u96_181, ↓u96_182, ↓u96_185, ↓u96_186, ↓u96_188, ↓u96_189, ↓u96_190, ↓u96_191, ↓u96_194, ↓u96_196, ↓u96_198, ↓u96_201, ↓u96_202, ↓u96_203, ↓u96_204, ↓u96_205, ↓u96_208, ↓u96_210, ↓u96_213, ↓u96_214, ↓u96_217, ↓u96_219, ↓u96_221, ↓u96_224, ↓u96_225, ↓u96_228, ↓u96_229, ↓u96_232, ↓u96_233, ↓u96_235, ↓u96_238, ↓m_o, ↓c_v_some, ↓v_plc hI hc, ↓v_count1 hI, ↓v_room0 hI r1, ↓v_fact4 hI hc, ↓k0, ↓k2, ↓k3, ↓hla, ↓hra, ↓hta, ↓hg1, h5, t1, t2, t3, n10_0, d0, dv, q, i2, heq, eself, n10, n00, if_false, if_true, nI_1]
      · have hg1 := hgr 2 (.inr rfl) (.inr p0)
        rw [show nI 2 = (2 : Int32) from rfl] at hg1 k2
        simp only [↓u96_49, ↓u96_50, ↓u96_51, ↓u96_53, ↓u96_56, ↓u96_59, ↓u96_61, ↓u96_64, ↓u96_65, ↓u96_66, ↓u96_68, ↓u96_71, ↓u96_73, ↓u96_74, ↓u96_76, ↓u96_77, ↓u96_78, ↓u96_80, ↓u96_83, ↓u96_85, ↓u96_86, ↓u96_88, ↓u96_90, ↓u96_91, ↓u96_92, ↓u96_95, ↓u96_96, ↓u96_97, ↓u96_100, ↓u96_101, ↓u96_102, ↓u96_103, ↓u96_106, ↓u96_107, ↓u96_108, ↓u96_110, ↓u96_111, ↓u96_112, ↓u96_115, ↓u96_116, ↓u96_117, ↓u96_118, ↓u96_119, ↓u96_122, ↓u96_123, ↓u96_125, ↓u96_127, ↓u96_130, ↓u96_131, ↓u96_134, ↓u96_135, ↓u96_136, ↓u96_137, ↓u96_138, ↓u96_141, ↓u96_143, ↓u96_146, ↓u96_147, ↓u96_150, ↓u96_151, ↓u96_154, ↓u96_155, ↓u96_157, ↓u96_159, ↓u96_162, ↓u96_163, ↓u96_164, ↓u96_165, ↓u96_168, ↓u96_169, ↓u96_171, ↓u96_172, ↓u96_175, ↓u96_176, ↓u96_177, ↓u96_178, ↓u96_181, ↓u96_182, ↓u96_185, ↓u96_186, ↓u96_188, ↓u96_189, ↓u96_190, ↓u96_191, ↓u96_194, ↓u96_196, ↓u96_198, ↓u96_201, ↓u96_202, ↓u96_203, ↓u96_204, ↓u96_205, ↓u96_208, ↓u96_210, ↓u96_213, ↓u96_214, ↓u96_217, ↓u96_219, ↓u96_221, ↓u96_224, ↓u96_225, ↓u96_228, ↓u96_229, ↓u96_232, ↓u96_233, ↓u96_235, ↓u96_238, ↓m_o, ↓c_v_some, ↓v_plc hI hc, ↓v_count1 hI, ↓v_room0 hI r1, ↓v_fact4 hI hc, ↓k0, ↓k2, ↓k3, ↓hla, ↓hra, ↓hta, ↓hg1, h5, t1, t2, t3, n10_0, d0, dv, q, i2, heq, eself, n10, n00, z20, if_false, if_true, nI_1]
theorem l_isCourse (hJ : inv2 (g.1 0)) {c : Nat} (hc : c < nC (g.1 0)) : ev sc 96 [.ref 0, .int (nI c)] (Wd g) Q = Q (some (.int 1)) (Wd g) := by
  have hI := hJ.1
  have hb : plc (g.1 0) c ≤ 64 := pcn_le _
  obtain ⟨l1, l2, l3⟩ := hI.2.2.2.1 c hc
  have hp := hI.2.2.2.2.2.1 c hc
  have k5 := fun Q => v_fact5 (sc := sc) (Q := Q) hI hc
  rw [l1] at k5
  have h5 : ¬ nI (fL (g.1 0) c) < nI (plc (g.1 0) c) := nI_nlt hp (by omega)
  have hla := fun Q => v_lessonAt (sc := sc) (Q := Q) (k := plc (g.1 0) c) hI hc (by omega)
  rw [lat_end hI] at hla
  have e5 : ((-5 : Int32) = -5) = True := eq_true rfl
  have hk := ic_n (sc := sc) (Q := Q) hJ hc (plc (g.1 0) c) 0 (-1) 0 (by omega) (.inl ⟨rfl, rfl, rfl⟩)
  refine Eq.trans ?_ hk
  simp only [↓en96, ↓u96_0, ↓u96_1, ↓u96_2, ↓u96_3, ↓u96_4, ↓u96_5, ↓u96_6, ↓u96_8, ↓u96_11, ↓u96_12, ↓u96_13, ↓u96_14, ↓u96_17, ↓u96_20, ↓u96_21, ↓u96_22, ↓u96_23, ↓u96_24, ↓u96_26, ↓u96_29, ↓u96_32, ↓u96_34, ↓u96_37, ↓u96_38, ↓u96_41, ↓u96_42, ↓u96_44, ↓u96_45, ↓m_o, ↓c_v_some, ↓v_plc hI hc, ↓k5, ↓hla, h5, e5, if_false, if_true]
  rfl
end
section
variable {sc : Nat × (Nat → Int32)} {s : SV} {g : SG} {fs n j : Nat} {w : ri_W} {Q : Option Value → ri_W → Prop}
theorem ar_c (hJ : inv2 (g.1 0)) : ∀ (e i : Nat), i + e = nC (g.1 0) → rv sc 97 9 [(0, .ref 0), (1, .int 1), (2, .int (nI (sm (plc (g.1 0)) i))), (3, .int (smI (fun c => fact (g.1 0) c 5) i)), (4, .int (nI i))] [] (Wd g) Q = rv sc 97 57 [(0, .ref 0), (1, .int 1), (2, .int (nI (sm (plc (g.1 0)) (nC (g.1 0))))), (3, .int (smI (fun c => fact (g.1 0) c 5) (nC (g.1 0)))), (4, .int (nI (nC (g.1 0))))] [] (Wd g) Q := by
  have hI := hJ.1
  have h20 := nC20 hI
  intro e
  induction e with
  | zero =>
    intro i hi
    have e1 : i = nC (g.1 0) := by omega
    subst e1
    have h5 : nI (nC (g.1 0)) ≤ nI (nC (g.1 0)) := nI_le (Nat.le_refl _) (by omega)
    rw [u97_9]
    simp only [↓u97_11, ↓u97_12, ↓u97_13, ↓u97_16, ↓m_o, ↓c_v_some, ↓v_count5 hI, h5, if_true]
  | succ e ih =>
    intro i hi
    have hi1 : i < nC (g.1 0) := by omega
    have h5 : ¬ nI (nC (g.1 0)) ≤ nI i := nI_ge (by omega) (by omega)
    have ih1 := ih (i + 1) (by omega)
    have e1 : sm (plc (g.1 0)) (i + 1) = sm (plc (g.1 0)) i + plc (g.1 0) i := rfl
    have e2 : smI (fun c => fact (g.1 0) c 5) (i + 1) = smI (fun c => fact (g.1 0) c 5) i + fact (g.1 0) i 5 := rfl
    rw [e1, e2] at ih1
    rw [u97_9]
    simp only [↓u97_11, ↓u97_12, ↓u97_13, ↓u97_16, ↓u97_19, ↓u97_20, ↓u97_23, ↓u97_24, ↓u97_25, ↓u97_27, ↓u97_29, ↓u97_32, ↓u97_33, ↓u97_34, ↓u97_35, ↓u97_36, ↓u97_38, ↓u97_39, ↓u97_42, ↓u97_43, ↓u97_44, ↓u97_45, ↓u97_47, ↓u97_50, ↓u97_51, ↓u97_54, ↓m_o, ↓c_v_some, ↓v_count5 hI, ↓v_plc hI hi1, ↓v_fact5 hI hi1, ↓l_isCourse hJ hi1, h5, if_false, n10, nI_add, nI_1]
    exact ih1
theorem ar_t (hJ : inv2 (g.1 0)) {x y : Int32} : ∀ (e i : Nat), i + e = nT (g.1 0) → rv sc 97 60 [(0, .ref 0), (1, .int 1), (2, .int x), (3, .int y), (4, .int (nI i))] [] (Wd g) Q = rv sc 97 87 [(0, .ref 0), (1, .int 1), (2, .int x), (3, .int y), (4, .int (nI (nT (g.1 0))))] [] (Wd g) Q := by
  have hI := hJ.1
  have hT8 := nT8 hI
  intro e
  induction e with
  | zero =>
    intro i hi
    have e1 : i = nT (g.1 0) := by omega
    subst e1
    have h5 : nI (nT (g.1 0)) ≤ nI (nT (g.1 0)) := nI_le (Nat.le_refl _) (by omega)
    rw [u97_60]
    simp only [↓u97_62, ↓u97_63, ↓u97_64, ↓u97_67, ↓m_o, ↓c_v_some, ↓v_count3 hI, h5, if_true]
  | succ e ih =>
    intro i hi
    have hi1 : i < nT (g.1 0) := by omega
    have h5 : ¬ nI (nT (g.1 0)) ≤ nI i := nI_ge (by omega) (by omega)
    have ih1 := ih (i + 1) (by omega)
    rw [u97_60]
    simp only [↓u97_62, ↓u97_63, ↓u97_64, ↓u97_67, ↓u97_70, ↓u97_71, ↓u97_74, ↓u97_75, ↓u97_77, ↓u97_80, ↓u97_81, ↓u97_84, ↓m_o, ↓c_v_some, ↓v_count3 hI, ↓l_isTeacher hJ hi1, h5, if_false, n10, nI_1]
    exact ih1
theorem l_areRight (hJ : inv2 (g.1 0)) : ev sc 97 [.ref 0] (Wd g) Q = Q (some (.int 1)) (Wd g) := by
  have hI := hJ.1
  have h1 := ar_c (sc := sc) (Q := Q) hJ (nC (g.1 0)) 0 (by omega)
  have h2 := ar_t (sc := sc) (Q := Q) (x := nI (sm (plc (g.1 0)) (nC (g.1 0)))) (y := smI (fun c => fact (g.1 0) c 5) (nC (g.1 0))) hJ (nT (g.1 0)) 0 (by omega)
  refine Eq.trans ?_ (h1.trans ?_)
  · simp only [↓en97, ↓u97_0, ↓u97_1, ↓u97_2, ↓u97_3, ↓u97_4, ↓u97_5, ↓u97_6, ↓u97_7]
    rfl
  · refine Eq.trans ?_ (h2.trans ?_)
    · simp only [↓u97_57, ↓u97_58]
      rfl
    · simp only [↓u97_87, ↓u97_88, ↓u97_91, ↓u97_92, ↓u97_93, ↓u97_95, ↓u97_98, ↓u97_101, ↓u97_102, ↓u97_103, ↓u97_104, ↓u97_105, ↓u97_107, ↓u97_110, ↓u97_113, ↓u97_114, ↓u97_117, ↓u97_118, ↓m_o, ↓c_v_some, ↓v_count6 hI, ↓v_count7 hI, n10, if_false, if_true, ↓c_b_1]
end
