/-! THE LAW'S OWN METHODS: view -/
section
variable {sc : Nat × (Nat → Int32)} {s : SV} {g : SG} {fs n j : Nat} {w : ri_W} {Q : Option Value → ri_W → Prop}
/-- a stretch of view's walk, that is the same for all worlds of one state -/
def Vw (sc : Nat × (Nat → Int32)) (s : SV) (pc : Nat) (ls : ri_L) (pc2 : Nat) (ls2 : ri_L) : Prop := ∀ g : SG, inv (g.1 0) → g.1 0 = s → ∀ Q, rv sc 90 pc ls [] (Wd g) Q = rv sc 90 pc2 ls2 [] (Wd g) Q
theorem Vw.trans {pc pc2 pc3 : Nat} {ls ls2 ls3 : ri_L} (h1 : Vw sc s pc ls pc2 ls2) (h2 : Vw sc s pc2 ls2 pc3 ls3) : Vw sc s pc ls pc3 ls3 := fun g hI e Q => (h1 g hI e Q).trans (h2 g hI e Q)
theorem Vw_loop {hd ex B : Nat} {L : Int64 → Nat → ri_L} {L2 : Int64 → ri_L} (hs : ∀ i v, i < B → ∃ v', Vw sc s hd (L v i) hd (L v' (i + 1))) (he : ∀ v, Vw sc s hd (L v B) ex (L2 v)) : ∀ (d i : Nat) (v : Int64), i + d = B → ∃ v', Vw sc s hd (L v i) ex (L2 v') := by
  intro d
  induction d with
  | zero =>
    intro i v hi
    have e : i = B := by omega
    subst e
    exact ⟨v, he v⟩
  | succ d ih =>
    intro i v hi
    obtain ⟨v1, h1⟩ := hs i v (by omega)
    obtain ⟨v2, h2⟩ := ih (i + 1) v1 (by omega)
    exact ⟨v2, h1.trans h2⟩
theorem nI0' : nI 0 = 0 := rfl
abbrev vL (v : Int64) (i : Nat) : ri_L := [(0, .ref 0), (1, .long v), (3, .int (nI i))]
abbrev vK (i : Nat) (v : Int64) (k : Nat) : ri_L := [(0, .ref 0), (1, .long v), (3, .int (nI i)), (4, .int (nI k))]
theorem vw_1 (v : Int64) : ∃ v', Vw sc s 6 (vL v 0) 33 (vL v' 0) :=
  Vw_loop (sc := sc) (s := s) (hd := 6) (ex := 33) (B := 9) (L := vL) (L2 := fun v => vL v 0)
  (fun i v hi => ⟨31 * v + (cntV s i).toInt64, fun g hI e Q => by
    subst e
    have h5 : ¬ (9 : Int32) ≤ nI i := nI_ge (b := 9) hi (by decide)
    rw [u90_6]
    simp only [↓u90_7, ↓u90_9, ↓u90_12, ↓u90_15, ↓u90_16, ↓u90_17, ↓u90_18, ↓u90_19, ↓u90_22, ↓u90_23, ↓u90_24, ↓u90_25, ↓u90_28, ↓m_o, ↓c_v_some, ↓v_count hI hi, h5, if_false, nI_1]⟩)
  (fun v g hI e Q => by
    have h5 : (9 : Int32) ≤ nI 9 := by decide
    rw [u90_6]
    simp only [↓u90_7, ↓u90_9, ↓u90_31, ↓u90_32, h5, if_true, nI0', nI_1] <;> rfl) 9 0 v (by omega)
theorem vw_2i {t : Nat} (ht : t < nT s) (v : Int64) : ∃ v', Vw sc s 45 (vK t v 0) 33 (vL v' (t + 1)) :=
  Vw_loop (sc := sc) (s := s) (hd := 45) (ex := 33) (B := 8) (L := vK t) (L2 := fun v => vL v (t + 1))
  (fun i v hi => ⟨31 * v + (tchV s t i).toInt64, fun g hI e Q => by
    subst e
    have h5 : ¬ (8 : Int32) ≤ nI i := nI_ge (b := 8) hi (by decide)
    rw [u90_45]
    simp only [↓u90_47, ↓u90_49, ↓u90_52, ↓u90_55, ↓u90_56, ↓u90_57, ↓u90_58, ↓u90_59, ↓u90_61, ↓u90_64, ↓u90_65, ↓u90_66, ↓u90_67, ↓u90_70, ↓m_o, ↓c_v_some, ↓v_teacher hI ht hi, h5, if_false, nI_1]⟩)
  (fun v g hI e Q => by
    have h5 : (8 : Int32) ≤ nI 8 := by decide
    rw [u90_45]
    simp only [↓u90_47, ↓u90_49, ↓u90_73, ↓u90_76, h5, if_true, nI0', nI_1] <;> rfl) 8 0 v (by omega)
theorem vw_2 (hT8 : nT s ≤ 8) (v : Int64) : ∃ v', Vw sc s 33 (vL v 0) 81 (vL v' 0) :=
  Vw_loop (sc := sc) (s := s) (hd := 33) (ex := 81) (B := nT s) (L := vL) (L2 := fun v => vL v 0)
  (fun i v hi => by
    obtain ⟨v', h'⟩ := vw_2i (sc := sc) hi v
    refine ⟨v', Vw.trans (fun g hI e Q => ?_) h'⟩
    subst e
    have h5 : ¬ nI (nT (g.1 0)) ≤ nI i := nI_ge hi (by omega)
    rw [u90_33]
    simp only [↓u90_34, ↓u90_35, ↓u90_36, ↓u90_39, ↓u90_42, ↓u90_43, ↓m_o, ↓c_v_some, ↓v_count3 hI, h5, if_false, nI0'] <;> rfl)
  (fun v g hI e Q => by
    subst e
    have h5 : nI (nT (g.1 0)) ≤ nI (nT (g.1 0)) := nI_le (Nat.le_refl _) (by omega)
    rw [u90_33]
    simp only [↓u90_34, ↓u90_35, ↓u90_36, ↓u90_39, ↓u90_79, ↓u90_80, ↓m_o, ↓c_v_some, ↓v_count3 hI, h5, if_true, nI0'] <;> rfl) (nT s) 0 v (by omega)
theorem vw_3 (hR6 : nR s ≤ 6) (v : Int64) : ∃ v', Vw sc s 81 (vL v 0) 124 (vL v' 0) :=
  Vw_loop (sc := sc) (s := s) (hd := 81) (ex := 124) (B := nR s) (L := vL) (L2 := fun v => vL v 0)
  (fun i v hi => ⟨31 * (31 * v + (re s i).toInt64) + (nI (pcn (s.2.2 5 i))).toInt64, fun g hI e Q => by
    subst e
    have h5 : ¬ nI (nR (g.1 0)) ≤ nI i := nI_ge hi (by omega)
    rw [u90_81]
    simp only [↓u90_82, ↓u90_83, ↓u90_84, ↓u90_87, ↓u90_90, ↓u90_93, ↓u90_96, ↓u90_97, ↓u90_98, ↓u90_99, ↓u90_100, ↓u90_101, ↓u90_104, ↓u90_105, ↓u90_106, ↓u90_107, ↓u90_108, ↓u90_109, ↓u90_110, ↓u90_113, ↓u90_114, ↓u90_115, ↓u90_116, ↓u90_119, ↓m_o, ↓c_v_some, ↓v_count4 hI, ↓v_room0 hI hi, ↓v_room1 hI hi, h5, if_false, nI_1]⟩)
  (fun v g hI e Q => by
    subst e
    have h5 : nI (nR (g.1 0)) ≤ nI (nR (g.1 0)) := nI_le (Nat.le_refl _) (by omega)
    rw [u90_81]
    simp only [↓u90_82, ↓u90_83, ↓u90_84, ↓u90_87, ↓u90_122, ↓u90_123, ↓m_o, ↓c_v_some, ↓v_count4 hI, h5, if_true, nI0'] <;> rfl) (nR s) 0 v (by omega)
theorem vw_4k {c : Nat} (hc : c < nC s) (v : Int64) : ∃ v', Vw sc s 136 (vK c v 0) 167 (vK c v' 0) :=
  Vw_loop (sc := sc) (s := s) (hd := 136) (ex := 167) (B := 7) (L := vK c) (L2 := fun v => vK c v 0)
  (fun i v hi => ⟨31 * v + (crsV s c i).toInt64, fun g hI e Q => by
    subst e
    have h5 : ¬ (7 : Int32) ≤ nI i := nI_ge (b := 7) hi (by decide)
    rw [u90_136]
    simp only [↓u90_138, ↓u90_140, ↓u90_143, ↓u90_146, ↓u90_147, ↓u90_148, ↓u90_149, ↓u90_150, ↓u90_152, ↓u90_155, ↓u90_156, ↓u90_157, ↓u90_158, ↓u90_161, ↓m_o, ↓c_v_some, ↓v_course hI hc hi, h5, if_false, nI_1]⟩)
  (fun v g hI e Q => by
    have h5 : (7 : Int32) ≤ nI 7 := by decide
    rw [u90_136]
    simp only [↓u90_138, ↓u90_140, ↓u90_164, ↓u90_165, h5, if_true, nI0', nI_1] <;> rfl) 7 0 v (by omega)
theorem vw_4n {c : Nat} (hc : c < nC s) (v : Int64) : ∃ v', Vw sc s 167 (vK c v 0) 124 (vL v' (c + 1)) := by
  have hp : plc s c ≤ 64 := pcn_le _
  exact Vw_loop (sc := sc) (s := s) (hd := 167) (ex := 124) (B := plc s c) (L := vK c) (L2 := fun v => vL v (c + 1))
    (fun i v hi => ⟨31 * v + (latS s c (nI i) (slS s) 0 0).toInt64, fun g hI e Q => by
      subst e
      have h5 : ¬ nI (plc (g.1 0) c) ≤ nI i := nI_ge hi (by omega)
      rw [u90_167]
      simp only [↓u90_169, ↓u90_170, ↓u90_171, ↓u90_173, ↓u90_176, ↓u90_179, ↓u90_182, ↓u90_183, ↓u90_184, ↓u90_185, ↓u90_186, ↓u90_188, ↓u90_191, ↓u90_192, ↓u90_193, ↓u90_194, ↓u90_197, ↓m_o, ↓c_v_some, ↓v_plc hI hc, ↓v_lessonAt hI hc (show i < 2 ^ 31 by omega), h5, if_false, nI_1]⟩)
    (fun v g hI e Q => by
      subst e
      have h5 : nI (plc (g.1 0) c) ≤ nI (plc (g.1 0) c) := nI_le (Nat.le_refl _) (by omega)
      rw [u90_167]
      simp only [↓u90_169, ↓u90_170, ↓u90_171, ↓u90_173, ↓u90_176, ↓u90_200, ↓u90_203, ↓m_o, ↓c_v_some, ↓v_plc hI hc, h5, if_true, nI_1]) (plc s c) 0 v (by omega)
theorem vw_4 (h20 : nC s ≤ 20) (v : Int64) : ∃ v', Vw sc s 124 (vL v 0) 208 (vL v' 0) :=
  Vw_loop (sc := sc) (s := s) (hd := 124) (ex := 208) (B := nC s) (L := vL) (L2 := fun v => vL v 0)
  (fun i v hi => by
    obtain ⟨v1, h1⟩ := vw_4k (sc := sc) hi v
    obtain ⟨v2, h2⟩ := vw_4n (sc := sc) hi v1
    refine ⟨v2, Vw.trans (fun g hI e Q => ?_) (h1.trans h2)⟩
    subst e
    have h5 : ¬ nI (nC (g.1 0)) ≤ nI i := nI_ge hi (by omega)
    rw [u90_124]
    simp only [↓u90_125, ↓u90_126, ↓u90_127, ↓u90_130, ↓u90_133, ↓u90_134, ↓m_o, ↓c_v_some, ↓v_count5 hI, h5, if_false, nI0'] <;> rfl)
  (fun v g hI e Q => by
    subst e
    have h5 : nI (nC (g.1 0)) ≤ nI (nC (g.1 0)) := nI_le (Nat.le_refl _) (by omega)
    rw [u90_124]
    simp only [↓u90_125, ↓u90_126, ↓u90_127, ↓u90_130, ↓u90_206, ↓u90_207, ↓m_o, ↓c_v_some, ↓v_count5 hI, h5, if_true, nI0'] <;> rfl) (nC s) 0 v (by omega)
theorem vw_5 (v : Int64) : ∃ v', Vw sc s 208 (vL v 0) 233 [(0, .ref 0), (1, .long v'), (3, .int 60)] :=
  Vw_loop (sc := sc) (s := s) (hd := 208) (ex := 233) (B := 60) (L := vL) (L2 := fun v => [(0, .ref 0), (1, .long v), (3, .int 60)])
  (fun i v hi => ⟨31 * v + (dayV s i).toInt64, fun g hI e Q => by
    subst e
    have h5 : ¬ (60 : Int32) ≤ nI i := nI_ge (b := 60) hi (by decide)
    rw [u90_208]
    simp only [↓u90_209, ↓u90_211, ↓u90_214, ↓u90_217, ↓u90_218, ↓u90_219, ↓u90_220, ↓u90_221, ↓u90_224, ↓u90_225, ↓u90_226, ↓u90_227, ↓u90_230, ↓m_o, ↓c_v_some, ↓v_dayOf hI (show i < 400 by omega), h5, if_false, nI_1]⟩)
  (fun v g hI e Q => by
    have h5 : (60 : Int32) ≤ nI 60 := by decide
    rw [u90_208]
    simp only [↓u90_209, ↓u90_211, h5, if_true]
    rfl) 60 0 v (by omega)
/-- the sum is a number of the state -/
theorem l_view_ex (s : SV) (hI : inv s) : ∃ v : Int64, ∀ g : SG, g.1 0 = s → ∀ Q, ev sc 90 [.ref 0] (Wd g) Q = Q (some (.long v)) (Wd g) := by
  obtain ⟨v1, h1⟩ := vw_1 (sc := sc) (s := s) 7
  obtain ⟨v2, h2⟩ := vw_2 (sc := sc) (nT8 hI) v1
  obtain ⟨v3, h3⟩ := vw_3 (sc := sc) (nR6 hI) v2
  obtain ⟨v4, h4⟩ := vw_4 (sc := sc) (nC20 hI) v3
  obtain ⟨v5, h5⟩ := vw_5 (sc := sc) (s := s) v4
  refine ⟨v5, fun g e Q => ?_⟩
  have hk := (h1.trans (h2.trans (h3.trans (h4.trans h5)))) g (by rw [e]; exact hI) e Q
  simp only [↓en90, ↓u90_0, ↓u90_3, ↓u90_4, ↓u90_5]
  refine Eq.trans hk ?_
  simp only [↓u90_233, ↓u90_234]
end
