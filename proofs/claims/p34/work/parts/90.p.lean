/-! THE LAW'S OWN METHODS: a teacher's lessons are right -/
section
variable {sc : Nat × (Nat → Int32)} {s : SV} {g : SG} {fs n j : Nat} {w : ri_W} {Q : Option Value → ri_W → Prop}
theorem fdI_cases {p : Nat → Bool} {n : Nat} (hn : n < 2 ^ 31) : (anyB p n = false ∧ fdI p 0 n = -5) ∨ (anyB p n = true ∧ ∃ k, k < n ∧ p k = true ∧ fdI p 0 n = nI k) := by
  have h5 := fdI_n5 (p := p) hn
  cases e : anyB p n
  · left
    exact ⟨rfl, h5.mpr e⟩
  · right
    refine ⟨rfl, ?_⟩
    have h6 : ¬ fdI p 0 n = -5 := fun h => by
      have := h5.mp h
      rw [e] at this
      exact absurd this (by decide)
    unfold fdI at h6 ⊢
    cases e2 : (List.range' 0 n).find? p with
    | none =>
      rw [e2] at h6
      exact absurd rfl h6
    | some r =>
      have h1 := List.find?_some e2
      have h2 := List.mem_of_find?_eq_some e2
      rw [List.mem_range'_1] at h2
      exact ⟨r, by omega, h1, rfl⟩
theorem fdI_uniq {p : Nat → Bool} {n c : Nat} (hn : n < 2 ^ 31) (hc : c < n) (hp : p c = true) (hu : ∀ k, k < n → p k = true → k = c) : fdI p 0 n = nI c := by
  rcases fdI_cases (p := p) hn with ⟨h1, -⟩ | ⟨-, k, k1, k2, k3⟩
  · have : anyB p n = true := anyB_iff.mpr ⟨c, hc, hp⟩
    rw [h1] at this
    exact absurd this (by decide)
  · rw [k3, hu k k1 k2]
theorem mxN_le {f : Nat → Nat} : ∀ {n d : Nat}, d < n → f d ≤ mxN f n
  | 0, _, h => absurd h (Nat.not_lt_zero _)
  | n + 1, d, h => by
    unfold mxN
    by_cases e : d = n
    · subst e
      split <;> omega
    · have := mxN_le (f := f) (show d < n by omega)
      split <;> omega
theorem mxN_b {f : Nat → Nat} {b : Nat} (hb : ∀ d, f d ≤ b) : ∀ n, mxN f n ≤ b
  | 0 => Nat.zero_le _
  | n + 1 => by
    have h1 := mxN_b hb n
    have h2 := hb n
    unfold mxN
    split <;> omega
/-- a teacher's lessons of a day -/
def dyT (s : SV) (t d : Nat) : Nat := ct (fun k => hT s t (d * nP s + k)) (nP s)
def alT (s : SV) (t c : Nat) : Nat := if fact s c 3 = nI t then plc s c else 0
theorem dyT_sum (hI : inv s) {t : Nat} : sm (dyT s t) (nD s) = pcn (s.2.2 4 t) := by
  have h1 : pcn (s.2.2 4 t) = ct (bt6 (s.2.2 4 t)) (slS s) := row_sl hI (i := 4) (k := t) (fun m hm => by
    obtain ⟨c, h2, -⟩ := (hI.2.2.2.2.1.2.2.2.1 t m).mp hm
    exact (inv_C hI h2).2)
  rw [h1]
  unfold slS
  rw [Nat.mul_comm, ct_blocks]
  exact sm_cong (fun q _ => ct_cong (fun k _ => by unfold hT; rw [Nat.mul_comm]))
theorem alT_sum (hI : inv s) {t : Nat} (ht : t < 8) : sm (alT s t) (nC s) = pcn (s.2.2 4 t) := by
  have h1 : sm (alT s t) (nC s) = sm (fun c => ct (fun m => decide (fact s c 3 = nI t) && hC s c m) 64) (nC s) := by
    refine sm_cong (fun c _ => ?_)
    unfold alT
    by_cases e : fact s c 3 = nI t
    · rw [if_pos e]
      exact ct_cong (fun m _ => by rw [decide_eq_true e]; exact (Bool.true_and _).symm)
    · rw [if_neg e, ct_zero]
      intro m _
      rw [decide_eq_false e]
      exact Bool.false_and _
  rw [h1, ct_swap]
  · exact ct_cong (fun m _ => any_T hI ht)
  · intro c c' m h1 h2 _ e1 e2
    rw [Bool.and_eq_true, decide_eq_true_eq] at e1 e2
    refine hI.2.2.2.2.1.2.2.2.2.1 c c' m e1.2 e2.2 ?_
    unfold fT
    rw [e1.1, e2.1]
theorem n10' : ((1 : Int32) = 0) = False := eq_false (by decide)
theorem it_p (hI : inv (g.1 0)) {t d x : Nat} (ht : t < nT (g.1 0)) (hd : d < nD (g.1 0)) : ∀ (e i : Nat), i + e = nP (g.1 0) → rv sc 95 27 [(0, .ref 0), (1, .int (nI t)), (2, .int (nI x)), (3, .int 1), (4, .int (nI d)), (5, .int (nI (ct (fun k => hT (g.1 0) t (d * nP (g.1 0) + k)) i))), (6, .int (nI i))] [] (Wd g) Q = rv sc 95 72 [(0, .ref 0), (1, .int (nI t)), (2, .int (nI x)), (3, .int 1), (4, .int (nI d)), (5, .int (nI (dyT (g.1 0) t d))), (6, .int (nI (nP (g.1 0))))] [] (Wd g) Q := by
  have hP6 := nP6 hI
  have h20 := nC20 hI
  have hT8 := nT8 hI
  intro e
  induction e with
  | zero =>
    intro i hi
    have e1 : i = nP (g.1 0) := by omega
    subst e1
    have h5 : nI (nP (g.1 0)) ≤ nI (nP (g.1 0)) := nI_le (Nat.le_refl _) (by omega)
    rw [u95_27]
    simp only [↓u95_29, ↓u95_30, ↓u95_31, ↓u95_34, ↓m_o, ↓c_v_some, ↓v_count1 hI, h5, if_true]
    rfl
  | succ e ih =>
    intro i hi
    have h5 : ¬ nI (nP (g.1 0)) ≤ nI i := nI_ge (by omega) (by omega)
    have hm : d * nP (g.1 0) + i < slS (g.1 0) := by
      have h1 : (d + 1) * nP (g.1 0) ≤ nD (g.1 0) * nP (g.1 0) := Nat.mul_le_mul_right _ hd
      rw [Nat.succ_mul] at h1
      unfold slS
      omega
    have ih1 := ih (i + 1) (by omega)
    have hta := fun Q => v_teacherAt (sc := sc) (Q := Q) hI ht hm
    have hany := any_T hI (t := t) (m := d * nP (g.1 0) + i) (by omega)
    have hct : ct (fun k => hT (g.1 0) t (d * nP (g.1 0) + k)) (i + 1) = ct (fun k => hT (g.1 0) t (d * nP (g.1 0) + k)) i + (if hT (g.1 0) t (d * nP (g.1 0) + i) = true then 1 else 0) := rfl
    rw [hct] at ih1
    rw [u95_27]
    rcases fdI_cases (p := fun c => decide (fact (g.1 0) c 3 = nI t) && hC (g.1 0) c (d * nP (g.1 0) + i)) (n := nC (g.1 0)) (by omega) with ⟨f1, f2⟩ | ⟨f1, k, k1, k2, f2⟩
    · rw [f1] at hany
      rw [← hany] at ih1
      rw [f2] at hta
      simp only [Bool.false_eq_true, if_false, Nat.add_zero] at ih1
      simp only [↓u95_29, ↓u95_30, ↓u95_31, ↓u95_34, ↓u95_37, ↓u95_39, ↓u95_40, ↓u95_41, ↓u95_43, ↓u95_44, ↓u95_45, ↓u95_48, ↓u95_49, ↓u95_51, ↓u95_52, ↓u95_55, ↓u95_58, ↓u95_59, ↓u95_62, ↓u95_63, ↓u95_64, ↓u95_66, ↓u95_69, ↓m_o, ↓c_v_some, ↓v_count1 hI, h5, if_false, if_true, pk_mul, nI_add, ↓hta, show ((-5 : Int32) < 0) = True by decide, Nat.add_zero, nI_1, add0]
      exact ih1
    · rw [f1] at hany
      rw [← hany] at ih1
      rw [f2] at hta
      have hk : ¬ nI k < 0 := nI_pos (by omega)
      simp only [if_true] at ih1
      simp only [↓u95_29, ↓u95_30, ↓u95_31, ↓u95_34, ↓u95_37, ↓u95_39, ↓u95_40, ↓u95_41, ↓u95_43, ↓u95_44, ↓u95_45, ↓u95_48, ↓u95_49, ↓u95_51, ↓u95_52, ↓u95_55, ↓u95_58, ↓u95_59, ↓u95_62, ↓u95_63, ↓u95_64, ↓u95_66, ↓u95_69, ↓m_o, ↓c_v_some, ↓v_count1 hI, h5, if_false, if_true, pk_mul, nI_add, ↓hta, hk, nI_1]
      exact ih1
theorem it_d (hJ : inv2 (g.1 0)) {t : Nat} (ht : t < nT (g.1 0)) : ∀ (e d : Nat), d + e = nD (g.1 0) → rv sc 95 7 [(0, .ref 0), (1, .int (nI t)), (2, .int (nI (sm (dyT (g.1 0) t) d))), (3, .int 1), (4, .int (nI d))] [] (Wd g) Q = rv sc 95 111 [(0, .ref 0), (1, .int (nI t)), (2, .int (nI (sm (dyT (g.1 0) t) (nD (g.1 0))))), (3, .int 1), (4, .int (nI (nD (g.1 0))))] [] (Wd g) Q := by
  have hI := hJ.1
  have hD8 := nD8 hI
  obtain ⟨a, b, a1, b1, a40, b6, ha, hb⟩ := hJ.2.1 t ht
  have hmx : mxN (fun q => ct (fun k => hT (g.1 0) t (q * nP (g.1 0) + k)) (nP (g.1 0))) (nD (g.1 0)) ≤ b := mxN_b hb _
  intro e
  induction e with
  | zero =>
    intro d hd
    have e1 : d = nD (g.1 0) := by omega
    subst e1
    have h5 : nI (nD (g.1 0)) ≤ nI (nD (g.1 0)) := nI_le (Nat.le_refl _) (by omega)
    rw [u95_7]
    simp only [↓u95_9, ↓u95_10, ↓u95_11, ↓u95_14, ↓m_o, ↓c_v_some, ↓v_count0 hI, h5, if_true]
  | succ e ih =>
    intro d hd
    have h5 : ¬ nI (nD (g.1 0)) ≤ nI d := nI_ge (by omega) (by omega)
    have ih1 := ih (d + 1) (by omega)
    have hp := fun Q => it_p (sc := sc) (Q := Q) (x := sm (dyT (g.1 0) t) d) hI ht (show d < nD (g.1 0) by omega) (nP (g.1 0)) 0 (by omega)
    have hdy : dyT (g.1 0) t d ≤ b := hb d
    have hdm : dyT (g.1 0) t d ≤ mxN (fun q => ct (fun k => hT (g.1 0) t (q * nP (g.1 0) + k)) (nP (g.1 0))) (nD (g.1 0)) := mxN_le (f := fun q => ct (fun k => hT (g.1 0) t (q * nP (g.1 0) + k)) (nP (g.1 0))) (show d < nD (g.1 0) by omega)
    have t1 := fun Q => v_teacher (sc := sc) (Q := Q) (k := 1) hI ht (by decide)
    have t5 := fun Q => v_teacher (sc := sc) (Q := Q) (k := 5) hI ht (by decide)
    rw [show tchV (g.1 0) t 1 = nI b from b1, show nI 1 = (1 : Int32) from rfl] at t1
    rw [show tchV (g.1 0) t 5 = nI (mxN (fun q => ct (fun k => hT (g.1 0) t (q * nP (g.1 0) + k)) (nP (g.1 0))) (nD (g.1 0))) from rfl, show nI 5 = (5 : Int32) from rfl] at t5
    have c1 : ¬ nI b < nI (dyT (g.1 0) t d) := nI_nlt hdy (by omega)
    have c5 : ¬ nI (mxN (fun q => ct (fun k => hT (g.1 0) t (q * nP (g.1 0) + k)) (nP (g.1 0))) (nD (g.1 0))) < nI (dyT (g.1 0) t d) := nI_nlt hdm (by omega)
    have hs : sm (dyT (g.1 0) t) (d + 1) = sm (dyT (g.1 0) t) d + dyT (g.1 0) t d := rfl
    rw [hs] at ih1
    refine Eq.trans ?_ ((hp Q).trans ?_)
    · rw [u95_7]
      simp only [↓u95_9, ↓u95_10, ↓u95_11, ↓u95_14, ↓u95_17, ↓u95_18, ↓u95_21, ↓u95_22, ↓u95_24, ↓u95_25, ↓m_o, ↓c_v_some, ↓v_count0 hI, h5, if_false, n10]
      rfl
    · refine Eq.trans ?_ ih1
      simp only [↓u95_72, ↓u95_73, ↓u95_75, ↓u95_76, ↓u95_77, ↓u95_79, ↓u95_80, ↓u95_81, ↓u95_82, ↓u95_85, ↓u95_88, ↓u95_90, ↓u95_91, ↓u95_92, ↓u95_93, ↓u95_96, ↓u95_99, ↓u95_100, ↓u95_103, ↓u95_104, ↓u95_105, ↓u95_108, ↓m_o, ↓c_v_some, ↓t1, ↓t5, c1, c5, if_false, nI_add, nI_1]
theorem it_c (hI : inv (g.1 0)) {t x : Nat} : ∀ (e i : Nat), i + e = nC (g.1 0) → rv sc 95 117 [(0, .ref 0), (1, .int (nI t)), (2, .int (nI x)), (3, .int 1), (4, .int (nI (sm (alT (g.1 0) t) i))), (5, .int (nI i))] [] (Wd g) Q = rv sc 95 161 [(0, .ref 0), (1, .int (nI t)), (2, .int (nI x)), (3, .int 1), (4, .int (nI (sm (alT (g.1 0) t) (nC (g.1 0))))), (5, .int (nI (nC (g.1 0))))] [] (Wd g) Q := by
  have h20 := nC20 hI
  intro e
  induction e with
  | zero =>
    intro i hi
    have e1 : i = nC (g.1 0) := by omega
    subst e1
    have h5 : nI (nC (g.1 0)) ≤ nI (nC (g.1 0)) := nI_le (Nat.le_refl _) (by omega)
    rw [u95_117]
    simp only [↓u95_119, ↓u95_120, ↓u95_121, ↓u95_124, ↓m_o, ↓c_v_some, ↓v_count5 hI, h5, if_true]
  | succ e ih =>
    intro i hi
    have h5 : ¬ nI (nC (g.1 0)) ≤ nI i := nI_ge (by omega) (by omega)
    have hi1 : i < nC (g.1 0) := by omega
    have ih1 := ih (i + 1) (by omega)
    have hs : sm (alT (g.1 0) t) (i + 1) = sm (alT (g.1 0) t) i + (if fact (g.1 0) i 3 = nI t then plc (g.1 0) i else 0) := rfl
    rw [hs] at ih1
    rw [u95_117]
    by_cases e2 : fact (g.1 0) i 3 = nI t
    · rw [if_pos e2] at ih1
      simp only [↓u95_119, ↓u95_120, ↓u95_121, ↓u95_124, ↓u95_127, ↓u95_129, ↓u95_130, ↓u95_132, ↓u95_133, ↓u95_136, ↓u95_137, ↓u95_140, ↓u95_141, ↓u95_143, ↓u95_145, ↓u95_148, ↓u95_151, ↓u95_152, ↓u95_153, ↓u95_155, ↓u95_158, ↓m_o, ↓c_v_some, ↓v_count5 hI, ↓v_fact3 hI hi1, ↓v_plc hI hi1, h5, e2, if_false, if_true, nI_add, nI_1]
      exact ih1
    · rw [if_neg e2, Nat.add_zero] at ih1
      simp only [↓u95_119, ↓u95_120, ↓u95_121, ↓u95_124, ↓u95_127, ↓u95_129, ↓u95_130, ↓u95_132, ↓u95_133, ↓u95_136, ↓u95_137, ↓u95_140, ↓u95_141, ↓u95_143, ↓u95_145, ↓u95_148, ↓u95_151, ↓u95_152, ↓u95_153, ↓u95_155, ↓u95_158, ↓m_o, ↓c_v_some, ↓v_count5 hI, ↓v_fact3 hI hi1, ↓v_plc hI hi1, h5, e2, if_false, if_true, add0, nI_1]
      exact ih1
theorem l_isTeacher (hJ : inv2 (g.1 0)) {t : Nat} (ht : t < nT (g.1 0)) : ev sc 95 [.ref 0, .int (nI t)] (Wd g) Q = Q (some (.int 1)) (Wd g) := by
  have hI := hJ.1
  have hT8 := nT8 hI
  obtain ⟨a, b, a1, b1, a40, b6, ha, hb⟩ := hJ.2.1 t ht
  have hd := fun Q => it_d (sc := sc) (Q := Q) hJ ht (nD (g.1 0)) 0 (by omega)
  have hc := fun Q => it_c (sc := sc) (Q := Q) (t := t) (x := pcn ((g.1 0).2.2 4 t)) hI (nC (g.1 0)) 0 (by omega)
  rw [dyT_sum hI] at hd
  rw [alT_sum hI (show t < 8 by omega)] at hc
  have t2 := fun Q => v_teacher (sc := sc) (Q := Q) (k := 2) hI ht (by decide)
  have t0 := fun Q => v_teacher (sc := sc) (Q := Q) (k := 0) hI ht (by decide)
  rw [show tchV (g.1 0) t 2 = nI (pcn ((g.1 0).2.2 4 t)) from rfl, show nI 2 = (2 : Int32) from rfl] at t2
  rw [show tchV (g.1 0) t 0 = nI a from a1, show nI 0 = (0 : Int32) from rfl] at t0
  have c0 : ¬ nI a < nI (pcn ((g.1 0).2.2 4 t)) := nI_nlt ha (by omega)
  refine Eq.trans ?_ ((hd Q).trans ?_)
  · simp only [↓en95, ↓u95_0, ↓u95_1, ↓u95_2, ↓u95_3, ↓u95_4, ↓u95_5]
    rfl
  · refine Eq.trans ?_ ((hc Q).trans ?_)
    · simp only [↓u95_111, ↓u95_112, ↓u95_114, ↓u95_115]
      rfl
    · simp only [↓u95_161, ↓u95_162, ↓u95_165, ↓u95_166, ↓u95_168, ↓u95_171, ↓u95_172, ↓u95_173, ↓u95_174, ↓u95_175, ↓u95_178, ↓u95_181, ↓u95_182, ↓u95_183, ↓u95_184, ↓u95_185, ↓u95_188, ↓u95_191, ↓u95_192, ↓u95_195, ↓u95_196, ↓m_o, ↓c_v_some, ↓t0, ↓t2, c0, n10, if_false, if_true, ↓c_b_1]
end
