/-! THE TWO AGREE: courses -/
section
variable {s : SV}
theorem plc0 (hI : inv s) {c : Nat} (h : plc s c = 0) (m : Nat) : hC s c m = false := by
  have h48 := (sl48 hI).1
  have hcz : ∀ (f : Nat → Bool) n, ct f n = 0 → ∀ k, k < n → f k = false := by
    intro f n
    induction n with
    | zero => exact fun _ c hc => absurd hc (Nat.not_lt_zero _)
    | succ n ih =>
      intro e c hc
      have e2 : ct f n + (if f n = true then 1 else 0) = 0 := e
      by_cases e3 : c = n
      · subst e3
        cases e4 : f c
        · rfl
        · rw [e4] at e2
          simp at e2
      · exact ih (by omega) c (by omega)
  cases e : hC s c m
  · rfl
  · have h5 := inv_C hI e
    have h7 : hC s c m = false := hcz _ 64 h m (by omega)
    rw [h7] at e
    exact absurd e (by decide)
theorem inv_join (h : inv s) {c x : Nat} (hc : c < nC s) (hx : x < nG s) (h2 : fact s c 2 = 0) (hp : plc s c = 0) : inv (sN s 2 (upF (s.2.1 2) (c * 6 + 1) (nI x))) := by
  have hh := h
  have h20 := nC20 h
  have hG8 := nG8 h
  obtain ⟨h0, hn, hf, hl, hb, bp, bd, bb, bo⟩ := h
  have ef : ∀ c' k, k < 6 → ¬ (c' = c ∧ k = 1) → fact (sN s 2 (upF (s.2.1 2) (c * 6 + 1) (nI x))) c' k = fact s c' k := fun c' k hk hne => by
    show upF s.2.1 2 (upF (s.2.1 2) (c * 6 + 1) (nI x)) 2 (c' * 6 + k) = _
    rw [upF_at, upF_ne (by omega)]
    rfl
  have e1 : fact (sN s 2 (upF (s.2.1 2) (c * 6 + 1) (nI x))) c 1 = nI x := by
    show upF s.2.1 2 (upF (s.2.1 2) (c * 6 + 1) (nI x)) 2 (c * 6 + 1) = _
    rw [upF_at, upF_at]
  refine inv_cong hh (sN_nf h0 (show c * 6 + 1 < 120 by omega)) hn (fun c' hc' => ?_) (fun c' hc' => ?_) (fun _ _ => rfl) (Nat.le_refl _) (Nat.le_refl _) rfl rfl (fun c' m hC' => ?_) (fun c' hc' => ?_) bb bo
  · obtain ⟨f1, f2, f3, f4⟩ := hf c' hc'
    unfold fG fJ fP fT at *
    rw [ef c' 0 (by decide) (by omega), ef c' 2 (by decide) (by omega), ef c' 3 (by decide) (by omega)]
    refine ⟨f1, ?_, f3, f4⟩
    by_cases e : c' = c
    · subst e
      rw [e1]
      refine .inr ⟨by rw [cl (by omega)], ?_, h2⟩
      rw [cl (by omega)]
      exact hx
    · rw [ef c' 1 (by decide) (by omega)]
      exact f2
  · unfold fL
    rw [ef c' 5 (by decide) (by omega)]
    exact hl c' hc'
  · have hne : c' ≠ c := fun e => by
      rw [e, plc0 hh hp] at hC'
      exact absurd hC' (by decide)
    refine ⟨?_, fun k => ?_⟩
    · unfold fT
      rw [ef c' 3 (by decide) (by omega)]
    · unfold tk fG fJ
      rw [ef c' 0 (by decide) (by omega), ef c' 1 (by decide) (by omega), ef c' 2 (by decide) (by omega)]
  · unfold fL
    rw [ef c' 5 (by decide) (by omega)]
    exact bp c' hc'
/-- a new course in the row of facts -/
def newF (f : Nat → Int32) (c : Nat) (a b d e p l : Int32) : Nat → Int32 := upF (upF (upF (upF (upF (upF f (c * 6 + 0) a) (c * 6 + 1) b) (c * 6 + 2) d) (c * 6 + 3) e) (c * 6 + 4) p) (c * 6 + 5) l
theorem inv_course (h : inv s) {x p t l : Nat} {q : Int32} (hc : nC s < 20) (hx : x < nG s) (hp : p ≤ 2) (ht : t < nT s) (hl1 : 1 ≤ l) (hl2 : l ≤ 10) : inv (sS (sN s 2 (newF (s.2.1 2) (nC s) (nI x) (-5) (nI p) (nI t) q (nI l))) 5 (nI (nC s + 1))) := by
  have hh := h
  have hG8 := nG8 h
  have hT8 := nT8 h
  obtain ⟨h0, hn, hf, hl, hb, bp, bd, bb, bo⟩ := h
  generalize hs' : sS (sN s 2 (newF (s.2.1 2) (nC s) (nI x) (-5) (nI p) (nI t) q (nI l))) 5 (nI (nC s + 1)) = s'
  have eF : ∀ c' k, fact s' c' k = newF (s.2.1 2) (nC s) (nI x) (-5) (nI p) (nI t) q (nI l) (c' * 6 + k) := fun c' k => by
    rw [← hs']
    unfold fact
    rw [sS_2, sN_at]
  have ef : ∀ c' k, k < 6 → c' ≠ nC s → fact s' c' k = fact s c' k := fun c' k hk hne => by
    rw [eF]
    unfold newF
    rw [upF_ne (by omega), upF_ne (by omega), upF_ne (by omega), upF_ne (by omega), upF_ne (by omega), upF_ne (by omega)]
    rfl
  have e0 : fact s' (nC s) 0 = nI x := by
    rw [eF]
    unfold newF
    rw [upF_ne (by omega), upF_ne (by omega), upF_ne (by omega), upF_ne (by omega), upF_ne (by omega), upF_at]
  have e1 : fact s' (nC s) 1 = -5 := by
    rw [eF]
    unfold newF
    rw [upF_ne (by omega), upF_ne (by omega), upF_ne (by omega), upF_ne (by omega), upF_at]
  have e2 : fact s' (nC s) 2 = nI p := by
    rw [eF]
    unfold newF
    rw [upF_ne (by omega), upF_ne (by omega), upF_ne (by omega), upF_at]
  have e3 : fact s' (nC s) 3 = nI t := by
    rw [eF]
    unfold newF
    rw [upF_ne (by omega), upF_ne (by omega), upF_at]
  have e5 : fact s' (nC s) 5 = nI l := by
    rw [eF]
    unfold newF
    rw [upF_at]
  have q0 : s'.1 0 = s.1 0 ∧ s'.1 1 = s.1 1 ∧ s'.1 2 = s.1 2 ∧ s'.1 3 = s.1 3 ∧ s'.1 4 = s.1 4 ∧ s'.1 5 = nI (nC s + 1) := by
    rw [← hs']
    exact ⟨rfl, rfl, rfl, rfl, rfl, rfl⟩
  obtain ⟨a0, a1, a2, a3, a4, a5⟩ := q0
  have b0 : nD s' = nD s := by unfold nD; rw [a0]
  have b1 : nP s' = nP s := by unfold nP; rw [a1]
  have b2 : nG s' = nG s := by unfold nG; rw [a2]
  have b3 : nT s' = nT s := by unfold nT; rw [a3]
  have b4 : nR s' = nR s := by unfold nR; rw [a4]
  have b5 : nC s' = nC s + 1 := by unfold nC; rw [a5, cl (by have := nC20 hh; unfold nC at *; omega)]; rfl
  have b22 : s'.2.2 = s.2.2 := by rw [← hs']; rfl
  have n0 : nf s' := by
    rw [← hs']
    refine sS_nf ⟨h0.1, fun i k hk => ?_, h0.2.2⟩ (by decide)
    by_cases e : i = 2
    · subst e
      have hk : 120 ≤ k := hk
      rw [sN_at]
      unfold newF
      rw [upF_ne (by omega), upF_ne (by omega), upF_ne (by omega), upF_ne (by omega), upF_ne (by omega), upF_ne (by omega)]
      exact h0.2.1 2 k hk
    · rw [sN_ne e]
      exact h0.2.1 i k hk
  have eB : ∀ t m, hB s' t m = hB s t m := fun t m => by unfold hB; rw [b22]
  have eO : ∀ d, hol s' d = hol s d := fun d => by unfold hol; rw [b22]
  have eS : slS s' = slS s := by unfold slS; rw [b0, b1]
  have hno : ∀ m, hC s (nC s) m = false := fun m => by
    cases e : hC s (nC s) m
    · rfl
    · have := (inv_C hh e).1
      omega
  refine inv_cong hh n0 ?_ (fun c' hc' => ?_) (fun c' hc' => ?_) (fun i _ => by rw [b22]) (by omega) (by omega) b1 eS (fun c' m hC' => ?_) (fun c' hc' => ?_) (fun t m ht' => ?_) (fun d hd => ?_)
  · unfold okN
    rw [b0, b1, b2, b3, b4, b5, a0, a1, a2, a3, a4, a5]
    exact ⟨hn.1, hn.2.1, hn.2.2.1, hn.2.2.2.1, hn.2.2.2.2.1, rfl, by omega⟩
  · by_cases e : c' = nC s
    · subst e
      unfold fG fJ fP fT
      rw [e0, e1, e2, e3, b2, b3, cl (by omega), cl (by omega), cl (by omega)]
      exact ⟨⟨rfl, hx⟩, .inl rfl, ⟨rfl, hp⟩, rfl, ht⟩
    · have := hf c' (by omega)
      unfold fG fJ fP fT at *
      rw [ef c' 0 (by decide) e, ef c' 1 (by decide) e, ef c' 2 (by decide) e, ef c' 3 (by decide) e, b2, b3]
      exact this
  · by_cases e : c' = nC s
    · subst e
      unfold fL
      rw [e5, cl (by omega)]
      exact ⟨rfl, hl1, hl2⟩
    · have := hl c' (by omega)
      unfold fL at *
      rw [ef c' 5 (by decide) e]
      exact this
  · have e : c' ≠ nC s := fun e => by
      rw [e, hno] at hC'
      exact absurd hC' (by decide)
    refine ⟨?_, fun k => ?_⟩
    · unfold fT
      rw [ef c' 3 (by decide) e]
    · unfold tk fG fJ
      rw [ef c' 0 (by decide) e, ef c' 1 (by decide) e, ef c' 2 (by decide) e]
  · by_cases e : c' = nC s
    · have : plc s c' = 0 := ct_zero (fun k _ => by rw [e]; exact hno k)
      omega
    · have := bp c' (by omega)
      unfold fL at *
      rw [ef c' 5 (by decide) e]
      exact this
  · rw [eB] at ht'
    rw [eS]
    exact bb t m ht'
  · rw [eO] at hd
    exact bo d hd
end
section
variable {sc : Nat × (Nat → Int32)} {g : SG} {fs n j : Nat} {Q : Option Value → ri_W → Prop}
theorem w_cf0 (hj : j < 7) {t : Nat} {v : Int32} (ht : t < 20) : ev sc 2 [.ref (bs j + 5), .int (nI t), .int 0, .int v] (Wd g) Q = Q none (Wd (stS g j (sN (g.1 j) 2 (upF ((g.1 j).2.1 2) (t * 6 + 0) v)))) := w_cf (k := 0) hj ht (by decide)
theorem w_cf1 (hj : j < 7) {t : Nat} {v : Int32} (ht : t < 20) : ev sc 2 [.ref (bs j + 5), .int (nI t), .int 1, .int v] (Wd g) Q = Q none (Wd (stS g j (sN (g.1 j) 2 (upF ((g.1 j).2.1 2) (t * 6 + 1) v)))) := w_cf (k := 1) hj ht (by decide)
theorem w_cf2 (hj : j < 7) {t : Nat} {v : Int32} (ht : t < 20) : ev sc 2 [.ref (bs j + 5), .int (nI t), .int 2, .int v] (Wd g) Q = Q none (Wd (stS g j (sN (g.1 j) 2 (upF ((g.1 j).2.1 2) (t * 6 + 2) v)))) := w_cf (k := 2) hj ht (by decide)
theorem w_cf3 (hj : j < 7) {t : Nat} {v : Int32} (ht : t < 20) : ev sc 2 [.ref (bs j + 5), .int (nI t), .int 3, .int v] (Wd g) Q = Q none (Wd (stS g j (sN (g.1 j) 2 (upF ((g.1 j).2.1 2) (t * 6 + 3) v)))) := w_cf (k := 3) hj ht (by decide)
theorem w_cf4 (hj : j < 7) {t : Nat} {v : Int32} (ht : t < 20) : ev sc 2 [.ref (bs j + 5), .int (nI t), .int 4, .int v] (Wd g) Q = Q none (Wd (stS g j (sN (g.1 j) 2 (upF ((g.1 j).2.1 2) (t * 6 + 4) v)))) := w_cf (k := 4) hj ht (by decide)
theorem w_cf5 (hj : j < 7) {t : Nat} {v : Int32} (ht : t < 20) : ev sc 2 [.ref (bs j + 5), .int (nI t), .int 5, .int v] (Wd g) Q = Q none (Wd (stS g j (sN (g.1 j) 2 (upF ((g.1 j).2.1 2) (t * 6 + 5) v)))) := w_cf (k := 5) hj ht (by decide)
theorem x28a {c : Nat} : (28 : Int32) + 6 * nI c = nI (28 + 6 * c + 0) := by rw [show (6 : Int32) = nI 6 from rfl, show (28 : Int32) = nI 28 from rfl, pk_mul, nI_add, Nat.add_zero]
theorem x28b {c : Nat} {k : Nat} {v : Int32} (h : v = nI k) : nI (28 + 6 * c + 0) + v = nI (28 + 6 * c + k) := by rw [h, nI_add, Nat.add_zero]
theorem o_join (h : R g) {v y : Int32} : both sc 67 131 [.int v, .int y] g := by
  have hI := h.2.1
  have hM := h.2.2.1
  have h20 := nC20 hI
  have hG8 := nG8 hI
  obtain ⟨fs, n, hh⟩ := h.2.2.2.1
  rcases ii_cases (v := v) (n := nC (g.1 0)) (by omega) with ⟨c, c1, rfl, c2⟩ | ⟨-, c2⟩
  · rcases ii_cases (v := y) (n := nG (g.1 0)) (by omega) with ⟨x, x1, rfl, x2⟩ | ⟨-, x2⟩
    · have hc20 : c < 20 := by omega
      have hpl : plc (g.1 0) c ≤ 64 := pcn_le _
      by_cases ok : fact (g.1 0) c 2 = 0 ∧ fact (g.1 0) c 1 = -5 ∧ ¬ fact (g.1 0) c 0 = nI x ∧ plc (g.1 0) c = 0
      · obtain ⟨q1, q2, q3, q4⟩ := ok
        have k1 : ¬ (0 : Int32) < nI (plc (g.1 0) c) := by rw [q4]; decide
        have k2 : nI (plc (g.1 0) c) ≤ 0 := Int32.not_lt.mp k1
        have hi := inv_join hI c1 x1 q1 q4
        have e5 : fact (sN (g.1 0) 2 (upF ((g.1 0).2.1 2) (c * 6 + 1) (nI x))) c 5 = fact (g.1 0) c 5 := by
          unfold fact
          rw [sN_at, upF_ne (by omega)]
        have ep : plc (sN (g.1 0) 2 (upF ((g.1 0).2.1 2) (c * 6 + 1) (nI x))) c = 0 := q4
        generalize hs' : sN (g.1 0) 2 (upF ((g.1 0).2.1 2) (c * 6 + 1) (nI x)) = s' at hi e5 ep
        refine both_act h hh (v := fact s' c 5) hi (fun Q => ?_) (fun Q => ?_)
        · have hms : ∀ Q, ev sc 37 [.ref (bs 0), .int (nI c)] (Wd (stS (remG g fs n) 0 s')) Q = Q (some (.int (fact s' c 5))) (Wd (stS (remG g fs n) 0 s')) := fun Q => by
            rw [s_missing z7 hc20, stS_at, ep, show nI 0 = 0 from rfl, Int32.sub_zero]
          simp only [↓en67, ↓u67_0, ↓u67_1, ↓u67_2, ↓u67_5, ↓u67_16, ↓u67_8, ↓u67_17, ↓u67_9, ↓u67_10, ↓u67_13, ↓u67_18, ↓u67_19, ↓u67_22, ↓u67_23, ↓u67_24, ↓u67_27, ↓u67_68, ↓u67_30, ↓u67_70, ↓u67_31, ↓u67_34, ↓u67_35, ↓u67_36, ↓u67_39, ↓u67_41, ↓u67_44, ↓u67_45, ↓u67_48, ↓u67_49, ↓u67_50, ↓u67_53, ↓u67_54, ↓u67_57, ↓u67_58, ↓u67_61, ↓u67_62, ↓u67_65, ↓u67_71, ↓u67_72, ↓u67_75, ↓u67_76, ↓u67_79, ↓u67_82, ↓u67_83, ↓u67_84, ↓u67_85, ↓u67_88, ↓u67_89, ↓u67_92, ↓u67_93, ↓u67_96, ↓m_o, ↓c_knowsCourse, ↓c_knowsGroup, ↓c_v_some, nC_eq hI, nG_eq hI, c2, x2, n10, if_false, if_true, ↓nf0, ↓s_o z7, ↓s_fact0 z7 hc20, ↓s_fact1 z7 hc20, ↓s_fact2 z7 hc20, q1, q2, q3, ↓s_placed z7 hc20, k1, k2, ↓c_rem h hh, ↓c_v_none, ↓sf8 z7, ↓n_o2 z7, w_cf1 z7 hc20, remG_0, hs', hms]
        · have hr := fun Q => m_rec2 (sc := sc) (Q := Q) (g := stS (remG g fs n) 0 s') hh.2.1 hh.2.2.2.2.1
          have h5 := fun Q => m_of5 (sc := sc) (Q := Q) (g := gDN (rec2 (stS (remG g fs n) 0 s') n) 0 (mdl s')) (s := s') gDN_at hc20
          simp only [↓en131, ↓u131_0, ↓u131_1, ↓u131_2, ↓u131_5, ↓u131_16, ↓u131_8, ↓u131_17, ↓u131_9, ↓u131_10, ↓u131_13, ↓u131_18, ↓u131_19, ↓u131_20, ↓u131_21, ↓u131_24, ↓u131_56, ↓u131_27, ↓u131_58, ↓u131_28, ↓u131_29, ↓u131_30, ↓u131_33, ↓u131_35, ↓u131_38, ↓u131_39, ↓u131_40, ↓u131_41, ↓u131_44, ↓u131_45, ↓u131_48, ↓u131_49, ↓u131_50, ↓u131_53, ↓u131_59, ↓u131_60, ↓u131_63, ↓u131_64, ↓u131_67, ↓u131_69, ↓u131_71, ↓u131_72, ↓u131_73, ↓u131_74, ↓u131_75, ↓u131_76, ↓u131_77, ↓u131_78, ↓u131_79, ↓u131_80, ↓u131_81, ↓u131_84, ↓d_o, ↓m_isCourse (stS_now hM), ↓m_isGroup (stS_now hM), ↓c_v_some, nC_eq hI, nG_eq hI, c2, x2, n10, if_false, if_true, ↓m_of0 (stS_now hM) hc20, ↓m_of1 (stS_now hM) hc20, ↓m_of2 (stS_now hM) hc20, q1, q2, q3, ↓m_placed hI (stS_now hM) hc20, k1, k2, ↓hr, ↓c_v_none, ↓df0, ↓dI0, rec2_now hM, x28a, x28b (show (1 : Int32) = nI 1 from rfl), nAt (show 28 + 6 * c + 1 < 1892 by omega) (by decide), nI_clamp (show 28 + 6 * c + 1 < 2 ^ 31 by omega), upF_eq, ds0, mdl_cf hc20 (show 1 < 6 by decide), hs', h5]
      · have k3 : (nI (plc (g.1 0) c) ≤ 0) = (plc (g.1 0) c = 0) := propext ((nI_leI (b := 0) (by omega) (by decide)).trans Nat.le_zero)
        have k4 : ((0 : Int32) < nI (plc (g.1 0) c)) = ¬ (plc (g.1 0) c = 0) := propext ((nI_ltI (a := 0) (by decide) (by omega)).trans Nat.pos_iff_ne_zero)
        refine both_q h (v := -4) (fun Q => ?_) (fun Q => ?_)
        · simp only [↓en67, ↓u67_0, ↓u67_1, ↓u67_2, ↓u67_5, ↓u67_16, ↓u67_8, ↓u67_17, ↓u67_9, ↓u67_10, ↓u67_13, ↓u67_18, ↓u67_19, ↓u67_22, ↓u67_23, ↓u67_24, ↓u67_27, ↓u67_68, ↓u67_30, ↓u67_70, ↓u67_31, ↓u67_34, ↓u67_35, ↓u67_36, ↓u67_39, ↓u67_41, ↓u67_44, ↓u67_45, ↓u67_48, ↓u67_49, ↓u67_50, ↓u67_53, ↓u67_54, ↓u67_57, ↓u67_58, ↓u67_61, ↓u67_62, ↓u67_65, ↓u67_71, ↓u67_72, ↓u67_75, ↓u67_76, ↓u67_79, ↓u67_82, ↓u67_83, ↓u67_84, ↓u67_85, ↓u67_88, ↓u67_89, ↓u67_92, ↓u67_93, ↓u67_96, ↓m_o, ↓c_knowsCourse, ↓c_knowsGroup, ↓c_v_some, nC_eq hI, nG_eq hI, c2, x2, n10, if_false, if_true, ↓nf0, ↓s_o z7, ↓s_fact0 z7 hc20, ↓s_fact1 z7 hc20, ↓s_fact2 z7 hc20, ↓s_placed z7 hc20, k3, k4]
          by_cases q1 : fact (g.1 0) c 2 = 0 <;> by_cases q2 : fact (g.1 0) c 1 = -5 <;> by_cases q3 : fact (g.1 0) c 0 = nI x <;> by_cases q4 : plc (g.1 0) c = 0 <;> first | exact absurd (And.intro q1 (And.intro q2 (And.intro q3 q4))) ok | simp only [q1, q2, q3, q4, if_true, if_false, not_true_eq_false, not_false_eq_true]
        · simp only [↓en131, ↓u131_0, ↓u131_1, ↓u131_2, ↓u131_5, ↓u131_16, ↓u131_8, ↓u131_17, ↓u131_9, ↓u131_10, ↓u131_13, ↓u131_18, ↓u131_19, ↓u131_20, ↓u131_21, ↓u131_24, ↓u131_56, ↓u131_27, ↓u131_58, ↓u131_28, ↓u131_29, ↓u131_30, ↓u131_33, ↓u131_35, ↓u131_38, ↓u131_39, ↓u131_40, ↓u131_41, ↓u131_44, ↓u131_45, ↓u131_48, ↓u131_49, ↓u131_50, ↓u131_53, ↓u131_59, ↓u131_60, ↓u131_63, ↓u131_64, ↓u131_67, ↓u131_69, ↓u131_71, ↓u131_72, ↓u131_73, ↓u131_74, ↓u131_75, ↓u131_76, ↓u131_77, ↓u131_78, ↓u131_79, ↓u131_80, ↓u131_81, ↓u131_84, ↓d_o, ↓m_isCourse hM, ↓m_isGroup hM, ↓c_v_some, nC_eq hI, nG_eq hI, c2, x2, n10, if_false, if_true, ↓m_of0 hM hc20, ↓m_of1 hM hc20, ↓m_of2 hM hc20, ↓m_placed hI hM hc20, k3, k4]
          by_cases q1 : fact (g.1 0) c 2 = 0 <;> by_cases q2 : fact (g.1 0) c 1 = -5 <;> by_cases q3 : fact (g.1 0) c 0 = nI x <;> by_cases q4 : plc (g.1 0) c = 0 <;> first | exact absurd (And.intro q1 (And.intro q2 (And.intro q3 q4))) ok | simp only [q1, q2, q3, q4, if_true, if_false, not_true_eq_false, not_false_eq_true]
    · refine both_q h (v := -1) (fun Q => ?_) (fun Q => ?_)
      · simp only [↓en67, ↓u67_0, ↓u67_1, ↓u67_2, ↓u67_5, ↓u67_16, ↓u67_8, ↓u67_17, ↓u67_9, ↓u67_10, ↓u67_13, ↓u67_18, ↓u67_19, ↓u67_22, ↓u67_23, ↓u67_24, ↓u67_27, ↓u67_68, ↓u67_30, ↓u67_70, ↓u67_31, ↓u67_34, ↓u67_35, ↓u67_36, ↓u67_39, ↓u67_41, ↓u67_44, ↓u67_45, ↓u67_48, ↓u67_49, ↓u67_50, ↓u67_53, ↓u67_54, ↓u67_57, ↓u67_58, ↓u67_61, ↓u67_62, ↓u67_65, ↓u67_71, ↓u67_72, ↓u67_75, ↓u67_76, ↓u67_79, ↓u67_82, ↓u67_83, ↓u67_84, ↓u67_85, ↓u67_88, ↓u67_89, ↓u67_92, ↓u67_93, ↓u67_96, ↓m_o, ↓c_knowsCourse, ↓c_knowsGroup, ↓c_v_some, nC_eq hI, nG_eq hI, c2, x2, n10, n00, if_false, if_true]
      · simp only [↓en131, ↓u131_0, ↓u131_1, ↓u131_2, ↓u131_5, ↓u131_16, ↓u131_8, ↓u131_17, ↓u131_9, ↓u131_10, ↓u131_13, ↓u131_18, ↓u131_19, ↓u131_20, ↓u131_21, ↓u131_24, ↓u131_56, ↓u131_27, ↓u131_58, ↓u131_28, ↓u131_29, ↓u131_30, ↓u131_33, ↓u131_35, ↓u131_38, ↓u131_39, ↓u131_40, ↓u131_41, ↓u131_44, ↓u131_45, ↓u131_48, ↓u131_49, ↓u131_50, ↓u131_53, ↓u131_59, ↓u131_60, ↓u131_63, ↓u131_64, ↓u131_67, ↓u131_69, ↓u131_71, ↓u131_72, ↓u131_73, ↓u131_74, ↓u131_75, ↓u131_76, ↓u131_77, ↓u131_78, ↓u131_79, ↓u131_80, ↓u131_81, ↓u131_84, ↓d_o, ↓m_isCourse hM, ↓m_isGroup hM, ↓c_v_some, nC_eq hI, nG_eq hI, c2, x2, n10, n00, if_false, if_true]
  · refine both_q h (v := -1) (fun Q => ?_) (fun Q => ?_)
    · simp only [↓en67, ↓u67_0, ↓u67_1, ↓u67_2, ↓u67_5, ↓u67_16, ↓u67_8, ↓u67_17, ↓u67_9, ↓u67_10, ↓u67_13, ↓u67_18, ↓u67_19, ↓u67_22, ↓u67_23, ↓u67_24, ↓u67_27, ↓u67_68, ↓u67_30, ↓u67_70, ↓u67_31, ↓u67_34, ↓u67_35, ↓u67_36, ↓u67_39, ↓u67_41, ↓u67_44, ↓u67_45, ↓u67_48, ↓u67_49, ↓u67_50, ↓u67_53, ↓u67_54, ↓u67_57, ↓u67_58, ↓u67_61, ↓u67_62, ↓u67_65, ↓u67_71, ↓u67_72, ↓u67_75, ↓u67_76, ↓u67_79, ↓u67_82, ↓u67_83, ↓u67_84, ↓u67_85, ↓u67_88, ↓u67_89, ↓u67_92, ↓u67_93, ↓u67_96, ↓m_o, ↓c_knowsCourse, ↓c_v_some, nC_eq hI, c2, n00, if_true]
    · simp only [↓en131, ↓u131_0, ↓u131_1, ↓u131_2, ↓u131_5, ↓u131_16, ↓u131_8, ↓u131_17, ↓u131_9, ↓u131_10, ↓u131_13, ↓u131_18, ↓u131_19, ↓u131_20, ↓u131_21, ↓u131_24, ↓u131_56, ↓u131_27, ↓u131_58, ↓u131_28, ↓u131_29, ↓u131_30, ↓u131_33, ↓u131_35, ↓u131_38, ↓u131_39, ↓u131_40, ↓u131_41, ↓u131_44, ↓u131_45, ↓u131_48, ↓u131_49, ↓u131_50, ↓u131_53, ↓u131_59, ↓u131_60, ↓u131_63, ↓u131_64, ↓u131_67, ↓u131_69, ↓u131_71, ↓u131_72, ↓u131_73, ↓u131_74, ↓u131_75, ↓u131_76, ↓u131_77, ↓u131_78, ↓u131_79, ↓u131_80, ↓u131_81, ↓u131_84, ↓d_o, ↓m_isCourse hM, ↓c_v_some, nC_eq hI, c2, n00, if_true]
end
