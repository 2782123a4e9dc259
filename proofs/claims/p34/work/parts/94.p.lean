/-! THE LAW: one turn, all turns -/
section
variable {sc : Nat × (Nat → Int32)} {s s' : SV} {g : SG} {fs n j : Nat} {w : ri_W} {Q : Option Value → ri_W → Prop}
theorem l_cell (i : Nat) (hi : i < 2 ^ 31) (hL : sc.1 < 2 ^ 31) : ∃ v : Int32, ∀ w Q, ev sc 88 [.retAddr 0, .int (nI i)] w Q = Q (some (.int v)) w := by
  by_cases e : i < sc.1
  · have h1 : ¬ Int32.ofNat sc.1 ≤ nI i := nI_ge e hL
    have h2 : ri_in (nI i) sc.1 = true := in_nI e hL
    refine ⟨sc.2 (nI i).toNatClampNeg, fun w Q => ?_⟩
    simp only [↓en88, ↓u88_0, ↓u88_1, ↓u88_2, ↓u88_3, ↓u88_6, ↓u88_7, ↓u88_8, ↓u88_9, ↓u88_12, ↓u88_14, ↓u88_15, ↓u88_16, ↓u88_17, ↓u88_18, h1, h2, if_true, if_false]
  · have h1 : Int32.ofNat sc.1 ≤ nI i := nI_le (by omega) hi
    refine ⟨763049417 * (nI i + 3), fun w Q => ?_⟩
    simp only [↓en88, ↓u88_0, ↓u88_1, ↓u88_2, ↓u88_3, ↓u88_6, ↓u88_7, ↓u88_8, ↓u88_9, ↓u88_12, ↓u88_14, ↓u88_15, ↓u88_16, ↓u88_17, ↓u88_18, h1, if_true, if_false]
theorem x3 {k : Nat} : (3 : Int32) * nI k = nI (3 * k) := by rw [show (3 : Int32) = nI 3 from rfl, pk_mul]
/-- the locals of the law behind a turn's call -/
abbrev lwF (T : Int32) (k : Nat) (x a b : Int32) (v : Int64) (st u : Int32) : ri_L := [(0, .retAddr 0), (1, .ref 0), (2, .int T), (3, .int (nI k)), (4, .int x), (5, .int a), (6, .int b), (7, .int (x &&& 15)), (8, .long v), (10, .int st), (11, .int u)]
theorem lw_A (h : RwI g) {T : Int32} {k : Nat} (hk : k < 2 ^ 20) (hL : sc.1 < 2 ^ 31) (hT : ¬ T ≤ nI k) : ∃ g' x a b v st u, RwI g' ∧ ∀ Q, rv sc 100 49 [(0, .retAddr 0), (1, .ref 0), (2, .int T), (3, .int (nI k))] [] (Wd g) Q = rv sc 100 196 (lwF T k x a b v st u) [] (Wd g') Q := by
  obtain ⟨fs, n, hw, hJ⟩ := h
  obtain ⟨x, hx⟩ := l_cell (sc := sc) (3 * k) (by omega) hL
  obtain ⟨a, ha⟩ := l_cell (sc := sc) (3 * k + 1) (by omega) hL
  obtain ⟨b, hb⟩ := l_cell (sc := sc) (3 * k + 2) (by omega) hL
  have hx' : ∀ w Q, ev sc 88 [.retAddr 0, .int (3 * nI k)] w Q = Q (some (.int x)) w := fun w Q => by
    rw [x3]
    exact hx w Q
  have ha' : ∀ w Q, ev sc 88 [.retAddr 0, .int (3 * nI k + 1)] w Q = Q (some (.int a)) w := fun w Q => by
    rw [x3, nI_1]
    exact ha w Q
  have hb' : ∀ w Q, ev sc 88 [.retAddr 0, .int (3 * nI k + 2)] w Q = Q (some (.int b)) w := fun w Q => by
    rw [x3, show (2 : Int32) = nI 2 from rfl, nI_add]
    exact hb w Q
  obtain ⟨v, hv⟩ := l_view_ex (sc := sc) (g.1 0) hJ.1
  obtain ⟨u, o, ok, f⟩ := p_turn (sc := sc) hJ (w := x &&& 15) (a := a) (b := b)
  obtain ⟨t, ht, hq⟩ := f g fs n hw rfl
  obtain ⟨fs', n', h1, h2, h3⟩ := Rw_res hw ht ok
  have w0 := fun Q => hv g rfl Q
  have c0 := fun Q => v_count9 (sc := sc) (Q := Q) hw
  have hfirst : ∀ Q, rv sc 100 49 [(0, .retAddr 0), (1, .ref 0), (2, .int T), (3, .int (nI k))] [] (Wd g) Q = rv sc 100 118 (lwF T k x a b v (nI n) u) [] (Wd (res g fs n t o)) Q := fun Q => by
    rw [u100_49]
    simp only [↓u100_50, ↓u100_51, ↓u100_54, ↓u100_55, ↓u100_56, ↓u100_57, ↓u100_58, ↓u100_61, ↓u100_63, ↓u100_64, ↓u100_65, ↓u100_66, ↓u100_67, ↓u100_68, ↓u100_69, ↓u100_72, ↓u100_74, ↓u100_75, ↓u100_76, ↓u100_77, ↓u100_78, ↓u100_79, ↓u100_80, ↓u100_83, ↓u100_85, ↓u100_87, ↓u100_89, ↓u100_90, ↓u100_92, ↓u100_93, ↓u100_96, ↓u100_98, ↓u100_99, ↓u100_101, ↓u100_104, ↓u100_106, ↓u100_107, ↓u100_109, ↓u100_111, ↓u100_113, ↓u100_116, hT, if_false, ↓hx', ↓ha', ↓hb', ↓w0, ↓c0, ↓hq, ↓m_o, ↓c_v_some]
  cases o with
  | none =>
    obtain ⟨e1, rfl, rfl⟩ := h3 rfl
    have hu : ¬ (0 : Int32) ≤ u := Int32.not_le.mpr ok
    have w1 := fun Q => hv _ e1 Q
    have c1 := fun Q => v_count9 (sc := sc) (Q := Q) h1
    refine ⟨_, x, a, b, v, nI n', u, ⟨fs', n', h1, by rw [e1]; exact hJ⟩, fun Q => (hfirst Q).trans ?_⟩
    simp only [↓u100_118, ↓u100_120, ↓u100_123, ↓u100_124, ↓u100_127, ↓u100_129, ↓u100_130, ↓u100_133, ↓u100_134, ↓u100_136, ↓u100_139, ↓u100_141, ↓u100_144, ↓u100_145, hu, if_false, ↓w1, ↓c1, ↓m_o, ↓c_v_some, cmp_self, i_self, n00, if_true]
  | some s' =>
    obtain ⟨e1, rfl, rfl⟩ := h2 s' rfl
    have hu : (0 : Int32) ≤ u := Int32.not_lt.mp ok.1
    have c1 := fun Q => v_count9 (sc := sc) (Q := Q) h1
    have hn4 := hw.2.2.1
    have hc : (if (4 : Int32) ≤ nI n then (4 : Int32) else nI n + 1) = nI (recN n + 1) := by
      unfold recN
      by_cases e : n = 4
      · subst e
        rw [if_pos rfl, if_pos (by decide)]
        rfl
      · have e4 : ¬ (4 : Int32) ≤ nI n := nI_ge (b := 4) (by omega) (by decide)
        rw [if_neg e, if_neg e4, nI_1]
    have h169 : ∀ Q, rv sc 100 118 (lwF T k x a b v (nI n) u) [] (Wd (res g fs n t (some s'))) Q = rv sc 100 169 (lwF T k x a b v (nI n) u) [] (Wd (res g fs n t (some s'))) Q := fun Q => by
      by_cases e : (4 : Int32) ≤ nI n
      · rw [if_pos e] at hc
        have hc2 : (nI (recN n + 1) = 4) = True := eq_true hc.symm
        simp only [↓u100_118, ↓u100_120, ↓u100_146, ↓u100_147, ↓u100_149, ↓u100_152, ↓u100_154, ↓u100_155, ↓u100_158, ↓u100_160, ↓u100_161, ↓u100_162, ↓u100_165, ↓u100_166, hu, e, if_true, ↓c1, ↓m_o, ↓c_v_some, hc2]
      · rw [if_neg e] at hc
        have hc2 : (nI (recN n + 1) = nI n + 1) = True := eq_true hc.symm
        simp only [↓u100_118, ↓u100_120, ↓u100_146, ↓u100_147, ↓u100_149, ↓u100_152, ↓u100_154, ↓u100_155, ↓u100_158, ↓u100_160, ↓u100_161, ↓u100_162, ↓u100_165, ↓u100_166, hu, e, if_true, if_false, ↓c1, ↓m_o, ↓c_v_some, hc2]
    by_cases h16 : x &&& 16 = 0
    · have hrn : recN n ≤ 3 := by
        unfold recN
        split <;> omega
      have hsl : (res g fs n t (some s')).1 (slot (fs1 fs n) (recN n)) = g.1 0 := by
        show (stS (remG (stS g 1 t) fs n) 0 s').1 (slot (fs1 fs n) (recN n)) = g.1 0
        rw [rem_slot]
        exact stS_ne (by decide)
      obtain ⟨g', f2, n2, r1, r2, r3⟩ := l_isUndone (sc := sc) (x := x &&& 15) (a := a) (b := b) (u := u) hJ ok.2 f hv h1 e1 hsl hrn
      refine ⟨g', x, a, b, v, nI n, u, ⟨f2, n2, r1, by rw [r2]; exact ok.2⟩, fun Q => (hfirst Q).trans ((h169 Q).trans ?_)⟩
      simp only [↓u100_169, ↓u100_171, ↓u100_173, ↓u100_174, ↓u100_177, ↓u100_178, ↓u100_180, ↓u100_182, ↓u100_184, ↓u100_186, ↓u100_188, ↓u100_191, ↓u100_194, ↓u100_195, h16, if_true, ↓r3, ↓m_o, ↓c_v_some, n10, if_false]
    · refine ⟨_, x, a, b, v, nI n, u, ⟨_, _, h1, by rw [e1]; exact ok.2⟩, fun Q => (hfirst Q).trans ((h169 Q).trans ?_)⟩
      simp only [↓u100_169, ↓u100_171, ↓u100_173, ↓u100_174, ↓u100_177, ↓u100_178, ↓u100_180, ↓u100_182, ↓u100_184, ↓u100_186, ↓u100_188, ↓u100_191, ↓u100_194, ↓u100_195, h16, if_false]
theorem lw_B (h : RwI g) {T x a b st u : Int32} {k : Nat} {v : Int64} : ∃ g', RwI g' ∧ ∀ Q, rv sc 100 196 (lwF T k x a b v st u) [] (Wd g) Q = rv sc 100 49 [(0, .retAddr 0), (1, .ref 0), (2, .int T), (3, .int (nI (k + 1)))] [] (Wd g') Q := by
  obtain ⟨fs, n, hw, hJ⟩ := h
  by_cases h96 : x &&& 96 = 0
  · obtain ⟨g', f2, n2, r1, r2, r3⟩ := l_isKept (sc := sc) (a := a) (b := b) hJ hw rfl
    have hJ' : inv2 (g'.1 0) := by rw [r2]; exact hJ
    refine ⟨g', ⟨f2, n2, r1, hJ'⟩, fun Q => ?_⟩
    simp only [↓u100_196, ↓u100_198, ↓u100_200, ↓u100_201, ↓u100_204, ↓u100_205, ↓u100_207, ↓u100_209, ↓u100_212, ↓u100_215, ↓u100_216, ↓u100_219, ↓u100_222, ↓u100_223, ↓u100_224, ↓u100_227, h96, if_true, ↓r3, ↓m_o, ↓c_v_some, n10, if_false, ↓l_areRight hJ', nI_1]
  · refine ⟨g, ⟨fs, n, hw, hJ⟩, fun Q => ?_⟩
    simp only [↓u100_196, ↓u100_198, ↓u100_200, ↓u100_201, ↓u100_204, ↓u100_205, ↓u100_207, ↓u100_209, ↓u100_212, ↓u100_215, ↓u100_216, ↓u100_219, ↓u100_222, ↓u100_223, ↓u100_224, ↓u100_227, h96, ↓m_o, ↓c_v_some, n10, if_false, ↓l_areRight hJ, nI_1]
theorem lw_all {T : Nat} (hT : T ≤ 36) (hL : sc.1 < 2 ^ 31) : ∀ (d k : Nat) (g : SG), k + d = T → RwI g → ∃ g', ∀ Q, rv sc 100 49 [(0, .retAddr 0), (1, .ref 0), (2, .int (nI T)), (3, .int (nI k))] [] (Wd g) Q = Q (some (.int 1)) (Wd g') := by
  intro d
  induction d with
  | zero =>
    intro k g hk h
    have e : k = T := by omega
    subst e
    have h5 : nI k ≤ nI k := nI_le (Nat.le_refl _) (by omega)
    refine ⟨g, fun Q => ?_⟩
    rw [u100_49]
    simp only [↓u100_50, ↓u100_51, ↓u100_230, ↓u100_231, h5, if_true, ↓c_b_1]
  | succ d ih =>
    intro k g hk h
    obtain ⟨g1, x, a, b, v, st, u, h1, q1⟩ := lw_A (sc := sc) h (T := nI T) (k := k) (by omega) hL (nI_ge (by omega) (by omega))
    obtain ⟨g2, h2, q2⟩ := lw_B (sc := sc) h1 (T := nI T) (x := x) (a := a) (b := b) (st := st) (u := u) (k := k) (v := v)
    obtain ⟨g3, q3⟩ := ih (k + 1) g2 (by omega) h2
    exact ⟨g3, fun Q => (q1 Q).trans ((q2 Q).trans (q3 Q))⟩
theorem law_runs {L : Nat} {xs : Nat → Int32} (hL : L ≤ 260) : ∃ n w', ri_run (L, xs) n 100 (0, [(0, .retAddr 0)], [], []) = some (some (.int 1), w') ∧ w'.length ≤ 600000 ∧ ri_ns w' ≤ 7302250 := by
  have hd : (Int32.ofNat L / 3 : Int32) = nI (L / 3) := pk_div (a := L) (d := 3) (by omega) (by decide) (by decide)
  obtain ⟨T, hT, hT2⟩ : ∃ T, T ≤ 36 ∧ (if (Int32.ofNat L / 3 : Int32) < 36 then (Int32.ofNat L / 3 : Int32) else 36) = nI T := by
    rw [hd]
    by_cases e : L / 3 < 36
    · have e4 : nI (L / 3) < (36 : Int32) := nI_lt (b := 36) e (by decide)
      exact ⟨L / 3, by omega, by rw [if_pos e4]⟩
    · have e4 : ¬ nI (L / 3) < (36 : Int32) := nI_nlt (b := 36) (by omega) (by omega)
      exact ⟨36, Nat.le_refl _, by rw [if_neg e4]; rfl⟩
  obtain ⟨g, hg, q0⟩ := law_begin (sc := (L, xs)) hT2
  obtain ⟨g', q1⟩ := lw_all (sc := (L, xs)) hT (show L < 2 ^ 31 by omega) T 0 g (by omega) hg
  have hQ : rv (L, xs) 100 0 [(0, .retAddr 0)] [] [] (fun v w => v = some (.int 1) ∧ w.length ≤ 600000 ∧ ri_ns w ≤ 7302250) := by
    rw [q0, show (0 : Int32) = nI 0 from rfl, q1]
    refine ⟨rfl, by rw [Wd_len]; decide, ?_⟩
    have h1 := ns_map (f := ce g') (M := 20000) (fun q => sz_ce) (List.range 154)
    rw [List.length_range] at h1
    exact Nat.le_trans h1 (by decide)
  obtain ⟨n, x, h1, h2, h3, h4⟩ := hQ
  refine ⟨n, x.2, ?_, h3, h4⟩
  rw [h1]
  obtain ⟨x1, x2⟩ := x
  cases h2
  rfl
end
