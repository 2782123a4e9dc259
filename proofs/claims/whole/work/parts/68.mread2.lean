section
variable {sc : Nat × (Nat → Int32)} {n : Nat} {x : Nat → Int32} {g : SG}
theorem tnum_none {x : Nat → Int32} {n p : Nat} (h : n ≤ p) : tnum x n p = none := by
  have e : tdg x n p = none := by
    unfold tdg
    rw [if_neg (by omega)]
  unfold tnum
  rw [e]
theorem tpl_le {x : Nat → Int32} {n p : Nat} (hp : p ≤ n) : (tpl x n p).1 ≤ n := by
  unfold tpl
  cases e : tnum x n p with
  | none => exact hp
  | some w =>
    obtain ⟨a', p1⟩ := w
    have t1 := tnum_lt e
    by_cases s1 : tsg x n p1 64 = true
    · have l1 := tsg_lt s1
      simp only [s1, if_true]
      cases e3 : tnum x n (p1 + 1) with
      | none => exact (by omega : p1 + 1 ≤ n)
      | some w =>
        obtain ⟨b', p2⟩ := w
        have t2 := tnum_lt e3
        by_cases s2 : tsg x n p2 114 = true
        · have l2 := tsg_lt s2
          simp only [s2, if_true]
          cases e5 : tdg x n (p2 + 1) with
          | none => exact (by omega : p2 + 1 ≤ n)
          | some d' =>
            have t3 := tdg_lt e5
            exact (by omega : p2 + 2 ≤ n)
        · simp only [s2, if_false, Bool.false_eq_true]
          omega
    · simp only [s1, if_false, Bool.false_eq_true]
      omega
theorem prs_e : ∀ (k p e : Nat), prs x n k p = .inr e → p ≤ n → e ≤ n
  | 0, p, e, h, hp => by
    rw [show prs x n 0 p = .inr p from rfl] at h
    cases h
    exact hp
  | k + 1, p, e, h, hp => by
    unfold prs at h
    have hl := tpl_le (x := x) hp
    cases et : tpl x n p with
    | mk q o =>
      rw [et] at h hl
      cases o with
      | none =>
        cases h
        exact hl
      | some t =>
        by_cases hq : n ≤ q
        · simp only [hq, if_true] at h
          cases h
        · simp only [hq, if_false] at h
          by_cases s3 : tsg x n q 59 = true
          · simp only [s3, if_true] at h
            cases er : prs x n k (q + 1) with
            | inr e' =>
              rw [er] at h
              cases h
              exact prs_e k (q + 1) _ er (tsg_lt s3)
            | inl l =>
              rw [er] at h
              cases h
          · simp only [s3, if_false, Bool.false_eq_true] at h
            cases h
            exact hl
theorem prs_lt : ∀ (k p : Nat) (l : List (Nat × Nat × Nat)), prs x n k p = .inl l → ∀ t, t ∈ l → t.1 < 100 ∧ t.2.1 < 100 ∧ t.2.2 < 10
  | 0, p, l, h => by
    rw [show prs x n 0 p = .inr p from rfl] at h
    cases h
  | k + 1, p, l, h => by
    unfold prs at h
    cases et : tpl x n p with
    | mk q o =>
      rw [et] at h
      cases o with
      | none => cases h
      | some t0 =>
        obtain ⟨a, b, d⟩ := t0
        have hl := tpl_lt et
        by_cases hq : n ≤ q
        · simp only [hq, if_true] at h
          cases h
          intro t ht
          rw [List.mem_singleton] at ht
          subst ht
          exact ⟨hl.2.2.1, hl.2.2.2.1, hl.2.2.2.2⟩
        · simp only [hq, if_false] at h
          by_cases s3 : tsg x n q 59 = true
          · simp only [s3, if_true] at h
            cases er : prs x n k (q + 1) with
            | inr e' =>
              rw [er] at h
              cases h
            | inl l =>
              rw [er] at h
              cases h
              intro t ht
              rcases List.mem_cons.mp ht with rfl | ht
              · exact ⟨hl.2.2.1, hl.2.2.2.1, hl.2.2.2.2⟩
              · exact prs_lt k (q + 1) l er t ht
          · simp only [s3, if_false, Bool.false_eq_true] at h
            cases h
/-- where a text cannot go on, as the plain form finds it -/
theorem m_faultOf (hn : n ≤ 60) (e0 : g.2.2.2.1 2 = nI n) (ex : g.2.2.2.2 2 = x) : ∃ g', eqv g g' ∧ ∀ Q, ev sc 158 [.ref 154] (Wd g) Q = Q (some (.int (match prs x n 60 0 with | .inl _ => -5 | .inr e => nI e))) (Wd g') := by
  obtain ⟨g1, v1, v2, v3, v4⟩ := m_passesPlacing (sc := sc) (g := gD g 3 0) (n := n) (p := 0) (x := x) hn (Nat.zero_le _) e0 rfl ex
  have w1 : eqv g g1 := eqv_tr (eqv_gD eqv_r (by decide)) v1
  rw [show prs x n 60 0 = (match tpl x n 0 with
    | (q, none) => .inr q
    | (q, some t) => if n ≤ q then .inl [t] else if tsg x n q 59 = true then (match prs x n 59 (q + 1) with
      | .inl l => .inl (t :: l)
      | .inr e => .inr e) else .inr q) from rfl]
  cases et : tpl x n 0 with
  | mk r o =>
    rw [et] at v2 v4
    cases o with
    | none =>
      refine ⟨g1, w1, fun Q => ?_⟩
      have f6 : g1.2.2.2.1 3 = nI r := v2
      simp only [Option.isSome_none, Bool.false_eq_true, if_false] at v4
      simp only [↓en158, ↓u158_0, ↓u158_1, ↓u158_2, ↓u158_5, ↓u158_6, ↓u158_9, ↓u158_12, ↓u158_18, ↓u158_13, ↓u158_21, ↓u158_16, ↓u158_22, ↓u158_25, ↓u158_49, ↓u158_28, ↓u158_51, ↓u158_29, ↓u158_31, ↓u158_34, ↓u158_44, ↓u158_37, ↓u158_45, ↓u158_38, ↓u158_48, ↓u158_41, ↓df6, ↓dp6, ↓d_o, ↓v4, ↓c_v_some, n00, if_true, f6]
    | some t =>
      obtain ⟨a, b, d⟩ := t
      have hl := tpl_lt et
      simp only [Option.isSome_some, if_true] at v4
      obtain ⟨g2, t1, t2⟩ := m_fault_l (sc := sc) (x := x) hn 59 g1 r (by omega) hl.2.1 ((w1.2.2.2.2 2 (by decide)).trans e0) v2 (by rw [w1.2.2.2.1]; exact ex)
      refine ⟨g2, eqv_tr w1 t1, fun Q => ?_⟩
      have t3 := t2 Q
      have ha : (if n ≤ r then (-5 : Int32) else if tsg x n r 59 = true then (match prs x n 59 (r + 1) with | .inl _ => -5 | .inr e => nI e) else nI r) = (match (if n ≤ r then (.inl [(a, b, d)] : List (Nat × Nat × Nat) ⊕ Nat) else if tsg x n r 59 = true then (match prs x n 59 (r + 1) with | .inl l => .inl ((a, b, d) :: l) | .inr e => .inr e) else .inr r) with | .inl _ => (-5 : Int32) | .inr e => nI e) := by
        by_cases z1 : n ≤ r
        · simp only [z1, if_true]
        · by_cases z2 : tsg x n r 59 = true
          · simp only [z1, z2, if_true, if_false]
            cases prs x n 59 (r + 1) <;> rfl
          · simp only [z1, z2, if_false, Bool.false_eq_true]
      refine Eq.trans ?_ (t3.trans (congrArg (fun z => Q (some (.int z)) (Wd g2)) ha))
      simp only [↓en158, ↓u158_0, ↓u158_1, ↓u158_2, ↓u158_5, ↓u158_6, ↓u158_9, ↓u158_12, ↓u158_18, ↓u158_13, ↓u158_21, ↓u158_16, ↓u158_22, ↓u158_25, ↓u158_49, ↓u158_28, ↓u158_51, ↓u158_29, ↓u158_31, ↓u158_34, ↓u158_44, ↓u158_37, ↓u158_45, ↓u158_38, ↓u158_48, ↓u158_41, ↓dp6, ↓d_o, ↓v4, ↓c_v_some, n10, if_false]
end
/-- placings are put in one after the other: the state, and the first error -/
def rdS (s : SV) : List (Nat × Nat × Nat) → SV × Int32
  | [] => (s, 0)
  | (a, b, d) :: l => if errS s (nI a) (nI b) (nI d) = 0 then rdS (setL s a b d true) l else (s, errS s (nI a) (nI b) (nI d))
theorem errS_n {s : SV} (hI : inv s) {a b d : Nat} (ha : a < 100) (hb : b < 100) (hd : d < 10) (h : errS s (nI a) (nI b) (nI d) = 0) : a < nC s ∧ b < slS s ∧ d < nR s ∧ fstS s a b d = 0 := by
  have h48 := (sl48 hI).1
  have h20 := nC20 hI
  have h6 := nR6 hI
  obtain ⟨c, m, r, ec, em, er, c1, m1, r1, h0⟩ := errS_0 hI h
  have e1 := (nI_eq (by omega) (by omega)).mp ec
  have e2 := (nI_eq (by omega) (by omega)).mp em
  have e3 := (nI_eq (by omega) (by omega)).mp er
  subst e1 e2 e3
  exact ⟨c1, m1, r1, h0⟩
theorem rdS_inv : ∀ (l : List (Nat × Nat × Nat)) (s : SV), inv s → (∀ t, t ∈ l → t.1 < 100 ∧ t.2.1 < 100 ∧ t.2.2 < 10) → inv (rdS s l).1
  | [], s, hI, _ => hI
  | (a, b, d) :: l, s, hI, ht => by
    have h0 : a < 100 ∧ b < 100 ∧ d < 10 := ht (a, b, d) List.mem_cons_self
    obtain ⟨h1, h2, h3⟩ := h0
    unfold rdS
    by_cases e : errS s (nI a) (nI b) (nI d) = 0
    · obtain ⟨c1, m1, r1, h0⟩ := errS_n hI h1 h2 h3 e
      rw [if_pos e]
      exact rdS_inv l _ (inv_in hI c1 r1 m1 h0) (fun t h => ht t (List.mem_cons_of_mem _ h))
    · rw [if_neg e]
      exact hI
theorem rdS_0 {s : SV} {a b d : Nat} {l : List (Nat × Nat × Nat)} (h : errS s (nI a) (nI b) (nI d) = 0) : rdS s ((a, b, d) :: l) = rdS (setL s a b d true) l := by
  rw [rdS, if_pos h]
theorem rdS_e {s : SV} {a b d : Nat} {l : List (Nat × Nat × Nat)} (h : ¬ errS s (nI a) (nI b) (nI d) = 0) : rdS s ((a, b, d) :: l) = (s, errS s (nI a) (nI b) (nI d)) := by
  rw [rdS, if_neg h]
section
variable {sc : Nat × (Nat → Int32)} {g : SG} {Q : Option Value → ri_W → Prop}
/-- the class places what it has read, in its trial -/
theorem c_read_l {N : Nat} {z : Int32} (hN : N ≤ 10) (e1 : g.2.2.1.1 1 = nI N) : ∀ (l : List (Nat × Nat × Nat)) (i : Nat) (s : SV), i + l.length = N → (∀ t, t ∈ l → t.1 < 100 ∧ t.2.1 < 100 ∧ t.2.2 < 10) → (∀ m a b d, l[m]? = some (a, b, d) → g.2.2.1.2 0 ((i + m) * 3 + 0) = nI a ∧ g.2.2.1.2 0 ((i + m) * 3 + 1) = nI b ∧ g.2.2.1.2 0 ((i + m) * 3 + 2) = nI d) → inv s → rv sc 76 31 [(0, .ref 0), (1, .int z), (2, .int (nI i))] [] (Wd (stS g 1 s)) Q = if (rdS s l).2 = 0 then rv sc 76 124 [(0, .ref 0), (1, .int z), (2, .int (nI N))] [] (Wd (stS g 1 (rdS s l).1)) Q else Q (some (.int (rdS s l).2)) (Wd (stS g 1 (rdS s l).1)) := by
  intro l
  induction l with
  | nil =>
    intro i s hi _ _ hI
    have hN' : i = N := by simpa using hi
    subst hN'
    have g1 : (stS g 1 s).2.2.1.1 1 = nI i := e1
    have k1 : nI i ≤ nI i := nI_le (Nat.le_refl i) (by omega)
    rw [u76_31]
    simp only [↓u76_32, ↓u76_33, ↓u76_36, ↓u76_39, ↓mf7, ↓xf1, g1, k1, if_true, rdS]
  | cons t l ih =>
    intro i s hi hb ht hI
    obtain ⟨a, b, d⟩ := t
    simp only [List.length_cons] at hi
    have b0 : a < 100 ∧ b < 100 ∧ d < 10 := hb (a, b, d) List.mem_cons_self
    obtain ⟨b1, b2, b3⟩ := b0
    obtain ⟨f0, f1, f2⟩ := ht 0 a b d rfl
    rw [Nat.add_zero] at f0 f1 f2
    have g1 : (stS g 1 s).2.2.1.1 1 = nI N := e1
    have k1 : ¬ nI N ≤ nI i := nI_ge (by omega) (by omega)
    have r0 : ∀ Q, ev sc 1 [.ref 150, .int (nI i), .int 0] (Wd (stS g 1 s)) Q = Q (some (.int (nI a))) (Wd (stS g 1 s)) := fun Q => by
      rw [← f0]
      exact r_pl (g := stS g 1 s) (k := 0) (show i < 10 by omega) (by decide)
    have r1 : ∀ Q, ev sc 1 [.ref 150, .int (nI i), .int 1] (Wd (stS g 1 s)) Q = Q (some (.int (nI b))) (Wd (stS g 1 s)) := fun Q => by
      rw [← f1]
      exact r_pl (g := stS g 1 s) (k := 1) (show i < 10 by omega) (by decide)
    have r2 : ∀ Q, ev sc 1 [.ref 150, .int (nI i), .int 2] (Wd (stS g 1 s)) Q = Q (some (.int (nI d))) (Wd (stS g 1 s)) := fun Q => by
      rw [← f2]
      exact r_pl (g := stS g 1 s) (k := 2) (show i < 10 by omega) (by decide)
    have he := fun Q => s_errorOfPlacing (sc := sc) (Q := Q) (g := stS g 1 s) (j := 1) (v := nI a) (m := nI b) (r := nI d) (by decide) (by rw [stS_at]; exact hI.2.1) (by rw [stS_at]; exact hI.2.2.1)
    rw [stS_at] at he
    by_cases e : errS s (nI a) (nI b) (nI d) = 0
    · obtain ⟨c1, m1, r1', h0⟩ := errS_n hI b1 b2 b3 e
      have h6 := nR6 hI
      have hst := fun Q => s_set1 (sc := sc) (g := stS g 1 s) (Q := Q) (j := 1) (m := b) (r := d) (c := a) (by decide) (by rw [stS_at]; exact hI) (by rw [stS_at]; exact c1) (by omega)
      rw [stS_at, stS_twice] at hst
      have ih1 := ih (i + 1) (setL s a b d true) (by omega) (fun t h => hb t (List.mem_cons_of_mem _ h)) (fun m a' b' d' hm => by
        have := ht (m + 1) a' b' d' hm
        rw [show i + 1 + m = i + (m + 1) by omega]
        exact this) (inv_in hI c1 r1' m1 h0)
      rw [rdS_0 e]
      refine Eq.trans ?_ ih1
      rw [u76_31]
      simp only [↓u76_0, ↓u76_1, ↓u76_4, ↓u76_7, ↓u76_8, ↓u76_9, ↓u76_10, ↓u76_18, ↓u76_13, ↓u76_19, ↓u76_15, ↓u76_22, ↓u76_16, ↓u76_23, ↓u76_17, ↓u76_26, ↓u76_29, ↓u76_30, ↓u76_32, ↓u76_33, ↓u76_36, ↓u76_39, ↓u76_124, ↓u76_42, ↓u76_125, ↓u76_43, ↓u76_128, ↓u76_46, ↓u76_129, ↓u76_49, ↓u76_132, ↓u76_50, ↓u76_135, ↓u76_51, ↓u76_54, ↓u76_55, ↓u76_56, ↓u76_59, ↓u76_62, ↓u76_63, ↓u76_64, ↓u76_67, ↓u76_69, ↓u76_70, ↓u76_73, ↓u76_76, ↓u76_77, ↓u76_78, ↓u76_81, ↓u76_83, ↓u76_84, ↓u76_87, ↓u76_88, ↓u76_90, ↓u76_92, ↓u76_95, ↓u76_97, ↓u76_99, ↓u76_105, ↓u76_102, ↓u76_106, ↓u76_104, ↓u76_109, ↓u76_110, ↓u76_112, ↓u76_114, ↓u76_115, ↓u76_118, ↓u76_121, ↓mf7, ↓xf1, ↓xf2, ↓nf1, g1, k1, if_false, ↓xn_o0, ↓r0, ↓r1, ↓r2, ↓c_v_some, ↓s_o (show 1 < 7 by decide), ↓he, e, if_true, ↓hst, ↓c_v_none, nI_1]
    · rw [rdS_e e, if_neg e, u76_31]
      simp only [↓u76_0, ↓u76_1, ↓u76_4, ↓u76_7, ↓u76_8, ↓u76_9, ↓u76_10, ↓u76_18, ↓u76_13, ↓u76_19, ↓u76_15, ↓u76_22, ↓u76_16, ↓u76_23, ↓u76_17, ↓u76_26, ↓u76_29, ↓u76_30, ↓u76_32, ↓u76_33, ↓u76_36, ↓u76_39, ↓u76_124, ↓u76_42, ↓u76_125, ↓u76_43, ↓u76_128, ↓u76_46, ↓u76_129, ↓u76_49, ↓u76_132, ↓u76_50, ↓u76_135, ↓u76_51, ↓u76_54, ↓u76_55, ↓u76_56, ↓u76_59, ↓u76_62, ↓u76_63, ↓u76_64, ↓u76_67, ↓u76_69, ↓u76_70, ↓u76_73, ↓u76_76, ↓u76_77, ↓u76_78, ↓u76_81, ↓u76_83, ↓u76_84, ↓u76_87, ↓u76_88, ↓u76_90, ↓u76_92, ↓u76_95, ↓u76_97, ↓u76_99, ↓u76_105, ↓u76_102, ↓u76_106, ↓u76_104, ↓u76_109, ↓u76_110, ↓u76_112, ↓u76_114, ↓u76_115, ↓u76_118, ↓u76_121, ↓mf7, ↓xf1, ↓xf2, ↓nf1, g1, k1, if_false, ↓xn_o0, ↓r0, ↓r1, ↓r2, ↓c_v_some, ↓s_o (show 1 < 7 by decide), ↓he, e]
end
