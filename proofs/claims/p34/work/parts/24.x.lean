theorem ii_cases {v : Int32} {n : Nat} (hn : n < 2 ^ 31) : (∃ k, k < n ∧ v = nI k ∧ ii v 0 (nI n - 1) = 1) ∨ ((∀ k, k < n → v ≠ nI k) ∧ ii v 0 (nI n - 1) = 0) := by
  by_cases h : ∃ k, k < n ∧ v = nI k
  · obtain ⟨k, hk, rfl⟩ := h
    exact .inl ⟨k, hk, rfl, ii_in hk hn⟩
  · have h2 : ∀ k, k < n → v ≠ nI k := fun k hk hv => h ⟨k, hk, hv⟩
    exact .inr ⟨h2, ii_out hn h2⟩
theorem nI_n5 {n : Nat} (h : n < 2 ^ 31) : ¬ nI n = -5 := fun e => nI_pos h (by rw [e]; decide)
def slS (s : SV) : Nat := nD s * nP s
def busS (s : SV) (x : Nat) (pt : Int32) (m : Nat) : Bool := ((decide (pt = 0) || decide (pt = 1)) && hH s (x * 2) m) || ((decide (pt = 0) || decide (pt = 2)) && hH s (x * 2 + 1) m)
/-- the groups of a course are busy, as the class asks it -/
def busyS (s : SV) (c m : Nat) : Bool := busS s (fG s c) (fact s c 2) m || (!decide (fact s c 1 = -5) && busS s (fJ s c) 0 m)
/-- the first of the reasons that are the same for all rooms -/
def reaS (s : SV) (c m : Nat) : Int32 :=
  if nI (plc s c) < fact s c 5 then
    if nI (ct (fun k => hC s c (m / nP s * nP s + k)) (nP s)) < 2 then
      if hB s (fT s c) m = true then 3 else if hT s (fT s c) m = true then 4 else
        if nI (ct (fun k => hT s (fT s c) (m / nP s * nP s + k)) (nP s)) < tf s (fT s c) 1 then
          if nI (pcn (s.2.2 4 (fT s c))) < tf s (fT s c) 0 then
            if busyS s c m = true then 7 else 0
          else 6
        else 5
    else 2
  else 1
def rooS (s : SV) (c m r : Nat) : Int32 := if hR s r m = true then 8 else if fact s c 4 &&& (re s r ^^^ -1) = 0 then 0 else 9
def fstS (s : SV) (c m r : Nat) : Int32 := if reaS s c m = 0 then rooS s c m r else reaS s c m
section
variable {sc : Nat × (Nat → Int32)} {g : SG} {j : Nat} {Q : Option Value → ri_W → Prop}
def klS (s : SV) (v m : Int32) : Int32 := if ii v 0 (s.1 5 - 1) = 0 then 0 else if ii m 0 (s.1 0 * s.1 1 - 1) = 0 then 0 else bI (hC s v.toNatClampNeg m.toNatClampNeg)
theorem i110 : (1 : Int32) + 1 = 2 := by decide
theorem i213 : (2 : Int32) + 1 = 3 := by decide
theorem l21 : ((2 : Int32) < 1) = False := eq_false (by decide)
theorem l22 : ((2 : Int32) < 2) = False := eq_false (by decide)
theorem l23 : ((2 : Int32) < 3) = True := eq_true (by decide)
theorem s_row1 {w : ri_W} {x : Nat} : ev sc 27 [.int (nI x), .int 1] w Q = Q (some (.int (nI (x * 2)))) w := s_rowOfHalf (gr := x) (h := 1) (by decide)
theorem s_row2 {w : ri_W} {x : Nat} : ev sc 27 [.int (nI x), .int 2] w Q = Q (some (.int (nI (x * 2 + 1)))) w := s_rowOfHalf (gr := x) (h := 2) (by decide)
theorem s_isBusy (hj : j < 7) {x m : Nat} {pt : Int32} (hx : x < 8) (hm : m < 64) : ev sc 48 [.ref (bs j), .int (nI x), .int pt, .int (nI m)] (Wd g) Q = Q (some (.int (bI (busS (g.1 j) x pt m)))) (Wd g) := by
  have h3 : rv sc 48 3 [(0, .ref (bs j)), (1, .int (nI x)), (2, .int pt), (3, .int (nI m)), (4, .int 3)] [] (Wd g) Q = Q (some (.int 0)) (Wd g) := by
    rw [u48_3]
    simp only [↓u48_0, ↓u48_1, ↓u48_5, ↓u48_6, ↓u48_44, ↓u48_9, ↓u48_45, ↓u48_10, ↓u48_19, ↓u48_13, ↓u48_20, ↓u48_14, ↓u48_23, ↓u48_16, ↓u48_24, ↓u48_38, ↓u48_26, ↓u48_41, ↓u48_29, ↓u48_30, ↓u48_33, ↓u48_36, ↓u48_37, l23, if_true, ↓c_b_0]
  have h2 : rv sc 48 3 [(0, .ref (bs j)), (1, .int (nI x)), (2, .int pt), (3, .int (nI m)), (4, .int 2)] [] (Wd g) Q = Q (some (.int (bI ((decide (pt = 0) || decide (pt = 2)) && hH (g.1 j) (x * 2 + 1) m)))) (Wd g) := by
    rw [u48_3]
    simp only [↓u48_0, ↓u48_1, ↓u48_5, ↓u48_6, ↓u48_44, ↓u48_9, ↓u48_45, ↓u48_10, ↓u48_19, ↓u48_13, ↓u48_20, ↓u48_14, ↓u48_23, ↓u48_16, ↓u48_24, ↓u48_38, ↓u48_26, ↓u48_41, ↓u48_29, ↓u48_30, ↓u48_33, ↓u48_36, ↓u48_37, l22, if_false, ↓sf15 hj, ↓s_row2, ↓c_v_some, ↓j_o6 hj, ↓s_hasH hj (show x * 2 + 1 < 16 by omega) hm, i213, ↓c_b_1, h3]
    change (if pt = 0 then (if bI (hH (g.1 j) (x * 2 + 1) m) = 0 then _ else _) else _) = _
    by_cases e0 : pt = 0 <;> by_cases e2 : pt = 2 <;> cases hH (g.1 j) (x * 2 + 1) m <;> simp [e0, e2, bI]
  have h1 : rv sc 48 3 [(0, .ref (bs j)), (1, .int (nI x)), (2, .int pt), (3, .int (nI m)), (4, .int 1)] [] (Wd g) Q = Q (some (.int (bI (busS (g.1 j) x pt m)))) (Wd g) := by
    rw [u48_3]
    simp only [↓u48_0, ↓u48_1, ↓u48_5, ↓u48_6, ↓u48_44, ↓u48_9, ↓u48_45, ↓u48_10, ↓u48_19, ↓u48_13, ↓u48_20, ↓u48_14, ↓u48_23, ↓u48_16, ↓u48_24, ↓u48_38, ↓u48_26, ↓u48_41, ↓u48_29, ↓u48_30, ↓u48_33, ↓u48_36, ↓u48_37, l21, if_false, ↓sf15 hj, ↓s_row1, ↓c_v_some, ↓j_o6 hj, ↓s_hasH hj (show x * 2 < 16 by omega) hm, i110, ↓c_b_1, h2]
    change (if pt = 0 then (if bI (hH (g.1 j) (x * 2) m) = 0 then _ else _) else _) = _
    unfold busS
    by_cases e0 : pt = 0 <;> by_cases e2 : pt = 1 <;> cases hH (g.1 j) (x * 2) m <;> simp [e0, e2, bI]
  simp only [↓en48, ↓u48_0, ↓u48_1, ↓u48_5, ↓u48_6, ↓u48_44, ↓u48_9, ↓u48_45, ↓u48_10, ↓u48_19, ↓u48_13, ↓u48_20, ↓u48_14, ↓u48_23, ↓u48_16, ↓u48_24, ↓u48_38, ↓u48_26, ↓u48_41, ↓u48_29, ↓u48_30, ↓u48_33, ↓u48_36, ↓u48_37, h1]
theorem s_hasBusyGroup (hj : j < 7) (hn : okN (g.1 j)) (hf : okF (g.1 j)) {c m : Nat} (hc : c < nC (g.1 j)) (hm : m < 64) : ev sc 47 [.ref (bs j), .int (nI c), .int (nI m)] (Wd g) Q = Q (some (.int (bI (busyS (g.1 j) c m)))) (Wd g) := by
  obtain ⟨-, -, ⟨-, hg⟩, -, -, ⟨-, hc2⟩⟩ := hn
  obtain ⟨⟨f1, f2⟩, f3, -, -⟩ := hf c hc
  have b1 := fun Q => s_isBusy (sc := sc) (g := g) (Q := Q) (x := fG (g.1 j) c) (pt := fact (g.1 j) c 2) hj (by omega) hm
  have e1 := fun Q => s_fact0 (sc := sc) (g := g) (Q := Q) hj (show c < 20 by omega)
  rw [f1] at e1
  unfold busyS
  rcases f3 with f3 | ⟨f3, f4, f5⟩
  · simp only [↓en47, ↓u47_0, ↓u47_1, ↓u47_2, ↓u47_3, ↓u47_6, ↓u47_7, ↓u47_8, ↓u47_9, ↓u47_10, ↓u47_11, ↓u47_14, ↓u47_15, ↓u47_16, ↓u47_17, ↓u47_20, ↓u47_21, ↓u47_24, ↓u47_43, ↓u47_27, ↓u47_44, ↓u47_28, ↓u47_48, ↓u47_30, ↓u47_47, ↓u47_33, ↓u47_34, ↓u47_35, ↓u47_36, ↓u47_37, ↓u47_40, ↓s_o hj, ↓e1, ↓s_fact1 hj (show c < 20 by omega), ↓s_fact2 hj (show c < 20 by omega), ↓c_v_some, ↓b1, f3, if_true, ↓c_b_0, ↓c_b_1]
    cases busS (g.1 j) (fG (g.1 j) c) (fact (g.1 j) c 2) m <;> simp [bI]
  · have b2 := fun Q => s_isBusy (sc := sc) (g := g) (Q := Q) (x := fJ (g.1 j) c) (pt := 0) hj (by omega) hm
    have e2 := fun Q => s_fact1 (sc := sc) (g := g) (Q := Q) hj (show c < 20 by omega)
    have e3 : ¬ nI (fJ (g.1 j) c) = -5 := nI_n5 (by omega)
    rw [f3] at e2
    simp only [↓en47, ↓u47_0, ↓u47_1, ↓u47_2, ↓u47_3, ↓u47_6, ↓u47_7, ↓u47_8, ↓u47_9, ↓u47_10, ↓u47_11, ↓u47_14, ↓u47_15, ↓u47_16, ↓u47_17, ↓u47_20, ↓u47_21, ↓u47_24, ↓u47_43, ↓u47_27, ↓u47_44, ↓u47_28, ↓u47_48, ↓u47_30, ↓u47_47, ↓u47_33, ↓u47_34, ↓u47_35, ↓u47_36, ↓u47_37, ↓u47_40, ↓s_o hj, ↓e1, ↓e2, ↓s_fact2 hj (show c < 20 by omega), ↓c_v_some, ↓b1, ↓b2, f3, e3, if_false, ↓c_b_0, ↓c_b_1]
    cases busS (g.1 j) (fG (g.1 j) c) (fact (g.1 j) c 2) m <;> cases busS (g.1 j) (fJ (g.1 j) c) 0 m <;> simp [bI]
theorem s_reasonOfSlot (hj : j < 7) (hn : okN (g.1 j)) (hf : okF (g.1 j)) {c m : Nat} (hc : c < nC (g.1 j)) (hm : m < slS (g.1 j)) : ev sc 45 [.ref (bs j), .int (nI c), .int (nI m)] (Wd g) Q = Q (some (.int (reaS (g.1 j) c m))) (Wd g) := by
  have hdp := (nDP hn).1
  have hm6 : m < 64 := by unfold slS at hm; omega
  have hbg := fun Q => s_hasBusyGroup (sc := sc) (Q := Q) hj hn hf hc hm6
  have hfd := fun Q => s_first (sc := sc) (Q := Q) hj hn hm6
  obtain ⟨-, ⟨h1, h2, h3⟩, -, ⟨-, ht2⟩, -, ⟨-, hc2⟩⟩ := hn
  obtain ⟨-, -, -, f1, f2⟩ := hf c hc
  have hc3 : c < 20 := by omega
  have hfm : m / nP (g.1 j) * nP (g.1 j) < 64 := Nat.lt_of_le_of_lt (Nat.div_mul_le_self _ _) hm6
  have w1 : ∀ Q, ev sc 7 [.ref (bs j + 13), .int (nI c), .int (nI (m / nP (g.1 j) * nP (g.1 j))), .int (nI (nP (g.1 j)))] (Wd g) Q = Q (some (.int (nI (ct (fun k => hC (g.1 j) c (m / nP (g.1 j) * nP (g.1 j) + k)) (nP (g.1 j)))))) (Wd g) := fun Q => s_within (jo3 hj) (jj3 hj) hc3 (by decide) hfm (by omega)
  have w2 : ∀ Q, ev sc 7 [.ref (bs j + 15), .int (nI (fT (g.1 j) c)), .int (nI (m / nP (g.1 j) * nP (g.1 j))), .int (nI (nP (g.1 j)))] (Wd g) Q = Q (some (.int (nI (ct (fun k => hT (g.1 j) (fT (g.1 j) c) (m / nP (g.1 j) * nP (g.1 j) + k)) (nP (g.1 j)))))) (Wd g) := fun Q => s_within (jo4 hj) (jj4 hj) (show fT (g.1 j) c < 8 by omega) (by decide) hfm (by omega)
  have e1 := fun Q => s_fact3 (sc := sc) (g := g) (Q := Q) hj hc3
  rw [f1] at e1
  have t1 : ∀ Q, ev sc 1 [.ref (bs j + 1), .int (nI (fT (g.1 j) c)), .int 1] (Wd g) Q = Q (some (.int (tf (g.1 j) (fT (g.1 j) c) 1))) (Wd g) := fun Q => by
    have := s_nget (sc := sc) (w := Wd g) (Q := Q) (wd := 2) (i := fT (g.1 j) c) (k := 1) (no0 hj) (ni0 hj) (by decide) (by decide) (by decide) (by omega)
    rwa [if_pos (by omega)] at this
  have t0 : ∀ Q, ev sc 1 [.ref (bs j + 1), .int (nI (fT (g.1 j) c)), .int 0] (Wd g) Q = Q (some (.int (tf (g.1 j) (fT (g.1 j) c) 0))) (Wd g) := fun Q => by
    have := s_nget (sc := sc) (w := Wd g) (Q := Q) (wd := 2) (i := fT (g.1 j) c) (k := 0) (no0 hj) (ni0 hj) (by decide) (by decide) (by decide) (by omega)
    rwa [if_pos (by omega)] at this
  have z1 : ∀ Q, ev sc 6 [.ref (bs j + 15), .int (nI (fT (g.1 j) c))] (Wd g) Q = Q (some (.int (nI (pcn ((g.1 j).2.2 4 (fT (g.1 j) c)))))) (Wd g) := fun Q => s_size (jo4 hj) (jj4 hj) (by omega) (by decide)
  simp only [↓en45, ↓u45_0, ↓u45_1, ↓u45_2, ↓u45_3, ↓u45_6, ↓u45_7, ↓u45_8, ↓u45_9, ↓u45_12, ↓u45_14, ↓u45_15, ↓u45_16, ↓u45_19, ↓u45_20, ↓u45_21, ↓u45_22, ↓u45_25, ↓u45_30, ↓u45_28, ↓u45_31, ↓u45_29, ↓u45_34, ↓u45_35, ↓u45_37, ↓u45_38, ↓u45_41, ↓u45_44, ↓u45_45, ↓u45_50, ↓u45_48, ↓u45_51, ↓u45_49, ↓u45_54, ↓u45_55, ↓u45_56, ↓u45_59, ↓u45_64, ↓u45_62, ↓u45_65, ↓u45_63, ↓u45_68, ↓u45_69, ↓u45_70, ↓u45_73, ↓u45_78, ↓u45_76, ↓u45_79, ↓u45_77, ↓u45_82, ↓u45_83, ↓u45_85, ↓u45_86, ↓u45_89, ↓u45_92, ↓u45_93, ↓u45_96, ↓u45_97, ↓u45_98, ↓u45_101, ↓u45_106, ↓u45_104, ↓u45_107, ↓u45_105, ↓u45_110, ↓u45_111, ↓u45_114, ↓u45_115, ↓u45_118, ↓u45_119, ↓u45_120, ↓u45_123, ↓u45_129, ↓u45_126, ↓u45_130, ↓u45_128, ↓u45_131, ↓u45_132, ↓u45_135, ↓u45_143, ↓u45_138, ↓u45_144, ↓u45_140, ↓s_o hj, ↓e1, ↓s_fact5 hj hc3, ↓s_placed hj hc3, ↓hfd, ↓hbg, ↓c_v_some, ↓w1, ↓w2, ↓t0, ↓t1, ↓z1, ↓sf1 hj, ↓sf6 hj, ↓sf10 hj, ↓sf12 hj, ↓sf13 hj, h1, ↓j_o1 hj, ↓j_o3 hj, ↓j_o4 hj, ↓n_o0 hj, ↓s_hasB hj (show fT (g.1 j) c < 8 by omega) hm6, ↓s_hasT hj (show fT (g.1 j) c < 8 by omega) hm6]
  unfold reaS
  cases hB (g.1 j) (fT (g.1 j) c) m <;> cases hT (g.1 j) (fT (g.1 j) c) m <;> cases busyS (g.1 j) c m <;> simp only [bI_t, bI_f, n10, n00, if_true, if_false, Bool.false_eq_true] <;> repeat' (first | rfl | split)
theorem s_nre (hj : j < 7) {r : Nat} (hr : r < 6) : ev sc 1 [.ref (bs j + 3), .int (nI r), .int 0] (Wd g) Q = Q (some (.int (re (g.1 j) r))) (Wd g) := by
  have := s_nget (sc := sc) (w := Wd g) (Q := Q) (wd := 1) (i := r) (k := 0) (no1 hj) (ni1 hj) (by decide) (by decide) (by decide) (by omega)
  rw [if_pos (by omega), show r * 1 + 0 = r by omega] at this
  exact this
theorem s_reasonOfRoom (hj : j < 7) {c m r : Nat} (hc : c < 20) (hm : m < 64) (hr : r < 6) : ev sc 46 [.ref (bs j), .int (nI c), .int (nI m), .int (nI r)] (Wd g) Q = Q (some (.int (rooS (g.1 j) c m r))) (Wd g) := by
  simp only [↓en46, ↓u46_0, ↓u46_1, ↓u46_4, ↓u46_5, ↓u46_6, ↓u46_9, ↓u46_15, ↓u46_12, ↓u46_16, ↓u46_14, ↓u46_17, ↓u46_18, ↓u46_21, ↓u46_22, ↓u46_25, ↓u46_26, ↓u46_27, ↓u46_30, ↓u46_31, ↓u46_32, ↓u46_33, ↓u46_35, ↓u46_37, ↓u46_45, ↓u46_40, ↓u46_46, ↓u46_42, ↓s_o hj, ↓s_fact4 hj hc, ↓c_v_some, ↓sf7 hj, ↓sf14 hj, ↓j_o5 hj, ↓n_o1 hj, ↓s_hasR hj hr hm, ↓s_nre hj hr]
  unfold rooS
  cases hR (g.1 j) r m <;> simp only [bI_t, bI_f, n10, n00, if_true, if_false, Bool.false_eq_true] <;> repeat' (first | rfl | split)
theorem s_firstReason (hj : j < 7) (hn : okN (g.1 j)) (hf : okF (g.1 j)) {c m r : Nat} (hc : c < nC (g.1 j)) (hm : m < slS (g.1 j)) (hr : r < 6) : ev sc 44 [.ref (bs j), .int (nI c), .int (nI m), .int (nI r)] (Wd g) Q = Q (some (.int (fstS (g.1 j) c m r))) (Wd g) := by
  have hdp := (nDP hn).1
  have hm6 : m < 64 := by unfold slS at hm; omega
  have hc3 : c < 20 := by have := hn.2.2.2.2.2.2; omega
  simp only [↓en44, ↓u44_0, ↓u44_1, ↓u44_2, ↓u44_3, ↓u44_6, ↓u44_8, ↓u44_10, ↓u44_18, ↓u44_13, ↓u44_19, ↓u44_15, ↓u44_20, ↓u44_25, ↓u44_21, ↓u44_22, ↓s_o hj, ↓s_reasonOfSlot hj hn hf hc hm, ↓c_v_some, ↓s_reasonOfRoom hj hc3 hm6 hr]
  unfold fstS
  split <;> rfl
/-- the error that placing a lesson has, as the class asks it -/
def errS (s : SV) (v m r : Int32) : Int32 := if ii v 0 (s.1 5 - 1) = 0 then -1 else if ii m 0 (s.1 0 * s.1 1 - 1) = 0 then -1 else if ii r 0 (s.1 4 - 1) = 0 then -1 else if fstS s v.toNatClampNeg m.toNatClampNeg r.toNatClampNeg = 0 then 0 else -4
theorem s_errorOfPlacing (hj : j < 7) (hn : okN (g.1 j)) (hf : okF (g.1 j)) {v m r : Int32} : ev sc 43 [.ref (bs j), .int v, .int m, .int r] (Wd g) Q = Q (some (.int (errS (g.1 j) v m r))) (Wd g) := by
  have hsl := nP_slots hn
  have hdp := (nDP hn).1
  have hRn := hn.2.2.2.2.1
  have hCn := hn.2.2.2.2.2
  simp only [↓en43, ↓u43_0, ↓u43_1, ↓u43_2, ↓u43_5, ↓u43_24, ↓u43_8, ↓u43_25, ↓u43_9, ↓u43_10, ↓u43_13, ↓u43_16, ↓u43_17, ↓u43_18, ↓u43_21, ↓u43_26, ↓u43_27, ↓u43_28, ↓u43_29, ↓u43_30, ↓u43_33, ↓u43_41, ↓u43_36, ↓u43_42, ↓u43_38, ↓s_o hj, ↓s_knowsCourse hj, ↓s_knowsSlot hj, ↓s_knowsRoom hj, ↓c_v_some]
  unfold errS
  rw [hsl, hRn.1, hCn.1]
  rcases ii_cases (v := v) (n := nC (g.1 j)) (by omega) with ⟨c, c1, rfl, c2⟩ | ⟨-, c2⟩
  · rcases ii_cases (v := m) (n := nD (g.1 j) * nP (g.1 j)) (by omega) with ⟨q, q1, rfl, q2⟩ | ⟨-, q2⟩
    · rcases ii_cases (v := r) (n := nR (g.1 j)) (by omega) with ⟨o, o1, rfl, o2⟩ | ⟨-, o2⟩
      · simp only [↓u43_0, ↓u43_1, ↓u43_2, ↓u43_5, ↓u43_24, ↓u43_8, ↓u43_25, ↓u43_9, ↓u43_10, ↓u43_13, ↓u43_16, ↓u43_17, ↓u43_18, ↓u43_21, ↓u43_26, ↓u43_27, ↓u43_28, ↓u43_29, ↓u43_30, ↓u43_33, ↓u43_41, ↓u43_36, ↓u43_42, ↓u43_38, c2, q2, o2, n10, if_false, ↓s_firstReason hj hn hf c1 q1 (show o < 6 by omega), ↓c_v_some, nI_clamp (show c < 2 ^ 31 by omega), nI_clamp (show q < 2 ^ 31 by omega), nI_clamp (show o < 2 ^ 31 by omega)]
        split <;> rfl
      · simp only [c2, q2, o2, n10, n00, if_false, if_true]
    · simp only [c2, q2, n10, n00, if_false, if_true]
  · simp only [c2, n00, if_true]
theorem s_knowsLesson (hj : j < 7) (hn : okN (g.1 j)) {v m : Int32} : ev sc 30 [.ref (bs j), .int v, .int m] (Wd g) Q = Q (some (.int (klS (g.1 j) v m))) (Wd g) := by
  have hsl := nP_slots hn
  have hdp := (nDP hn).1
  have hCn := hn.2.2.2.2.2
  simp only [↓en30, ↓u30_0, ↓u30_1, ↓u30_2, ↓u30_5, ↓u30_32, ↓u30_8, ↓u30_33, ↓u30_9, ↓u30_10, ↓u30_13, ↓u30_16, ↓u30_17, ↓u30_20, ↓u30_21, ↓u30_22, ↓u30_25, ↓u30_28, ↓u30_29, ↓s_o hj, ↓s_knowsCourse hj, ↓s_knowsSlot hj, ↓sf12 hj, ↓j_o3 hj, ↓c_v_some]
  unfold klS
  rw [hsl, hCn.1]
  rcases ii_cases (v := v) (n := nC (g.1 j)) (by omega) with ⟨c, c1, rfl, c2⟩ | ⟨-, c2⟩
  · rcases ii_cases (v := m) (n := nD (g.1 j) * nP (g.1 j)) (by omega) with ⟨q, q1, rfl, q2⟩ | ⟨-, q2⟩
    · simp only [↓u30_0, ↓u30_1, ↓u30_2, ↓u30_5, ↓u30_32, ↓u30_8, ↓u30_33, ↓u30_9, ↓u30_10, ↓u30_13, ↓u30_16, ↓u30_17, ↓u30_20, ↓u30_21, ↓u30_22, ↓u30_25, ↓u30_28, ↓u30_29, c2, q2, n10, if_false, ↓s_hasC hj (show c < 20 by omega) (show q < 64 by omega), ↓c_v_some, nI_clamp (show c < 2 ^ 31 by omega), nI_clamp (show q < 2 ^ 31 by omega)]
      cases hC (g.1 j) c q <;> simp only [↓u30_0, ↓u30_1, ↓u30_2, ↓u30_5, ↓u30_32, ↓u30_8, ↓u30_33, ↓u30_9, ↓u30_10, ↓u30_13, ↓u30_16, ↓u30_17, ↓u30_20, ↓u30_21, ↓u30_22, ↓u30_25, ↓u30_28, ↓u30_29, bI_t, bI_f, n10, n00, if_true, if_false, ↓c_b_0, ↓c_b_1]
    · simp only [c2, q2, n10, n00, if_false, if_true, ↓c_b_0]
  · simp only [c2, n00, if_true, ↓c_b_0]
theorem s_lowestFreeRoom_l (hj : j < 7) (hn : okN (g.1 j)) {c m : Nat} (hc : c < 20) (hm : m < 64) : ∀ (d i : Nat), i + d = nR (g.1 j) → rv sc 49 14 [(0, .ref (bs j)), (1, .int (nI c)), (2, .int (nI m)), (3, .int (nI i))] [] (Wd g) Q = Q (some (.int (match (List.range' i d).find? (fun r => decide (rooS (g.1 j) c m r = 0)) with | some r => nI r | none => -5))) (Wd g) := by
  obtain ⟨-, -, -, -, ⟨h1, h2⟩, -⟩ := hn
  intro d
  induction d with
  | zero =>
    intro i hi
    have h5 : nI (nR (g.1 j)) ≤ nI i := nI_le (by omega) (by omega)
    rw [u49_14]
    simp only [↓u49_0, ↓u49_1, ↓u49_2, ↓u49_3, ↓u49_6, ↓u49_12, ↓u49_9, ↓u49_13, ↓u49_11, ↓u49_15, ↓u49_16, ↓u49_19, ↓u49_40, ↓u49_22, ↓u49_42, ↓u49_23, ↓u49_24, ↓u49_25, ↓u49_26, ↓u49_29, ↓u49_34, ↓u49_32, ↓u49_37, ↓u49_33, ↓sf4 hj, h1, h5, if_true, if_false]
    rfl
  | succ d ih =>
    intro i hi
    have h5 : ¬ nI (nR (g.1 j)) ≤ nI i := nI_ge (by omega) (by omega)
    have hx := fun Q => s_reasonOfRoom (sc := sc) (g := g) (Q := Q) hj hc hm (show i < 6 by omega)
    have ih1 := ih (i + 1) (by omega)
    rw [u49_14]
    simp only [↓u49_0, ↓u49_1, ↓u49_2, ↓u49_3, ↓u49_6, ↓u49_12, ↓u49_9, ↓u49_13, ↓u49_11, ↓u49_15, ↓u49_16, ↓u49_19, ↓u49_40, ↓u49_22, ↓u49_42, ↓u49_23, ↓u49_24, ↓u49_25, ↓u49_26, ↓u49_29, ↓u49_34, ↓u49_32, ↓u49_37, ↓u49_33, ↓sf4 hj, h1, h5, if_true, if_false, ↓s_o hj, ↓hx, ↓c_v_some, List.range'_succ, List.find?_cons, nI_1, ih1]
    by_cases e : rooS (g.1 j) c m i = 0 <;> simp only [e, decide_true, decide_false, if_true, if_false]
def lowS (s : SV) (c m : Nat) : Int32 := if reaS s c m = 0 then (match (List.range' 0 (nR s)).find? (fun r => decide (rooS s c m r = 0)) with | some r => nI r | none => -5) else -5
theorem s_lowestFreeRoom (hj : j < 7) (hn : okN (g.1 j)) (hf : okF (g.1 j)) {c m : Nat} (hc : c < nC (g.1 j)) (hm : m < slS (g.1 j)) : ev sc 49 [.ref (bs j), .int (nI c), .int (nI m)] (Wd g) Q = Q (some (.int (lowS (g.1 j) c m))) (Wd g) := by
  have hdp := (nDP hn).1
  have hm6 : m < 64 := by unfold slS at hm; omega
  have hc3 : c < 20 := by have := hn.2.2.2.2.2.2; omega
  have hl := s_lowestFreeRoom_l (sc := sc) (Q := Q) hj hn hc3 hm6 (nR (g.1 j)) 0 (by omega)
  simp only [↓en49, ↓u49_0, ↓u49_1, ↓u49_2, ↓u49_3, ↓u49_6, ↓u49_12, ↓u49_9, ↓u49_13, ↓u49_11, ↓u49_15, ↓u49_16, ↓u49_19, ↓u49_40, ↓u49_22, ↓u49_42, ↓u49_23, ↓u49_24, ↓u49_25, ↓u49_26, ↓u49_29, ↓u49_34, ↓u49_32, ↓u49_37, ↓u49_33, ↓s_o hj, ↓s_reasonOfSlot hj hn hf hc hm, ↓c_v_some]
  unfold lowS
  split
  · exact hl
  · rfl
theorem s_freeRooms_l (hj : j < 7) (hn : okN (g.1 j)) {c m : Nat} (hc : c < 20) (hm : m < 64) : ∀ (d i : Nat), i + d = nR (g.1 j) → rv sc 51 5 [(0, .ref (bs j)), (1, .int (nI c)), (2, .int (nI m)), (3, .int (nI (ct (fun r => decide (rooS (g.1 j) c m r = 0)) i))), (4, .int (nI i))] [] (Wd g) Q = Q (some (.int (nI (ct (fun r => decide (rooS (g.1 j) c m r = 0)) (nR (g.1 j)))))) (Wd g) := by
  obtain ⟨-, -, -, -, ⟨h1, h2⟩, -⟩ := hn
  intro d
  induction d with
  | zero =>
    intro i hi
    have h5 : nI (nR (g.1 j)) ≤ nI i := nI_le (by omega) (by omega)
    rw [u51_5]
    simp only [↓u51_0, ↓u51_1, ↓u51_2, ↓u51_3, ↓u51_7, ↓u51_8, ↓u51_11, ↓u51_34, ↓u51_14, ↓u51_35, ↓u51_15, ↓u51_16, ↓u51_17, ↓u51_19, ↓u51_22, ↓u51_28, ↓u51_25, ↓u51_31, ↓sf4 hj, h1, h5, if_true, if_false]
    rw [show i = nR (g.1 j) by omega]
  | succ d ih =>
    intro i hi
    have h5 : ¬ nI (nR (g.1 j)) ≤ nI i := nI_ge (by omega) (by omega)
    have hx := fun Q => s_reasonOfRoom (sc := sc) (g := g) (Q := Q) hj hc hm (show i < 6 by omega)
    have ih1 := ih (i + 1) (by omega)
    rw [u51_5]
    simp only [↓u51_0, ↓u51_1, ↓u51_2, ↓u51_3, ↓u51_7, ↓u51_8, ↓u51_11, ↓u51_34, ↓u51_14, ↓u51_35, ↓u51_15, ↓u51_16, ↓u51_17, ↓u51_19, ↓u51_22, ↓u51_28, ↓u51_25, ↓u51_31, ↓sf4 hj, h1, h5, if_true, if_false, ↓s_o hj, ↓hx, ↓c_v_some, nI_1]
    by_cases e : rooS (g.1 j) c m i = 0
    · simp only [ct, e, decide_true, if_true] at ih1 ⊢
      exact ih1
    · simp only [ct, e, decide_false, if_false, Bool.false_eq_true, Nat.add_zero] at ih1 ⊢
      exact ih1
theorem s_freeRooms (hj : j < 7) (hn : okN (g.1 j)) {c m : Nat} (hc : c < 20) (hm : m < 64) : ev sc 51 [.ref (bs j), .int (nI c), .int (nI m)] (Wd g) Q = Q (some (.int (nI (ct (fun r => decide (rooS (g.1 j) c m r = 0)) (nR (g.1 j)))))) (Wd g) := by
  simp only [↓en51, ↓u51_0, ↓u51_1, ↓u51_2, ↓u51_3, ↓u51_7, ↓u51_8, ↓u51_11, ↓u51_34, ↓u51_14, ↓u51_35, ↓u51_15, ↓u51_16, ↓u51_17, ↓u51_19, ↓u51_22, ↓u51_28, ↓u51_25, ↓u51_31]
  exact s_freeRooms_l hj hn hc hm (nR (g.1 j)) 0 (by omega)
def freeS (s : SV) (c m : Nat) : Nat := if reaS s c m = 0 then ct (fun r => decide (rooS s c m r = 0)) (nR s) else 0
theorem s_freePlaces_l (hj : j < 7) (hn : okN (g.1 j)) (hf : okF (g.1 j)) {c : Nat} (hc : c < nC (g.1 j)) : ∀ (d i : Nat), i + d = slS (g.1 j) → rv sc 50 4 [(0, .ref (bs j)), (1, .int (nI c)), (2, .int (nI (sm (freeS (g.1 j) c) i))), (3, .int (nI i))] [] (Wd g) Q = Q (some (.int (nI (sm (freeS (g.1 j) c) (slS (g.1 j)))))) (Wd g) := by
  have hsl : (g.1 j).1 0 * (g.1 j).1 1 = nI (slS (g.1 j)) := nP_slots hn
  have hdp : slS (g.1 j) ≤ 48 := (nDP hn).1
  have hc3 : c < 20 := by have := hn.2.2.2.2.2.2; omega
  intro d
  induction d with
  | zero =>
    intro i hi
    have h5 : nI (slS (g.1 j)) ≤ nI i := nI_le (by omega) (by omega)
    rw [u50_4]
    simp only [↓u50_0, ↓u50_1, ↓u50_2, ↓u50_3, ↓u50_5, ↓u50_6, ↓u50_9, ↓u50_36, ↓u50_12, ↓u50_37, ↓u50_13, ↓u50_14, ↓u50_15, ↓u50_18, ↓u50_30, ↓u50_21, ↓u50_33, ↓u50_22, ↓u50_23, ↓u50_24, ↓u50_25, ↓u50_28, ↓u50_29, ↓s_o hj, ↓s_slots hj, ↓c_v_some, hsl, h5, if_true, if_false]
    rw [show i = slS (g.1 j) by omega]
  | succ d ih =>
    intro i hi
    have h5 : ¬ nI (slS (g.1 j)) ≤ nI i := nI_ge (by omega) (by omega)
    have hx := fun Q => s_reasonOfSlot (sc := sc) (g := g) (Q := Q) hj hn hf hc (show i < slS (g.1 j) by omega)
    have hy := fun Q => s_freeRooms (sc := sc) (g := g) (Q := Q) hj hn hc3 (show i < 64 by omega)
    have ih1 := ih (i + 1) (by omega)
    rw [u50_4]
    simp only [↓u50_0, ↓u50_1, ↓u50_2, ↓u50_3, ↓u50_5, ↓u50_6, ↓u50_9, ↓u50_36, ↓u50_12, ↓u50_37, ↓u50_13, ↓u50_14, ↓u50_15, ↓u50_18, ↓u50_30, ↓u50_21, ↓u50_33, ↓u50_22, ↓u50_23, ↓u50_24, ↓u50_25, ↓u50_28, ↓u50_29, ↓s_o hj, ↓s_slots hj, hsl, h5, if_true, if_false, ↓hx, ↓hy, ↓c_v_some, nI_1, nI_add]
    by_cases e : reaS (g.1 j) c i = 0
    · simp only [sm, freeS, e, if_true] at ih1 ⊢
      exact ih1
    · simp only [sm, freeS, e, if_false, Nat.add_zero] at ih1 ⊢
      exact ih1
theorem s_freePlaces (hj : j < 7) (hn : okN (g.1 j)) (hf : okF (g.1 j)) {c : Nat} (hc : c < nC (g.1 j)) : ev sc 50 [.ref (bs j), .int (nI c)] (Wd g) Q = Q (some (.int (nI (sm (freeS (g.1 j) c) (slS (g.1 j)))))) (Wd g) := by
  simp only [↓en50, ↓u50_0, ↓u50_1, ↓u50_2, ↓u50_3, ↓u50_5, ↓u50_6, ↓u50_9, ↓u50_36, ↓u50_12, ↓u50_37, ↓u50_13, ↓u50_14, ↓u50_15, ↓u50_18, ↓u50_30, ↓u50_21, ↓u50_33, ↓u50_22, ↓u50_23, ↓u50_24, ↓u50_25, ↓u50_28, ↓u50_29]
  exact s_freePlaces_l hj hn hf hc (slS (g.1 j)) 0 (by omega)
end
