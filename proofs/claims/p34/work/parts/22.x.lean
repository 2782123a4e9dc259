def nD (s : SV) : Nat := (s.1 0).toNatClampNeg
def nP (s : SV) : Nat := (s.1 1).toNatClampNeg
def nG (s : SV) : Nat := (s.1 2).toNatClampNeg
def nT (s : SV) : Nat := (s.1 3).toNatClampNeg
def nR (s : SV) : Nat := (s.1 4).toNatClampNeg
def nC (s : SV) : Nat := (s.1 5).toNatClampNeg
def fact (s : SV) (c k : Nat) : Int32 := s.2.1 2 (c * 6 + k)
def fG (s : SV) (c : Nat) : Nat := (fact s c 0).toNatClampNeg
def fJ (s : SV) (c : Nat) : Nat := (fact s c 1).toNatClampNeg
def fP (s : SV) (c : Nat) : Nat := (fact s c 2).toNatClampNeg
def fT (s : SV) (c : Nat) : Nat := (fact s c 3).toNatClampNeg
def tf (s : SV) (t k : Nat) : Int32 := s.2.1 0 (t * 2 + k)
def re (s : SV) (r : Nat) : Int32 := s.2.1 1 r
def hol (s : SV) (d : Nat) : Bool := bt6 (s.2.2 0 (d / 64)) (d % 64)
def hB (s : SV) (t m : Nat) : Bool := bt6 (s.2.2 1 t) m
def hX (s : SV) (c r m : Nat) : Bool := bt6 (s.2.2 2 (c * 6 + r)) m
def hC (s : SV) (c m : Nat) : Bool := bt6 (s.2.2 3 c) m
def hT (s : SV) (t m : Nat) : Bool := bt6 (s.2.2 4 t) m
def hR (s : SV) (r m : Nat) : Bool := bt6 (s.2.2 5 r) m
def hH (s : SV) (k m : Nat) : Bool := bt6 (s.2.2 6 k) m
/-- the numbers of a state are in their ranges -/
def okN (s : SV) : Prop := (s.1 0 = nI (nD s) ∧ 2 ≤ nD s ∧ nD s ≤ 8) ∧ (s.1 1 = nI (nP s) ∧ 2 ≤ nP s ∧ nP s ≤ 6) ∧ (s.1 2 = nI (nG s) ∧ nG s ≤ 8) ∧ (s.1 3 = nI (nT s) ∧ nT s ≤ 8) ∧ (s.1 4 = nI (nR s) ∧ nR s ≤ 6) ∧ (s.1 5 = nI (nC s) ∧ nC s ≤ 20)
/-- the facts of its courses are -/
def okF (s : SV) : Prop := ∀ c, c < nC s → (fact s c 0 = nI (fG s c) ∧ fG s c < nG s) ∧ (fact s c 1 = -5 ∨ (fact s c 1 = nI (fJ s c) ∧ fJ s c < nG s ∧ fact s c 2 = 0)) ∧ (fact s c 2 = nI (fP s c) ∧ fP s c ≤ 2) ∧ (fact s c 3 = nI (fT s c) ∧ fT s c < nT s)
def bI (b : Bool) : Int32 := if b = true then 1 else 0
theorem bI_t : bI true = 1 := rfl
theorem bI_f : bI false = 0 := rfl
theorem bI_if {b : Bool} : (if b = true then (1 : Int32) else 0) = bI b := rfl
theorem cb_bI {b : Bool} {P : Prop} : c_b (bI b) P = P := c_b_if
theorem bI_0 {b : Bool} : (bI b = 0) = (b = false) := by cases b <;> simp [bI]
section
variable {sc : Nat × (Nat → Int32)} {g : SG} {j : Nat} {Q : Option Value → ri_W → Prop}
theorem nP_slots {s : SV} (h : okN s) : s.1 0 * s.1 1 = nI (nD s * nP s) := by
  obtain ⟨⟨h1, -⟩, ⟨h2, -⟩, -⟩ := h
  rw [h1, h2, pk_mul]
theorem nDP {s : SV} (h : okN s) : nD s * nP s ≤ 48 ∧ 4 ≤ nD s * nP s := by
  obtain ⟨⟨-, h1, h2⟩, ⟨-, h3, h4⟩, -⟩ := h
  exact ⟨Nat.mul_le_mul h2 h4, Nat.mul_le_mul h1 h3⟩
theorem s_slots (hj : j < 7) : ev sc 15 [.ref (bs j)] (Wd g) Q = Q (some (.int ((g.1 j).1 0 * (g.1 j).1 1))) (Wd g) := by
  simp only [↓en15, ↓u15_0, ↓u15_1, ↓u15_4, ↓u15_5, ↓u15_8, ↓u15_9, ↓sf0 hj, ↓sf1 hj]
theorem s_knowsSlot (hj : j < 7) {v : Int32} : ev sc 16 [.ref (bs j), .int v] (Wd g) Q = Q (some (.int (ii v 0 ((g.1 j).1 0 * (g.1 j).1 1 - 1)))) (Wd g) := by
  simp only [↓en16, ↓u16_0, ↓u16_1, ↓u16_2, ↓u16_3, ↓u16_6, ↓u16_7, ↓u16_8, ↓u16_11, ↓s_o hj, ↓s_slots hj, ↓c_v_some, ↓s_isIn]
  unfold ii
  split
  · exact c_b_0
  · split
    · exact c_b_0
    · exact c_b_1
theorem cb_ii {v a b : Int32} {P : Prop} : c_b (ii v a b) P = P := by
  unfold ii
  split
  · exact c_b_0
  · split
    · exact c_b_0
    · exact c_b_1
theorem s_knowsCourse (hj : j < 7) {v : Int32} : ev sc 23 [.ref (bs j), .int v] (Wd g) Q = Q (some (.int (ii v 0 ((g.1 j).1 5 - 1)))) (Wd g) := by
  simp only [↓en23, ↓u23_0, ↓u23_1, ↓u23_2, ↓u23_3, ↓u23_6, ↓u23_7, ↓u23_8, ↓u23_11, ↓sf5 hj, ↓c_v_some, ↓s_isIn, cb_ii]
theorem s_knowsRoom (hj : j < 7) {v : Int32} : ev sc 24 [.ref (bs j), .int v] (Wd g) Q = Q (some (.int (ii v 0 ((g.1 j).1 4 - 1)))) (Wd g) := by
  simp only [↓en24, ↓u24_0, ↓u24_1, ↓u24_2, ↓u24_3, ↓u24_6, ↓u24_7, ↓u24_8, ↓u24_11, ↓sf4 hj, ↓c_v_some, ↓s_isIn, cb_ii]
theorem s_first (hj : j < 7) (hn : okN (g.1 j)) {m : Nat} (hm : m < 64) : ev sc 17 [.ref (bs j), .int (nI m)] (Wd g) Q = Q (some (.int (nI (m / nP (g.1 j) * nP (g.1 j))))) (Wd g) := by
  obtain ⟨-, ⟨h1, h2, h3⟩, -⟩ := hn
  have h4 : ¬ nI (nP (g.1 j)) ≤ 0 := nI_nle (by omega) (by omega)
  have h4' : (0 : Int32) < nI (nP (g.1 j)) := Int32.not_le.mp h4
  have h5 : ¬ nI (nP (g.1 j)) = 0 := nI_ne0 (by omega) (by omega)
  simp only [↓en17, ↓u17_0, ↓u17_1, ↓u17_4, ↓u17_11, ↓u17_7, ↓u17_12, ↓u17_8, ↓u17_13, ↓u17_22, ↓u17_16, ↓u17_17, ↓u17_18, ↓u17_21, ↓sf1 hj, h1, h4, h4', h5, if_true, if_false, pk_div (show m < 2 ^ 31 by omega) (show 0 < nP (g.1 j) by omega) (by omega), pk_mul]
theorem s_fact (hj : j < 7) {c k : Nat} (hc : c < 20) (hk : k < 6) : ev sc 25 [.ref (bs j), .int (nI c), .int (nI k)] (Wd g) Q = Q (some (.int (fact (g.1 j) c k))) (Wd g) := by
  have hg := fun Q => s_nget (sc := sc) (w := Wd g) (Q := Q) (wd := 6) (i := c) (k := k) (no2 hj) (ni2 hj) hk (by decide) (by decide) (by omega)
  have h1 : c * 6 + k < 120 := by omega
  simp only [↓en25, ↓u25_0, ↓u25_1, ↓u25_4, ↓u25_5, ↓u25_6, ↓u25_9, ↓sf8 hj, ↓n_o2 hj, ↓hg, ↓c_v_some, if_pos h1, fact]
theorem s_fact0 (hj : j < 7) {c : Nat} (hc : c < 20) : ev sc 25 [.ref (bs j), .int (nI c), .int 0] (Wd g) Q = Q (some (.int (fact (g.1 j) c 0))) (Wd g) := s_fact (k := 0) hj hc (by decide)
theorem s_fact1 (hj : j < 7) {c : Nat} (hc : c < 20) : ev sc 25 [.ref (bs j), .int (nI c), .int 1] (Wd g) Q = Q (some (.int (fact (g.1 j) c 1))) (Wd g) := s_fact (k := 1) hj hc (by decide)
theorem s_fact2 (hj : j < 7) {c : Nat} (hc : c < 20) : ev sc 25 [.ref (bs j), .int (nI c), .int 2] (Wd g) Q = Q (some (.int (fact (g.1 j) c 2))) (Wd g) := s_fact (k := 2) hj hc (by decide)
theorem s_fact3 (hj : j < 7) {c : Nat} (hc : c < 20) : ev sc 25 [.ref (bs j), .int (nI c), .int 3] (Wd g) Q = Q (some (.int (fact (g.1 j) c 3))) (Wd g) := s_fact (k := 3) hj hc (by decide)
theorem s_fact4 (hj : j < 7) {c : Nat} (hc : c < 20) : ev sc 25 [.ref (bs j), .int (nI c), .int 4] (Wd g) Q = Q (some (.int (fact (g.1 j) c 4))) (Wd g) := s_fact (k := 4) hj hc (by decide)
theorem s_fact5 (hj : j < 7) {c : Nat} (hc : c < 20) : ev sc 25 [.ref (bs j), .int (nI c), .int 5] (Wd g) Q = Q (some (.int (fact (g.1 j) c 5))) (Wd g) := s_fact (k := 5) hj hc (by decide)
/-- whether a part of a group takes part in a course, as the class asks it -/
def isForS (s : SV) (c : Nat) (gr pt : Int32) : Bool := decide (fact s c 1 = gr) || (decide (fact s c 0 = gr) && (decide (pt = 0) || decide (fact s c 2 = 0) || decide (fact s c 2 = pt)))
theorem s_isFor (hj : j < 7) {c : Nat} (hc : c < 20) {gr pt : Int32} : ev sc 26 [.ref (bs j), .int (nI c), .int gr, .int pt] (Wd g) Q = Q (some (.int (bI (isForS (g.1 j) c gr pt)))) (Wd g) := by
  simp only [↓en26, ↓u26_0, ↓u26_1, ↓u26_2, ↓u26_3, ↓u26_6, ↓u26_7, ↓u26_12, ↓u26_10, ↓u26_13, ↓u26_11, ↓u26_14, ↓u26_15, ↓u26_18, ↓u26_20, ↓u26_21, ↓u26_22, ↓u26_23, ↓u26_26, ↓u26_27, ↓u26_49, ↓u26_30, ↓u26_50, ↓u26_31, ↓u26_45, ↓u26_34, ↓u26_46, ↓u26_36, ↓u26_39, ↓u26_41, ↓u26_42, ↓s_o hj, ↓s_fact0 hj hc, ↓s_fact1 hj hc, ↓s_fact2 hj hc, ↓c_v_some, ↓c_b_0, ↓c_b_1]
  unfold isForS bI
  by_cases h1 : fact (g.1 j) c 1 = gr <;> by_cases h2 : fact (g.1 j) c 0 = gr <;> by_cases h3 : pt = 0 <;> by_cases h4 : fact (g.1 j) c 2 = 0 <;> by_cases h5 : fact (g.1 j) c 2 = pt <;> simp [h1, h2, h3, h4, h5]
theorem s_rowOfHalf {w : ri_W} {gr h : Nat} (hh : 1 ≤ h) : ev sc 27 [.int (nI gr), .int (nI h)] w Q = Q (some (.int (nI (gr * 2 + h - 1)))) w := by
  obtain ⟨d, rfl⟩ : ∃ d, h = d + 1 := ⟨h - 1, by omega⟩
  have e : nI gr * 2 + nI (d + 1) - 1 = nI (gr * 2 + (d + 1) - 1) := by
    rw [show (2 : Int32) = nI 2 from rfl, pk_mul, nI_add, show gr * 2 + (d + 1) = (gr * 2 + d) + 1 by omega, nI_pred]
    rfl
  simp only [↓en27, ↓u27_0, ↓u27_1, ↓u27_2, ↓u27_3, ↓u27_4, ↓u27_5, ↓u27_6, ↓u27_7, e]
theorem s_rowInRoom {w : ri_W} {c r : Nat} : ev sc 33 [.int (nI c), .int (nI r)] w Q = Q (some (.int (nI (c * 6 + r)))) w := by
  have e : nI c * 6 + nI r = nI (c * 6 + r) := by rw [show (6 : Int32) = nI 6 from rfl, pk_mul, nI_add]
  simp only [↓en33, ↓u33_0, ↓u33_1, ↓u33_3, ↓u33_4, ↓u33_5, ↓u33_6, e]
theorem s_isInRoom (hj : j < 7) {c r m : Nat} (hc : c < 20) (hr : r < 6) (hm : m < 64) : ev sc 34 [.ref (bs j), .int (nI c), .int (nI m), .int (nI r)] (Wd g) Q = Q (some (.int (bI (hX (g.1 j) c r m)))) (Wd g) := by
  have hh : ∀ Q, ev sc 5 [.ref (bs j + 11), .int (nI (c * 6 + r)), .int (nI m)] (Wd g) Q = Q (some (.int (bI (hX (g.1 j) c r m)))) (Wd g) := fun Q => s_has (sc := sc) (w := Wd g) (Q := Q) (i := c * 6 + r) (m := m) (jo2 hj) (jj2 hj) (by omega) (by decide) hm
  simp only [↓en34, ↓u34_0, ↓u34_1, ↓u34_4, ↓u34_5, ↓u34_6, ↓u34_9, ↓u34_10, ↓u34_13, ↓sf11 hj, ↓s_rowInRoom, ↓c_v_some, ↓j_o2 hj, ↓hh, cb_bI]
theorem s_hasC (hj : j < 7) {c m : Nat} (hc : c < 20) (hm : m < 64) : ev sc 5 [.ref (bs j + 13), .int (nI c), .int (nI m)] (Wd g) Q = Q (some (.int (bI (hC (g.1 j) c m)))) (Wd g) := s_has (jo3 hj) (jj3 hj) hc (by decide) hm
theorem s_hasB (hj : j < 7) {c m : Nat} (hc : c < 8) (hm : m < 64) : ev sc 5 [.ref (bs j + 9), .int (nI c), .int (nI m)] (Wd g) Q = Q (some (.int (bI (hB (g.1 j) c m)))) (Wd g) := s_has (jo1 hj) (jj1 hj) hc (by decide) hm
theorem s_hasT (hj : j < 7) {c m : Nat} (hc : c < 8) (hm : m < 64) : ev sc 5 [.ref (bs j + 15), .int (nI c), .int (nI m)] (Wd g) Q = Q (some (.int (bI (hT (g.1 j) c m)))) (Wd g) := s_has (jo4 hj) (jj4 hj) hc (by decide) hm
theorem s_hasR (hj : j < 7) {c m : Nat} (hc : c < 6) (hm : m < 64) : ev sc 5 [.ref (bs j + 17), .int (nI c), .int (nI m)] (Wd g) Q = Q (some (.int (bI (hR (g.1 j) c m)))) (Wd g) := s_has (jo5 hj) (jj5 hj) hc (by decide) hm
theorem s_hasH (hj : j < 7) {c m : Nat} (hc : c < 16) (hm : m < 64) : ev sc 5 [.ref (bs j + 19), .int (nI c), .int (nI m)] (Wd g) Q = Q (some (.int (bI (hH (g.1 j) c m)))) (Wd g) := s_has (jo6 hj) (jj6 hj) hc (by decide) hm
theorem s_roomOf_l (hj : j < 7) (hn : okN (g.1 j)) {c m : Nat} (hc : c < 20) (hm : m < 64) : ∀ (d i : Nat), i + d = nR (g.1 j) → rv sc 35 2 [(0, .ref (bs j)), (1, .int (nI c)), (2, .int (nI m)), (3, .int (nI i))] [] (Wd g) Q = Q (some (.int (match (List.range' i d).find? (fun r => hX (g.1 j) c r m) with | some r => nI r | none => -5))) (Wd g) := by
  obtain ⟨-, -, -, -, ⟨h1, h2⟩, -⟩ := hn
  intro d
  induction d with
  | zero =>
    intro i hi
    have h5 : nI (nR (g.1 j)) ≤ nI i := nI_le (by omega) (by omega)
    rw [u35_2]
    simp only [↓u35_0, ↓u35_1, ↓u35_3, ↓u35_4, ↓u35_7, ↓u35_28, ↓u35_10, ↓u35_30, ↓u35_11, ↓u35_12, ↓u35_13, ↓u35_14, ↓u35_17, ↓u35_22, ↓u35_20, ↓u35_25, ↓u35_21, ↓sf4 hj, h1, h5, if_true, if_false]
    rfl
  | succ d ih =>
    intro i hi
    have h5 : ¬ nI (nR (g.1 j)) ≤ nI i := nI_ge (by omega) (by omega)
    have hx := fun Q => s_isInRoom (sc := sc) (g := g) (Q := Q) hj hc (show i < 6 by omega) hm
    have ih1 := ih (i + 1) (by omega)
    rw [u35_2]
    simp only [↓u35_0, ↓u35_1, ↓u35_3, ↓u35_4, ↓u35_7, ↓u35_28, ↓u35_10, ↓u35_30, ↓u35_11, ↓u35_12, ↓u35_13, ↓u35_14, ↓u35_17, ↓u35_22, ↓u35_20, ↓u35_25, ↓u35_21, ↓sf4 hj, h1, h5, if_true, if_false, ↓s_o hj, ↓hx, ↓c_v_some, List.range'_succ, List.find?_cons, nI_1, ih1]
    cases hX (g.1 j) c i m <;> simp only [bI_t, bI_f, n10, n00, if_true, if_false]
/-- the room of a lesson, as the class finds it -/
def roomS (s : SV) (c m : Nat) : Int32 := match (List.range' 0 (nR s)).find? (fun r => hX s c r m) with
  | some r => nI r
  | none => -5
theorem s_roomOf (hj : j < 7) (hn : okN (g.1 j)) {c m : Nat} (hc : c < 20) (hm : m < 64) : ev sc 35 [.ref (bs j), .int (nI c), .int (nI m)] (Wd g) Q = Q (some (.int (roomS (g.1 j) c m))) (Wd g) := by
  simp only [↓en35, ↓u35_0, ↓u35_1, ↓u35_3, ↓u35_4, ↓u35_7, ↓u35_28, ↓u35_10, ↓u35_30, ↓u35_11, ↓u35_12, ↓u35_13, ↓u35_14, ↓u35_17, ↓u35_22, ↓u35_20, ↓u35_25, ↓u35_21]
  exact s_roomOf_l hj hn hc hm (nR (g.1 j)) 0 (by omega)
def plc (s : SV) (c : Nat) : Nat := pcn (s.2.2 3 c)
theorem s_placed (hj : j < 7) {c : Nat} (hc : c < 20) : ev sc 36 [.ref (bs j), .int (nI c)] (Wd g) Q = Q (some (.int (nI (plc (g.1 j) c)))) (Wd g) := by
  have hh := fun Q => s_size (sc := sc) (w := Wd g) (Q := Q) (i := c) (jo3 hj) (jj3 hj) hc (by decide)
  simp only [↓en36, ↓u36_0, ↓u36_1, ↓u36_4, ↓u36_5, ↓u36_8, ↓sf12 hj, ↓j_o3 hj, ↓hh, ↓c_v_some, plc]
theorem s_missing (hj : j < 7) {c : Nat} (hc : c < 20) : ev sc 37 [.ref (bs j), .int (nI c)] (Wd g) Q = Q (some (.int (fact (g.1 j) c 5 - nI (plc (g.1 j) c)))) (Wd g) := by
  simp only [↓en37, ↓u37_0, ↓u37_1, ↓u37_2, ↓u37_3, ↓u37_6, ↓u37_7, ↓u37_8, ↓u37_11, ↓u37_12, ↓s_o hj, ↓s_fact5 hj hc, ↓s_placed hj hc, ↓c_v_some]
def plcAll (s : SV) : Nat := sm (plc s) 20
theorem s_allPlaced (hj : j < 7) : ev sc 38 [.ref (bs j)] (Wd g) Q = Q (some (.int (nI (plcAll (g.1 j))))) (Wd g) := by
  have hh := fun Q => s_sizeOfAll (sc := sc) (w := Wd g) (Q := Q) (jo3 hj) (jj3 hj) (by decide)
  simp only [↓en38, ↓u38_0, ↓u38_1, ↓u38_4, ↓u38_7, ↓sf12 hj, ↓j_o3 hj, ↓hh, ↓c_v_some]
  rfl
def holAll (s : SV) : Nat := sm (fun q => pcn (s.2.2 0 q)) 7
theorem s_allHolidays (hj : j < 7) : ev sc 20 [.ref (bs j)] (Wd g) Q = Q (some (.int (nI (holAll (g.1 j))))) (Wd g) := by
  have hh := fun Q => s_sizeOfAll (sc := sc) (w := Wd g) (Q := Q) (jo0 hj) (jj0 hj) (by decide)
  simp only [↓en20, ↓u20_0, ↓u20_1, ↓u20_4, ↓u20_7, ↓sf9 hj, ↓j_o0 hj, ↓hh, ↓c_v_some]
  rfl
theorem n64d {d : Nat} (h : d < 2 ^ 31) : nI d / 64 = nI (d / 64) ∧ nI d - nI (d / 64) * 64 = nI (d % 64) := by
  have h1 : nI d / 64 = nI (d / 64) := pk_div (d := 64) h (by decide) (by decide)
  have h2 : nI d - nI d / 64 * 64 = nI (d % 64) := pk_rem (d := 64) h (by decide) (by decide)
  rw [h1] at h2
  exact ⟨h1, h2⟩
theorem n640 : ((64 : Int32) = 0) = False := eq_false (by decide)
theorem s_isHoliday (hj : j < 7) {d : Nat} (hd : d < 400) : ev sc 18 [.ref (bs j), .int (nI d)] (Wd g) Q = Q (some (.int (bI (hol (g.1 j) d)))) (Wd g) := by
  have hh : ∀ Q, ev sc 5 [.ref (bs j + 7), .int (nI (d / 64)), .int (nI (d % 64))] (Wd g) Q = Q (some (.int (bI (hol (g.1 j) d)))) (Wd g) := fun Q => s_has (sc := sc) (w := Wd g) (Q := Q) (i := d / 64) (m := d % 64) (jo0 hj) (jj0 hj) (by omega) (by decide) (by omega)
  obtain ⟨e1, e2⟩ := n64d (d := d) (by omega)
  simp only [↓en18, ↓u18_0, ↓u18_1, ↓u18_4, ↓u18_5, ↓u18_7, ↓u18_8, ↓u18_9, ↓u18_11, ↓u18_12, ↓u18_15, ↓sf9 hj, n640, if_false, e2, e1, ↓j_o0 hj, ↓hh, ↓c_v_some, cb_bI]
end
