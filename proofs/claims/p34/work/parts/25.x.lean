def sJs (s : SV) (i row m : Nat) (b : Bool) : SV := sJ s i (upF (s.2.2 i) row (setb (s.2.2 i row) m b))
def hlf (s : SV) (x : Nat) (pt : Int32) (m : Nat) (b : Bool) : SV := if pt = 0 ∨ pt = 2 then sJs (if pt = 0 ∨ pt = 1 then sJs s 6 (x * 2) m b else s) 6 (x * 2 + 1) m b else (if pt = 0 ∨ pt = 1 then sJs s 6 (x * 2) m b else s)
def lss (s : SV) (c m r : Nat) (b : Bool) : SV := sJs (sJs (sJs (sJs s 2 (c * 6 + r) m b) 3 c m b) 4 (fT s c) m b) 5 r m b
/-- a lesson is put into a state, or taken out of it -/
def setL (s : SV) (c m r : Nat) (b : Bool) : SV := if fact s c 1 = -5 then hlf (lss s c m r b) (fG s c) (fact s c 2) m b else hlf (hlf (lss s c m r b) (fG s c) (fact s c 2) m b) (fJ s c) 0 m b
theorem sJs_21 {s : SV} {i row m : Nat} {b : Bool} : (sJs s i row m b).2.1 = s.2.1 := rfl
theorem sJs_1 {s : SV} {i row m : Nat} {b : Bool} : (sJs s i row m b).1 = s.1 := rfl
theorem hlf_21 {s : SV} {x m : Nat} {pt : Int32} {b : Bool} : (hlf s x pt m b).2.1 = s.2.1 := by
  unfold hlf
  repeat' (first | rfl | split)
theorem hlf_1 {s : SV} {x m : Nat} {pt : Int32} {b : Bool} : (hlf s x pt m b).1 = s.1 := by
  unfold hlf
  repeat' (first | rfl | split)
theorem setL_21 {s : SV} {c m r : Nat} {b : Bool} : (setL s c m r b).2.1 = s.2.1 := by
  unfold setL
  split
  · rw [hlf_21]
    rfl
  · rw [hlf_21, hlf_21]
    rfl
theorem setL_1 {s : SV} {c m r : Nat} {b : Bool} : (setL s c m r b).1 = s.1 := by
  unfold setL
  split
  · rw [hlf_1]
    rfl
  · rw [hlf_1, hlf_1]
    rfl
theorem z20 : ((2 : Int32) = 0) = False := eq_false (by decide)
theorem z02 : ((0 : Int32) = 2) = False := eq_false (by decide)
theorem z21 : ((2 : Int32) = 1) = False := eq_false (by decide)
theorem bI_ne {b : Bool} : decide (bI b ≠ 0) = b := by cases b <;> decide
section
variable {sc : Nat × (Nat → Int32)} {g : SG} {j : Nat} {Q : Option Value → ri_W → Prop}
theorem w_X (hj : j < 7) {i m : Nat} {b : Bool} (hi : i < 120) : ev sc 9 [.ref (bs j + 11), .int (nI i), .int (nI m), .int (bI b)] (Wd g) Q = Q none (Wd (stS g j (sJs (g.1 j) 2 i m b))) := by
  have := s_set (sc := sc) (w := Wd g) (Q := Q) (i := i) (m := m) (b := bI b) (jo2 hj) (jj2 hj) hi (by decide)
  rw [bI_ne, js2 hj] at this
  exact this
theorem w_C (hj : j < 7) {i m : Nat} {b : Bool} (hi : i < 20) : ev sc 9 [.ref (bs j + 13), .int (nI i), .int (nI m), .int (bI b)] (Wd g) Q = Q none (Wd (stS g j (sJs (g.1 j) 3 i m b))) := by
  have := s_set (sc := sc) (w := Wd g) (Q := Q) (i := i) (m := m) (b := bI b) (jo3 hj) (jj3 hj) hi (by decide)
  rw [bI_ne, js3 hj] at this
  exact this
theorem w_T (hj : j < 7) {i m : Nat} {b : Bool} (hi : i < 8) : ev sc 9 [.ref (bs j + 15), .int (nI i), .int (nI m), .int (bI b)] (Wd g) Q = Q none (Wd (stS g j (sJs (g.1 j) 4 i m b))) := by
  have := s_set (sc := sc) (w := Wd g) (Q := Q) (i := i) (m := m) (b := bI b) (jo4 hj) (jj4 hj) hi (by decide)
  rw [bI_ne, js4 hj] at this
  exact this
theorem w_R (hj : j < 7) {i m : Nat} {b : Bool} (hi : i < 6) : ev sc 9 [.ref (bs j + 17), .int (nI i), .int (nI m), .int (bI b)] (Wd g) Q = Q none (Wd (stS g j (sJs (g.1 j) 5 i m b))) := by
  have := s_set (sc := sc) (w := Wd g) (Q := Q) (i := i) (m := m) (b := bI b) (jo5 hj) (jj5 hj) hi (by decide)
  rw [bI_ne, js5 hj] at this
  exact this
theorem w_H (hj : j < 7) {i m : Nat} {b : Bool} (hi : i < 16) : ev sc 9 [.ref (bs j + 19), .int (nI i), .int (nI m), .int (bI b)] (Wd g) Q = Q none (Wd (stS g j (sJs (g.1 j) 6 i m b))) := by
  have := s_set (sc := sc) (w := Wd g) (Q := Q) (i := i) (m := m) (b := bI b) (jo6 hj) (jj6 hj) hi (by decide)
  rw [bI_ne, js6 hj] at this
  exact this
theorem w_B (hj : j < 7) {i m : Nat} {b : Bool} (hi : i < 8) : ev sc 9 [.ref (bs j + 9), .int (nI i), .int (nI m), .int (bI b)] (Wd g) Q = Q none (Wd (stS g j (sJs (g.1 j) 1 i m b))) := by
  have := s_set (sc := sc) (w := Wd g) (Q := Q) (i := i) (m := m) (b := bI b) (jo1 hj) (jj1 hj) hi (by decide)
  rw [bI_ne, js1 hj] at this
  exact this
theorem w_Hd (hj : j < 7) {i m : Nat} {b : Bool} (hi : i < 7) : ev sc 9 [.ref (bs j + 7), .int (nI i), .int (nI m), .int (bI b)] (Wd g) Q = Q none (Wd (stS g j (sJs (g.1 j) 0 i m b))) := by
  have := s_set (sc := sc) (w := Wd g) (Q := Q) (i := i) (m := m) (b := bI b) (jo0 hj) (jj0 hj) hi (by decide)
  rw [bI_ne, js0 hj] at this
  exact this
theorem s_setHoliday (hj : j < 7) {d : Nat} {b : Bool} (hd : d < 400) : ev sc 19 [.ref (bs j), .int (nI d), .int (bI b)] (Wd g) Q = Q none (Wd (stS g j (sJs (g.1 j) 0 (d / 64) (d % 64) b))) := by
  have hh := fun Q => w_Hd (sc := sc) (g := g) (Q := Q) (i := d / 64) (m := d % 64) (b := b) hj (by omega)
  obtain ⟨e1, e2⟩ := n64d (d := d) (by omega)
  simp only [↓en19, ↓u19_0, ↓u19_1, ↓u19_4, ↓u19_5, ↓u19_7, ↓u19_8, ↓u19_9, ↓u19_11, ↓u19_12, ↓u19_13, ↓u19_16, ↓sf9 hj, n640, if_false, e2, e1, ↓j_o0 hj, ↓hh, ↓c_v_none]
theorem s_setHalves (hj : j < 7) {x m : Nat} {pt : Int32} {b : Bool} (hx : x < 8) : ev sc 32 [.ref (bs j), .int (nI x), .int pt, .int (nI m), .int (bI b)] (Wd g) Q = Q none (Wd (stS g j (hlf (g.1 j) x pt m b))) := by
  have h3 : ∀ g : SG, rv sc 32 3 [(0, .ref (bs j)), (1, .int (nI x)), (2, .int pt), (3, .int (nI m)), (4, .int (bI b)), (5, .int 3)] [] (Wd g) Q = Q none (Wd g) := fun g => by
    rw [u32_3]
    simp only [↓u32_0, ↓u32_1, ↓u32_5, ↓u32_6, ↓u32_41, ↓u32_9, ↓u32_10, ↓u32_19, ↓u32_13, ↓u32_20, ↓u32_14, ↓u32_23, ↓u32_16, ↓u32_24, ↓u32_35, ↓u32_26, ↓u32_38, ↓u32_29, ↓u32_30, ↓u32_32, l23, if_true]
  have h2 : ∀ g : SG, rv sc 32 3 [(0, .ref (bs j)), (1, .int (nI x)), (2, .int pt), (3, .int (nI m)), (4, .int (bI b)), (5, .int 2)] [] (Wd g) Q = Q none (Wd (if pt = 0 ∨ pt = 2 then stS g j (sJs (g.1 j) 6 (x * 2 + 1) m b) else g)) := fun g => by
    rw [u32_3]
    simp only [↓u32_0, ↓u32_1, ↓u32_5, ↓u32_6, ↓u32_41, ↓u32_9, ↓u32_10, ↓u32_19, ↓u32_13, ↓u32_20, ↓u32_14, ↓u32_23, ↓u32_16, ↓u32_24, ↓u32_35, ↓u32_26, ↓u32_38, ↓u32_29, ↓u32_30, ↓u32_32, l22, if_false, ↓sf15 hj, ↓s_row2, ↓c_v_some, ↓c_v_none, ↓j_o6 hj, ↓w_H hj (show x * 2 + 1 < 16 by omega), i213, h3]
    by_cases e0 : pt = 0 <;> by_cases e2 : pt = 2 <;> simp only [e0, e2, if_true, if_false, true_or, or_true, or_self, z20, z02]
  have h1 : rv sc 32 3 [(0, .ref (bs j)), (1, .int (nI x)), (2, .int pt), (3, .int (nI m)), (4, .int (bI b)), (5, .int 1)] [] (Wd g) Q = Q none (Wd (stS g j (hlf (g.1 j) x pt m b))) := by
    rw [u32_3]
    simp only [↓u32_0, ↓u32_1, ↓u32_5, ↓u32_6, ↓u32_41, ↓u32_9, ↓u32_10, ↓u32_19, ↓u32_13, ↓u32_20, ↓u32_14, ↓u32_23, ↓u32_16, ↓u32_24, ↓u32_35, ↓u32_26, ↓u32_38, ↓u32_29, ↓u32_30, ↓u32_32, l21, if_false, ↓sf15 hj, ↓s_row1, ↓c_v_some, ↓c_v_none, ↓j_o6 hj, ↓w_H hj (show x * 2 < 16 by omega), i110, h2]
    unfold hlf
    by_cases e0 : pt = 0
    · subst e0
      simp only [if_true, true_or, stS_at, stS_twice]
    · by_cases e1 : pt = 1
      · subst e1
        simp only [e0, if_true, if_false, or_true, false_or, show ¬ ((1 : Int32) = 2) by decide]
      · by_cases e2 : pt = 2 <;> simp only [e0, e1, e2, if_true, if_false, or_true, or_self, stS_self, z20, z21, or_false]
  simp only [↓en32, ↓u32_0, ↓u32_1, ↓u32_5, ↓u32_6, ↓u32_41, ↓u32_9, ↓u32_10, ↓u32_19, ↓u32_13, ↓u32_20, ↓u32_14, ↓u32_23, ↓u32_16, ↓u32_24, ↓u32_35, ↓u32_26, ↓u32_38, ↓u32_29, ↓u32_30, ↓u32_32, h1]
theorem s_setLesson (hj : j < 7) (hn : okN (g.1 j)) (hf : okF (g.1 j)) {c m r : Nat} {b : Bool} (hc : c < nC (g.1 j)) (hr : r < 6) : ev sc 31 [.ref (bs j), .int (nI c), .int (nI m), .int (nI r), .int (bI b)] (Wd g) Q = Q none (Wd (stS g j (setL (g.1 j) c m r b))) := by
  obtain ⟨-, -, ⟨-, hg⟩, ⟨-, ht⟩, -, ⟨-, hc2⟩⟩ := hn
  obtain ⟨⟨f1, f2⟩, f3, -, ⟨f6, f7⟩⟩ := hf c hc
  have hc3 : c < 20 := by omega
  have e0 : ∀ (g0 : SG) (_ : (g0.1 j).2.1 = (g.1 j).2.1) (Q : Option Value → ri_W → Prop), ev sc 25 [.ref (bs j), .int (nI c), .int 0] (Wd g0) Q = Q (some (.int (nI (fG (g.1 j) c)))) (Wd g0) := fun g0 hs Q => by
    rw [s_fact0 hj hc3, show fact (g0.1 j) c 0 = fact (g.1 j) c 0 by unfold fact; rw [hs], f1]
  have e1 : ∀ (g0 : SG) (_ : (g0.1 j).2.1 = (g.1 j).2.1) (Q : Option Value → ri_W → Prop), ev sc 25 [.ref (bs j), .int (nI c), .int 1] (Wd g0) Q = Q (some (.int (fact (g.1 j) c 1))) (Wd g0) := fun g0 hs Q => by
    rw [s_fact1 hj hc3, show fact (g0.1 j) c 1 = fact (g.1 j) c 1 by unfold fact; rw [hs]]
  have e2 : ∀ (g0 : SG) (_ : (g0.1 j).2.1 = (g.1 j).2.1) (Q : Option Value → ri_W → Prop), ev sc 25 [.ref (bs j), .int (nI c), .int 2] (Wd g0) Q = Q (some (.int (fact (g.1 j) c 2))) (Wd g0) := fun g0 hs Q => by
    rw [s_fact2 hj hc3, show fact (g0.1 j) c 2 = fact (g.1 j) c 2 by unfold fact; rw [hs]]
  have e3 : ∀ (g0 : SG) (_ : (g0.1 j).2.1 = (g.1 j).2.1) (Q : Option Value → ri_W → Prop), ev sc 25 [.ref (bs j), .int (nI c), .int 3] (Wd g0) Q = Q (some (.int (nI (fT (g.1 j) c)))) (Wd g0) := fun g0 hs Q => by
    rw [s_fact3 hj hc3, show fact (g0.1 j) c 3 = fact (g.1 j) c 3 by unfold fact; rw [hs], f6]
  have k1 := fun (g : SG) (b : Bool) (Q : Option Value → ri_W → Prop) => w_X (sc := sc) (g := g) (Q := Q) (i := c * 6 + r) (m := m) (b := b) hj (by omega)
  have k2 := fun (g : SG) (b : Bool) (Q : Option Value → ri_W → Prop) => w_C (sc := sc) (g := g) (Q := Q) (i := c) (m := m) (b := b) hj hc3
  have k3 := fun (g : SG) (b : Bool) (Q : Option Value → ri_W → Prop) => w_T (sc := sc) (g := g) (Q := Q) (i := fT (g.1 j) c) (m := m) (b := b) hj
  have k4 := fun (g : SG) (b : Bool) (Q : Option Value → ri_W → Prop) => w_R (sc := sc) (g := g) (Q := Q) (i := r) (m := m) (b := b) hj hr
  have k5 := fun (g0 : SG) (b : Bool) (Q : Option Value → ri_W → Prop) => w_T (sc := sc) (g := g0) (Q := Q) (i := fT (g.1 j) c) (m := m) (b := b) hj (by omega)
  have k6 := fun (g0 : SG) (b : Bool) (Q : Option Value → ri_W → Prop) => s_setHalves (sc := sc) (g := g0) (Q := Q) (x := fG (g.1 j) c) (pt := fact (g.1 j) c 2) (m := m) (b := b) hj (by omega)
  unfold setL lss
  rcases f3 with f3 | ⟨f3, f4, f5⟩
  · simp only [↓en31, ↓u31_0, ↓u31_1, ↓u31_4, ↓u31_5, ↓u31_6, ↓u31_9, ↓u31_10, ↓u31_12, ↓u31_15, ↓u31_16, ↓u31_19, ↓u31_20, ↓u31_21, ↓u31_23, ↓u31_26, ↓u31_27, ↓u31_30, ↓u31_31, ↓u31_32, ↓u31_33, ↓u31_36, ↓u31_37, ↓u31_39, ↓u31_42, ↓u31_43, ↓u31_46, ↓u31_47, ↓u31_48, ↓u31_50, ↓u31_53, ↓u31_54, ↓u31_55, ↓u31_56, ↓u31_57, ↓u31_60, ↓u31_61, ↓u31_62, ↓u31_63, ↓u31_66, ↓u31_67, ↓u31_69, ↓u31_72, ↓u31_73, ↓u31_74, ↓u31_75, ↓u31_78, ↓u31_80, ↓u31_97, ↓u31_83, ↓u31_84, ↓u31_85, ↓u31_86, ↓u31_87, ↓u31_90, ↓u31_91, ↓u31_92, ↓u31_94, ↓sf11 hj, ↓sf12 hj, ↓sf13 hj, ↓sf14 hj, ↓s_o hj, ↓j_o2 hj, ↓j_o3 hj, ↓j_o4 hj, ↓j_o5 hj, ↓s_rowInRoom, ↓c_v_some, ↓c_v_none, ↓k1, ↓k2, ↓k4, ↓k5, ↓k6, stS_at, stS_twice, ↓e0, ↓e1, ↓e2, ↓e3, sJs_21, hlf_21, f3, if_true]
  · have k7 := fun (g0 : SG) (b : Bool) (Q : Option Value → ri_W → Prop) => s_setHalves (sc := sc) (g := g0) (Q := Q) (x := fJ (g.1 j) c) (pt := 0) (m := m) (b := b) hj (by omega)
    have e4 : ¬ nI (fJ (g.1 j) c) = -5 := nI_n5 (by omega)
    rw [f3] at e1
    simp only [↓en31, ↓u31_0, ↓u31_1, ↓u31_4, ↓u31_5, ↓u31_6, ↓u31_9, ↓u31_10, ↓u31_12, ↓u31_15, ↓u31_16, ↓u31_19, ↓u31_20, ↓u31_21, ↓u31_23, ↓u31_26, ↓u31_27, ↓u31_30, ↓u31_31, ↓u31_32, ↓u31_33, ↓u31_36, ↓u31_37, ↓u31_39, ↓u31_42, ↓u31_43, ↓u31_46, ↓u31_47, ↓u31_48, ↓u31_50, ↓u31_53, ↓u31_54, ↓u31_55, ↓u31_56, ↓u31_57, ↓u31_60, ↓u31_61, ↓u31_62, ↓u31_63, ↓u31_66, ↓u31_67, ↓u31_69, ↓u31_72, ↓u31_73, ↓u31_74, ↓u31_75, ↓u31_78, ↓u31_80, ↓u31_97, ↓u31_83, ↓u31_84, ↓u31_85, ↓u31_86, ↓u31_87, ↓u31_90, ↓u31_91, ↓u31_92, ↓u31_94, ↓sf11 hj, ↓sf12 hj, ↓sf13 hj, ↓sf14 hj, ↓s_o hj, ↓j_o2 hj, ↓j_o3 hj, ↓j_o4 hj, ↓j_o5 hj, ↓s_rowInRoom, ↓c_v_some, ↓c_v_none, ↓k1, ↓k2, ↓k4, ↓k5, ↓k6, ↓k7, stS_at, stS_twice, ↓e0, ↓e1, ↓e2, ↓e3, sJs_21, hlf_21, f3, e4, if_false]
end
