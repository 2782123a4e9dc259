/-! THE PLAIN FORM: what its small methods answer -/
theorem rmI_n5 {o : Option Nat} (h : ∀ r, o = some r → r < 6) : (rmI o = -5) = (o = none) := by
  cases o with
  | none => exact propext ⟨fun _ => rfl, fun _ => rfl⟩
  | some r =>
    have := h r rfl
    exact propext ⟨fun e => absurd e (nI_n5 (by omega)), fun e => absurd e (by simp)⟩
theorem inv_C {s : SV} (h : inv s) {c m : Nat} (hx : hC s c m = true) : c < nC s ∧ m < slS s := by
  obtain ⟨r, h1, h2⟩ := (h.2.2.2.2.1.2.2.1 c m).mp hx
  have := h.2.2.2.2.1.1 c r m h1 h2
  exact ⟨this.1, this.2.2⟩
section
variable {sc : Nat × (Nat → Int32)} {g : SG} {s : SV} {Q : Option Value → ri_W → Prop}
theorem m_isIn {w : ri_W} {v a b : Int32} : ev sc 101 [.int v, .int a, .int b] w Q = Q (some (.int (ii v a b))) w := by
  simp only [↓en101, ↓u101_0, ↓u101_1, ↓u101_2, ↓u101_14, ↓u101_5, ↓u101_15, ↓u101_6, ↓u101_7, ↓u101_10, ↓u101_11, ↓c_b_0, ↓c_b_1]
  unfold ii
  repeat' (first | rfl | split | contradiction)
theorem nAt {k n : Nat} (h : k < n) (hn : n < 2 ^ 31) : ri_in (nI k) n = true := in_nI h hn
theorem m0 : (0 : Int32).toNatClampNeg = 0 := rfl
theorem m1 : (1 : Int32).toNatClampNeg = 1 := rfl
theorem m2 : (2 : Int32).toNatClampNeg = 2 := rfl
theorem m3 : (3 : Int32).toNatClampNeg = 3 := rfl
theorem m4 : (4 : Int32).toNatClampNeg = 4 := rfl
theorem m5 : (5 : Int32).toNatClampNeg = 5 := rfl
theorem r0 : ri_in 0 1892 = true := by decide
theorem r1 : ri_in 1 1892 = true := by decide
theorem r2 : ri_in 2 1892 = true := by decide
theorem r3 : ri_in 3 1892 = true := by decide
theorem r4 : ri_in 4 1892 = true := by decide
theorem r5 : ri_in 5 1892 = true := by decide
theorem m_slots (hM : g.2.2.2.2 0 = mdl s) : ev sc 102 [.ref 154] (Wd g) Q = Q (some (.int (s.1 0 * s.1 1))) (Wd g) := by
  simp only [↓en102, ↓u102_0, ↓u102_1, ↓u102_4, ↓u102_5, ↓u102_6, ↓u102_7, ↓u102_10, ↓u102_11, ↓u102_12, ↓u102_13, ↓df0, ↓dI0, r0, r1, m0, m1, if_true, hM, mdl_n (show 0 < 6 by decide), mdl_n (show 1 < 6 by decide)]
theorem m_isSlot (hM : g.2.2.2.2 0 = mdl s) {v : Int32} : ev sc 103 [.ref 154, .int v] (Wd g) Q = Q (some (.int (ii v 0 (s.1 0 * s.1 1 - 1)))) (Wd g) := by
  simp only [↓en103, ↓u103_0, ↓u103_1, ↓u103_2, ↓u103_3, ↓u103_6, ↓u103_7, ↓u103_8, ↓u103_11, ↓d_o, ↓m_slots hM, ↓m_isIn, ↓c_v_some, cb_ii]
theorem m_isGroup (hM : g.2.2.2.2 0 = mdl s) {v : Int32} : ev sc 104 [.ref 154, .int v] (Wd g) Q = Q (some (.int (ii v 0 (s.1 2 - 1)))) (Wd g) := by
  simp only [↓en104, ↓u104_0, ↓u104_1, ↓u104_2, ↓u104_3, ↓u104_6, ↓u104_7, ↓u104_8, ↓u104_9, ↓u104_10, ↓u104_13, ↓df0, ↓dI0, r2, m2, if_true, hM, mdl_n (show 2 < 6 by decide), m_isIn, ↓c_v_some, cb_ii]
theorem m_isTeacher (hM : g.2.2.2.2 0 = mdl s) {v : Int32} : ev sc 105 [.ref 154, .int v] (Wd g) Q = Q (some (.int (ii v 0 (s.1 3 - 1)))) (Wd g) := by
  simp only [↓en105, ↓u105_0, ↓u105_1, ↓u105_2, ↓u105_3, ↓u105_6, ↓u105_7, ↓u105_8, ↓u105_9, ↓u105_10, ↓u105_13, ↓df0, ↓dI0, r3, m3, if_true, hM, mdl_n (show 3 < 6 by decide), m_isIn, ↓c_v_some, cb_ii]
theorem m_isRoom (hM : g.2.2.2.2 0 = mdl s) {v : Int32} : ev sc 106 [.ref 154, .int v] (Wd g) Q = Q (some (.int (ii v 0 (s.1 4 - 1)))) (Wd g) := by
  simp only [↓en106, ↓u106_0, ↓u106_1, ↓u106_2, ↓u106_3, ↓u106_6, ↓u106_7, ↓u106_8, ↓u106_9, ↓u106_10, ↓u106_13, ↓df0, ↓dI0, r4, m4, if_true, hM, mdl_n (show 4 < 6 by decide), m_isIn, ↓c_v_some, cb_ii]
theorem m_isCourse (hM : g.2.2.2.2 0 = mdl s) {v : Int32} : ev sc 107 [.ref 154, .int v] (Wd g) Q = Q (some (.int (ii v 0 (s.1 5 - 1)))) (Wd g) := by
  simp only [↓en107, ↓u107_0, ↓u107_1, ↓u107_2, ↓u107_3, ↓u107_6, ↓u107_7, ↓u107_8, ↓u107_9, ↓u107_10, ↓u107_13, ↓df0, ↓dI0, r5, m5, if_true, hM, mdl_n (show 5 < 6 by decide), m_isIn, ↓c_v_some, cb_ii]
theorem x28 {c k : Nat} : (28 : Int32) + 6 * nI c + nI k = nI (28 + 6 * c + k) := by
  rw [show (6 : Int32) = nI 6 from rfl, show (28 : Int32) = nI 28 from rfl, pk_mul, nI_add, nI_add]
theorem x148 {c m : Nat} : (148 : Int32) + 48 * nI c + nI m = nI (148 + 48 * c + m) := by
  rw [show (48 : Int32) = nI 48 from rfl, show (148 : Int32) = nI 148 from rfl, pk_mul, nI_add, nI_add]
theorem x1108 {c m : Nat} : (1108 : Int32) + 48 * nI c + nI m = nI (1108 + 48 * c + m) := by
  rw [show (48 : Int32) = nI 48 from rfl, show (1108 : Int32) = nI 1108 from rfl, pk_mul, nI_add, nI_add]
theorem m_of (hM : g.2.2.2.2 0 = mdl s) {c k : Nat} (hc : c < 20) (hk : k < 6) : ev sc 108 [.ref 154, .int (nI c), .int (nI k)] (Wd g) Q = Q (some (.int (fact s c k))) (Wd g) := by
  simp only [↓en108, ↓u108_0, ↓u108_1, ↓u108_4, ↓u108_6, ↓u108_8, ↓u108_9, ↓u108_10, ↓u108_11, ↓u108_12, ↓u108_13, ↓u108_14, ↓df0, ↓dI0, x28, nAt (show 28 + 6 * c + k < 1892 by omega) (by decide), nI_clamp (show 28 + 6 * c + k < 2 ^ 31 by omega), if_true, hM, mdl_f hc hk]
theorem m_of0 (hM : g.2.2.2.2 0 = mdl s) {c : Nat} (hc : c < 20) : ev sc 108 [.ref 154, .int (nI c), .int 0] (Wd g) Q = Q (some (.int (fact s c 0))) (Wd g) := m_of (k := 0) hM hc (by decide)
theorem m_of1 (hM : g.2.2.2.2 0 = mdl s) {c : Nat} (hc : c < 20) : ev sc 108 [.ref 154, .int (nI c), .int 1] (Wd g) Q = Q (some (.int (fact s c 1))) (Wd g) := m_of (k := 1) hM hc (by decide)
theorem m_of2 (hM : g.2.2.2.2 0 = mdl s) {c : Nat} (hc : c < 20) : ev sc 108 [.ref 154, .int (nI c), .int 2] (Wd g) Q = Q (some (.int (fact s c 2))) (Wd g) := m_of (k := 2) hM hc (by decide)
theorem m_of3 (hM : g.2.2.2.2 0 = mdl s) {c : Nat} (hc : c < 20) : ev sc 108 [.ref 154, .int (nI c), .int 3] (Wd g) Q = Q (some (.int (fact s c 3))) (Wd g) := m_of (k := 3) hM hc (by decide)
theorem m_of4 (hM : g.2.2.2.2 0 = mdl s) {c : Nat} (hc : c < 20) : ev sc 108 [.ref 154, .int (nI c), .int 4] (Wd g) Q = Q (some (.int (fact s c 4))) (Wd g) := m_of (k := 4) hM hc (by decide)
theorem m_of5 (hM : g.2.2.2.2 0 = mdl s) {c : Nat} (hc : c < 20) : ev sc 108 [.ref 154, .int (nI c), .int 5] (Wd g) Q = Q (some (.int (fact s c 5))) (Wd g) := m_of (k := 5) hM hc (by decide)
theorem m_roomOf (hI : inv s) (hM : g.2.2.2.2 0 = mdl s) {c m : Nat} (hc : c < 20) (hm : m < 48) : ev sc 109 [.ref 154, .int (nI c), .int (nI m)] (Wd g) Q = Q (some (.int (rmI (rmS s c m)))) (Wd g) := by
  simp only [↓en109, ↓u109_0, ↓u109_1, ↓u109_4, ↓u109_7, ↓u109_9, ↓u109_10, ↓u109_11, ↓u109_12, ↓u109_13, ↓u109_14, ↓u109_15, ↓u109_16, ↓u109_17, ↓u109_25, ↓u109_20, ↓u109_26, ↓u109_22, ↓u109_27, ↓u109_28, ↓df0, ↓dI0, x148, nAt (show 148 + 48 * c + m < 1892 by omega) (by decide), nI_clamp (show 148 + 48 * c + m < 2 ^ 31 by omega), if_true, hM, mdl_l hc hm]
  cases e : rmS s c m with
  | none => simp only [rmN, rmI, nI_0, if_true]
  | some r =>
    have h6 := ((rm_iff hI.2.2.2.2.1.2.1).mp e).1
    simp only [rmN, rmI, nI_ne0 (show 0 < r + 1 by omega) (show r + 1 < 2 ^ 31 by omega), if_false, nI_pred]
theorem rm_6 (hI : inv s) {c m : Nat} : ∀ r, rmS s c m = some r → r < 6 := fun _ e => ((rm_iff hI.2.2.2.2.1.2.1).mp e).1
theorem rm_bI (hI : inv s) {c m : Nat} : (rmS s c m = none) = (hC s c m = false) := propext (rm_no hI.2.2.2.2.1.2.1 hI.2.2.2.2.1.2.2.1)
theorem m_has (hI : inv s) (hM : g.2.2.2.2 0 = mdl s) {c m : Nat} (hc : c < 20) (hm : m < 48) : ev sc 110 [.ref 154, .int (nI c), .int (nI m)] (Wd g) Q = Q (some (.int (bI (hC s c m)))) (Wd g) := by
  simp only [↓en110, ↓u110_0, ↓u110_1, ↓u110_2, ↓u110_3, ↓u110_6, ↓u110_8, ↓u110_15, ↓u110_11, ↓u110_16, ↓u110_12, ↓d_o, ↓m_roomOf hI hM hc hm, ↓c_v_some, rmI_n5 (rm_6 hI), rm_bI hI, ↓c_b_0, ↓c_b_1]
  cases hC s c m <;> simp [bI]
theorem m_puts (hM : g.2.2.2.2 0 = mdl s) {c m r : Nat} (hc : c < 20) (hm : m < 48) (hr : r < 6) : ev sc 111 [.ref 154, .int (nI c), .int (nI m), .int (nI r)] (Wd g) Q = Q none (Wd (gDN g 0 (upF (mdl s) (148 + 48 * c + m) (nI (r + 1))))) := by
  simp only [↓en111, ↓u111_0, ↓u111_1, ↓u111_4, ↓u111_7, ↓u111_9, ↓u111_10, ↓u111_11, ↓u111_12, ↓u111_13, ↓u111_14, ↓u111_15, ↓u111_17, ↓u111_24, ↓u111_20, ↓u111_25, ↓u111_21, ↓u111_26, ↓u111_27, ↓u111_28, ↓df0, ↓dI0, x148, nAt (show 148 + 48 * c + m < 1892 by omega) (by decide), nI_clamp (show 148 + 48 * c + m < 2 ^ 31 by omega), if_true, if_false, nI_n5 (show r < 2 ^ 31 by omega), hM, upF_eq, ds0, nI_1]
theorem m_puts_no (hM : g.2.2.2.2 0 = mdl s) {c m : Nat} (hc : c < 20) (hm : m < 48) : ev sc 111 [.ref 154, .int (nI c), .int (nI m), .int (-5)] (Wd g) Q = Q none (Wd (gDN g 0 (upF (mdl s) (148 + 48 * c + m) 0))) := by
  simp only [↓en111, ↓u111_0, ↓u111_1, ↓u111_4, ↓u111_7, ↓u111_9, ↓u111_10, ↓u111_11, ↓u111_12, ↓u111_13, ↓u111_14, ↓u111_15, ↓u111_17, ↓u111_24, ↓u111_20, ↓u111_25, ↓u111_21, ↓u111_26, ↓u111_27, ↓u111_28, ↓df0, ↓dI0, x148, nAt (show 148 + 48 * c + m < 1892 by omega) (by decide), nI_clamp (show 148 + 48 * c + m < 2 ^ 31 by omega), if_true, hM, upF_eq, ds0]
theorem bI_1 {b : Bool} : (bI b = 1) = (b = true) := by cases b <;> simp [bI]
theorem m_isBarred (hM : g.2.2.2.2 0 = mdl s) {c m : Nat} (hc : c < 8) (hm : m < 48) : ev sc 112 [.ref 154, .int (nI c), .int (nI m)] (Wd g) Q = Q (some (.int (bI (hB s c m)))) (Wd g) := by
  simp only [↓en112, ↓u112_0, ↓u112_1, ↓u112_4, ↓u112_7, ↓u112_9, ↓u112_10, ↓u112_11, ↓u112_12, ↓u112_13, ↓u112_14, ↓u112_15, ↓u112_16, ↓u112_23, ↓u112_19, ↓u112_24, ↓u112_20, ↓df0, ↓dI0, x1108, nAt (show 1108 + 48 * c + m < 1892 by omega) (by decide), nI_clamp (show 1108 + 48 * c + m < 2 ^ 31 by omega), if_true, hM, mdl_b hc hm, bI_1, ↓c_b_0, ↓c_b_1]
  cases hB s c m <;> simp [bI]
theorem x1492 {d : Nat} : (1492 : Int32) + nI d = nI (1492 + d) := by
  rw [show (1492 : Int32) = nI 1492 from rfl, nI_add]
theorem bI_nI {b : Bool} : bI b = nI (if b = true then 1 else 0) := by cases b <;> rfl
theorem m_holidays_l (hM : g.2.2.2.2 0 = mdl s) {e : Nat} (he : e ≤ 400) : ∀ (d i : Nat), i + d = e → rv sc 122 4 [(0, .ref 154), (1, .int (nI e)), (2, .int (nI (ct (hol s) i))), (3, .int (nI i))] [] (Wd g) Q = Q (some (.int (nI (ct (hol s) e)))) (Wd g) := by
  intro d
  induction d with
  | zero =>
    intro i hi
    have h5 : nI e ≤ nI i := nI_le (by omega) (by omega)
    rw [u122_4]
    simp only [↓u122_0, ↓u122_1, ↓u122_2, ↓u122_3, ↓u122_5, ↓u122_6, ↓u122_28, ↓u122_9, ↓u122_29, ↓u122_10, ↓u122_11, ↓u122_14, ↓u122_17, ↓u122_18, ↓u122_19, ↓u122_20, ↓u122_21, ↓u122_22, ↓u122_25, h5, if_true, if_false]
    rw [show i = e by omega]
  | succ d ih =>
    intro i hi
    have h5 : ¬ nI e ≤ nI i := nI_ge (by omega) (by omega)
    have ih1 := ih (i + 1) (by omega)
    rw [u122_4]
    simp only [↓u122_0, ↓u122_1, ↓u122_2, ↓u122_3, ↓u122_5, ↓u122_6, ↓u122_28, ↓u122_9, ↓u122_29, ↓u122_10, ↓u122_11, ↓u122_14, ↓u122_17, ↓u122_18, ↓u122_19, ↓u122_20, ↓u122_21, ↓u122_22, ↓u122_25, h5, if_true, if_false, ↓df0, ↓dI0, x1492, nAt (show 1492 + i < 1892 by omega) (by decide), nI_clamp (show 1492 + i < 2 ^ 31 by omega), hM, mdl_h (show i < 400 by omega), bI_nI, nI_add, nI_1]
    exact ih1
theorem m_holidays (hM : g.2.2.2.2 0 = mdl s) {e : Nat} (he : e ≤ 400) : ev sc 122 [.ref 154, .int (nI e)] (Wd g) Q = Q (some (.int (nI (ct (hol s) e)))) (Wd g) := by
  simp only [↓en122, ↓u122_0, ↓u122_1, ↓u122_2, ↓u122_3, ↓u122_5, ↓u122_6, ↓u122_28, ↓u122_9, ↓u122_29, ↓u122_10, ↓u122_11, ↓u122_14, ↓u122_17, ↓u122_18, ↓u122_19, ↓u122_20, ↓u122_21, ↓u122_22, ↓u122_25]
  exact m_holidays_l hM he e 0 (by omega)
end
