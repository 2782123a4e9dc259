def smI (f : Nat → Int32) : Nat → Int32
  | 0 => 0
  | n + 1 => smI f n + f n
def mxN (f : Nat → Nat) : Nat → Nat
  | 0 => 0
  | n + 1 => if mxN f n < f n then f n else mxN f n
section
variable {sc : Nat × (Nat → Int32)} {g : SG} {j : Nat} {Q : Option Value → ri_W → Prop}
theorem add0 (x : Int32) : x + 0 = x := Int32.add_zero x
theorem s_coursesOfTeacher_l (hj : j < 7) (hn : okN (g.1 j)) {x : Int32} : ∀ (d i : Nat), i + d = nC (g.1 j) → rv sc 28 4 [(0, .ref (bs j)), (1, .int x), (2, .int (nI (ct (fun c => decide (fact (g.1 j) c 3 = x)) i))), (3, .int (nI i))] [] (Wd g) Q = Q (some (.int (nI (ct (fun c => decide (fact (g.1 j) c 3 = x)) (nC (g.1 j)))))) (Wd g) := by
  obtain ⟨-, -, -, -, -, ⟨h1, h2⟩⟩ := hn
  intro d
  induction d with
  | zero =>
    intro i hi
    have h5 : nI (nC (g.1 j)) ≤ nI i := nI_le (by omega) (by omega)
    rw [u28_4]
    simp only [↓u28_0, ↓u28_1, ↓u28_2, ↓u28_3, ↓u28_5, ↓u28_6, ↓u28_9, ↓u28_31, ↓u28_12, ↓u28_32, ↓u28_13, ↓u28_14, ↓u28_15, ↓u28_18, ↓u28_19, ↓u28_25, ↓u28_22, ↓u28_28, ↓sf5 hj, h1, h5, if_true, if_false]
    rw [show i = nC (g.1 j) by omega]
  | succ d ih =>
    intro i hi
    have h5 : ¬ nI (nC (g.1 j)) ≤ nI i := nI_ge (by omega) (by omega)
    have ih1 := ih (i + 1) (by omega)
    rw [u28_4]
    simp only [↓u28_0, ↓u28_1, ↓u28_2, ↓u28_3, ↓u28_5, ↓u28_6, ↓u28_9, ↓u28_31, ↓u28_12, ↓u28_32, ↓u28_13, ↓u28_14, ↓u28_15, ↓u28_18, ↓u28_19, ↓u28_25, ↓u28_22, ↓u28_28, ↓sf5 hj, h1, h5, if_true, if_false, ↓s_o hj, ↓s_fact3 hj (show i < 20 by omega), ↓c_v_some, nI_1]
    by_cases hx : fact (g.1 j) i 3 = x
    · simp only [ct, hx, decide_true, if_true] at ih1 ⊢
      exact ih1
    · simp only [ct, hx, decide_false, if_false, Bool.false_eq_true, Nat.add_zero] at ih1 ⊢
      exact ih1
theorem s_coursesOfTeacher (hj : j < 7) (hn : okN (g.1 j)) {x : Int32} : ev sc 28 [.ref (bs j), .int x] (Wd g) Q = Q (some (.int (nI (ct (fun c => decide (fact (g.1 j) c 3 = x)) (nC (g.1 j)))))) (Wd g) := by
  simp only [↓en28, ↓u28_0, ↓u28_1, ↓u28_2, ↓u28_3, ↓u28_5, ↓u28_6, ↓u28_9, ↓u28_31, ↓u28_12, ↓u28_32, ↓u28_13, ↓u28_14, ↓u28_15, ↓u28_18, ↓u28_19, ↓u28_25, ↓u28_22, ↓u28_28]
  exact s_coursesOfTeacher_l hj hn (nC (g.1 j)) 0 (by omega)
theorem s_lessonsOfTeacher_l (hj : j < 7) (hn : okN (g.1 j)) {x : Int32} : ∀ (d i : Nat), i + d = nC (g.1 j) → rv sc 29 4 [(0, .ref (bs j)), (1, .int x), (2, .int (smI (fun c => if fact (g.1 j) c 3 = x then fact (g.1 j) c 5 else 0) i)), (3, .int (nI i))] [] (Wd g) Q = Q (some (.int (smI (fun c => if fact (g.1 j) c 3 = x then fact (g.1 j) c 5 else 0) (nC (g.1 j))))) (Wd g) := by
  obtain ⟨-, -, -, -, -, ⟨h1, h2⟩⟩ := hn
  intro d
  induction d with
  | zero =>
    intro i hi
    have h5 : nI (nC (g.1 j)) ≤ nI i := nI_le (by omega) (by omega)
    rw [u29_4]
    simp only [↓u29_0, ↓u29_1, ↓u29_2, ↓u29_3, ↓u29_5, ↓u29_6, ↓u29_9, ↓u29_37, ↓u29_12, ↓u29_38, ↓u29_13, ↓u29_14, ↓u29_15, ↓u29_18, ↓u29_19, ↓u29_31, ↓u29_22, ↓u29_34, ↓u29_23, ↓u29_24, ↓u29_25, ↓u29_26, ↓u29_29, ↓u29_30, ↓sf5 hj, h1, h5, if_true, if_false]
    rw [show i = nC (g.1 j) by omega]
  | succ d ih =>
    intro i hi
    have h5 : ¬ nI (nC (g.1 j)) ≤ nI i := nI_ge (by omega) (by omega)
    have ih1 := ih (i + 1) (by omega)
    rw [u29_4]
    simp only [↓u29_0, ↓u29_1, ↓u29_2, ↓u29_3, ↓u29_5, ↓u29_6, ↓u29_9, ↓u29_37, ↓u29_12, ↓u29_38, ↓u29_13, ↓u29_14, ↓u29_15, ↓u29_18, ↓u29_19, ↓u29_31, ↓u29_22, ↓u29_34, ↓u29_23, ↓u29_24, ↓u29_25, ↓u29_26, ↓u29_29, ↓u29_30, ↓sf5 hj, h1, h5, if_true, if_false, ↓s_o hj, ↓s_fact3 hj (show i < 20 by omega), ↓s_fact5 hj (show i < 20 by omega), ↓c_v_some, nI_1]
    by_cases hx : fact (g.1 j) i 3 = x
    · simp only [smI, hx, if_true] at ih1 ⊢
      exact ih1
    · simp only [smI, hx, if_false, add0] at ih1 ⊢
      exact ih1
theorem s_lessonsOfTeacher (hj : j < 7) (hn : okN (g.1 j)) {x : Int32} : ev sc 29 [.ref (bs j), .int x] (Wd g) Q = Q (some (.int (smI (fun c => if fact (g.1 j) c 3 = x then fact (g.1 j) c 5 else 0) (nC (g.1 j))))) (Wd g) := by
  simp only [↓en29, ↓u29_0, ↓u29_1, ↓u29_2, ↓u29_3, ↓u29_5, ↓u29_6, ↓u29_9, ↓u29_37, ↓u29_12, ↓u29_38, ↓u29_13, ↓u29_14, ↓u29_15, ↓u29_18, ↓u29_19, ↓u29_31, ↓u29_22, ↓u29_34, ↓u29_23, ↓u29_24, ↓u29_25, ↓u29_26, ↓u29_29, ↓u29_30]
  exact s_lessonsOfTeacher_l hj hn (nC (g.1 j)) 0 (by omega)
def misS (s : SV) (c : Nat) : Int32 := fact s c 5 - nI (plc s c)
theorem s_allMissing_l (hj : j < 7) (hn : okN (g.1 j)) : ∀ (d i : Nat), i + d = nC (g.1 j) → rv sc 39 4 [(0, .ref (bs j)), (1, .int (smI (misS (g.1 j)) i)), (2, .int (nI i))] [] (Wd g) Q = Q (some (.int (smI (misS (g.1 j)) (nC (g.1 j))))) (Wd g) := by
  obtain ⟨-, -, -, -, -, ⟨h1, h2⟩⟩ := hn
  intro d
  induction d with
  | zero =>
    intro i hi
    have h5 : nI (nC (g.1 j)) ≤ nI i := nI_le (by omega) (by omega)
    rw [u39_4]
    simp only [↓u39_0, ↓u39_1, ↓u39_2, ↓u39_3, ↓u39_5, ↓u39_6, ↓u39_9, ↓u39_26, ↓u39_12, ↓u39_27, ↓u39_13, ↓u39_14, ↓u39_15, ↓u39_18, ↓u39_19, ↓u39_20, ↓u39_23, ↓sf5 hj, h1, h5, if_true, if_false]
    rw [show i = nC (g.1 j) by omega]
  | succ d ih =>
    intro i hi
    have h5 : ¬ nI (nC (g.1 j)) ≤ nI i := nI_ge (by omega) (by omega)
    have ih1 := ih (i + 1) (by omega)
    rw [u39_4]
    simp only [↓u39_0, ↓u39_1, ↓u39_2, ↓u39_3, ↓u39_5, ↓u39_6, ↓u39_9, ↓u39_26, ↓u39_12, ↓u39_27, ↓u39_13, ↓u39_14, ↓u39_15, ↓u39_18, ↓u39_19, ↓u39_20, ↓u39_23, ↓sf5 hj, h1, h5, if_true, if_false, ↓s_o hj, ↓s_missing hj (show i < 20 by omega), ↓c_v_some, nI_1]
    exact ih1
theorem s_allMissing (hj : j < 7) (hn : okN (g.1 j)) : ev sc 39 [.ref (bs j)] (Wd g) Q = Q (some (.int (smI (misS (g.1 j)) (nC (g.1 j))))) (Wd g) := by
  simp only [↓en39, ↓u39_0, ↓u39_1, ↓u39_2, ↓u39_3, ↓u39_5, ↓u39_6, ↓u39_9, ↓u39_26, ↓u39_12, ↓u39_27, ↓u39_13, ↓u39_14, ↓u39_15, ↓u39_18, ↓u39_19, ↓u39_20, ↓u39_23]
  exact s_allMissing_l hj hn (nC (g.1 j)) 0 (by omega)
theorem s_lessonsIn_l (hj : j < 7) (hn : okN (g.1 j)) {m : Nat} (hm : m < 64) : ∀ (d i : Nat), i + d = nC (g.1 j) → rv sc 40 4 [(0, .ref (bs j)), (1, .int (nI m)), (2, .int (nI (ct (fun c => hC (g.1 j) c m) i))), (3, .int (nI i))] [] (Wd g) Q = Q (some (.int (nI (ct (fun c => hC (g.1 j) c m) (nC (g.1 j)))))) (Wd g) := by
  obtain ⟨-, -, -, -, -, ⟨h1, h2⟩⟩ := hn
  intro d
  induction d with
  | zero =>
    intro i hi
    have h5 : nI (nC (g.1 j)) ≤ nI i := nI_le (by omega) (by omega)
    rw [u40_4]
    simp only [↓u40_0, ↓u40_1, ↓u40_2, ↓u40_3, ↓u40_5, ↓u40_6, ↓u40_9, ↓u40_33, ↓u40_12, ↓u40_34, ↓u40_13, ↓u40_16, ↓u40_17, ↓u40_18, ↓u40_21, ↓u40_27, ↓u40_24, ↓u40_30, ↓sf5 hj, h1, h5, if_true, if_false]
    rw [show i = nC (g.1 j) by omega]
  | succ d ih =>
    intro i hi
    have h5 : ¬ nI (nC (g.1 j)) ≤ nI i := nI_ge (by omega) (by omega)
    have ih1 := ih (i + 1) (by omega)
    rw [u40_4]
    simp only [↓u40_0, ↓u40_1, ↓u40_2, ↓u40_3, ↓u40_5, ↓u40_6, ↓u40_9, ↓u40_33, ↓u40_12, ↓u40_34, ↓u40_13, ↓u40_16, ↓u40_17, ↓u40_18, ↓u40_21, ↓u40_27, ↓u40_24, ↓u40_30, ↓sf5 hj, ↓sf12 hj, h1, h5, if_true, if_false, ↓s_o hj, ↓j_o3 hj, ↓s_hasC hj (show i < 20 by omega) hm, ↓c_v_some, nI_1]
    cases hx : hC (g.1 j) i m
    · simp only [ct, hx, if_false, bI_f, n00, if_true, Bool.false_eq_true, Nat.add_zero] at ih1 ⊢
      exact ih1
    · simp only [ct, hx, if_true, bI_t, n10, if_false] at ih1 ⊢
      exact ih1
theorem s_lessonsIn (hj : j < 7) (hn : okN (g.1 j)) {m : Nat} (hm : m < 64) : ev sc 40 [.ref (bs j), .int (nI m)] (Wd g) Q = Q (some (.int (nI (ct (fun c => hC (g.1 j) c m) (nC (g.1 j)))))) (Wd g) := by
  simp only [↓en40, ↓u40_0, ↓u40_1, ↓u40_2, ↓u40_3, ↓u40_5, ↓u40_6, ↓u40_9, ↓u40_33, ↓u40_12, ↓u40_34, ↓u40_13, ↓u40_16, ↓u40_17, ↓u40_18, ↓u40_21, ↓u40_27, ↓u40_24, ↓u40_30]
  exact s_lessonsIn_l hj hn hm (nC (g.1 j)) 0 (by omega)
theorem s_openBefore_l (hj : j < 7) {e : Nat} (he : e ≤ 400) : ∀ (d i : Nat), i + d = e → rv sc 21 4 [(0, .ref (bs j)), (1, .int (nI e)), (2, .int (nI (ct (fun q => !hol (g.1 j) q) i))), (3, .int (nI i))] [] (Wd g) Q = Q (some (.int (nI (ct (fun q => !hol (g.1 j) q) e)))) (Wd g) := by
  intro d
  induction d with
  | zero =>
    intro i hi
    have h5 : nI e ≤ nI i := nI_le (by omega) (by omega)
    rw [u21_4]
    simp only [↓u21_0, ↓u21_1, ↓u21_2, ↓u21_3, ↓u21_5, ↓u21_6, ↓u21_26, ↓u21_9, ↓u21_27, ↓u21_10, ↓u21_11, ↓u21_14, ↓u21_20, ↓u21_17, ↓u21_23, h5, if_true, if_false]
    rw [show i = e by omega]
  | succ d ih =>
    intro i hi
    have h5 : ¬ nI e ≤ nI i := nI_ge (by omega) (by omega)
    have ih1 := ih (i + 1) (by omega)
    rw [u21_4]
    simp only [↓u21_0, ↓u21_1, ↓u21_2, ↓u21_3, ↓u21_5, ↓u21_6, ↓u21_26, ↓u21_9, ↓u21_27, ↓u21_10, ↓u21_11, ↓u21_14, ↓u21_20, ↓u21_17, ↓u21_23, h5, if_true, if_false, ↓s_o hj, ↓s_isHoliday hj (show i < 400 by omega), ↓c_v_some, nI_1]
    cases hx : hol (g.1 j) i
    · simp only [ct, hx, bI_f, n00, if_true, Bool.not_false] at ih1 ⊢
      exact ih1
    · simp only [ct, hx, bI_t, n10, if_false, Bool.not_true, Bool.false_eq_true, Nat.add_zero] at ih1 ⊢
      exact ih1
theorem s_openBefore (hj : j < 7) {e : Nat} (he : e ≤ 400) : ev sc 21 [.ref (bs j), .int (nI e)] (Wd g) Q = Q (some (.int (nI (ct (fun q => !hol (g.1 j) q) e)))) (Wd g) := by
  simp only [↓en21, ↓u21_0, ↓u21_1, ↓u21_2, ↓u21_3, ↓u21_5, ↓u21_6, ↓u21_26, ↓u21_9, ↓u21_27, ↓u21_10, ↓u21_11, ↓u21_14, ↓u21_20, ↓u21_17, ↓u21_23]
  exact s_openBefore_l hj he e 0 (by omega)
theorem s_dayAfter (hj : j < 7) (hn : okN (g.1 j)) {e : Nat} (he : e < 2 ^ 31) : ev sc 22 [.ref (bs j), .int (nI e)] (Wd g) Q = Q (some (.int (nI (e % nD (g.1 j))))) (Wd g) := by
  obtain ⟨⟨h1, h2, h3⟩, -⟩ := hn
  have h4 : ¬ nI (nD (g.1 j)) ≤ 0 := nI_nle (by omega) (by omega)
  have h4' : (0 : Int32) < nI (nD (g.1 j)) := Int32.not_le.mp h4
  have h5 : ¬ nI (nD (g.1 j)) = 0 := nI_ne0 (by omega) (by omega)
  simp only [↓en22, ↓u22_0, ↓u22_1, ↓u22_4, ↓u22_11, ↓u22_7, ↓u22_12, ↓u22_8, ↓u22_13, ↓u22_17, ↓u22_16, ↓sf0 hj, h1, h4, h4', h5, if_true, if_false, pk_rem he (show 0 < nD (g.1 j) by omega) (by omega)]
theorem s_mostOnADay_l (hj : j < 7) (hn : okN (g.1 j)) {t : Nat} (ht : t < 8) : ∀ (d i : Nat), i + d = nD (g.1 j) → rv sc 41 4 [(0, .ref (bs j)), (1, .int (nI t)), (2, .int (nI (mxN (fun q => ct (fun k => hT (g.1 j) t (q * nP (g.1 j) + k)) (nP (g.1 j))) i))), (3, .int (nI i))] [] (Wd g) Q = Q (some (.int (nI (mxN (fun q => ct (fun k => hT (g.1 j) t (q * nP (g.1 j) + k)) (nP (g.1 j))) (nD (g.1 j)))))) (Wd g) := by
  obtain ⟨⟨h1, h2, h3⟩, ⟨h4, h6, h7⟩, -⟩ := hn
  have hmx : ∀ i, mxN (fun q => ct (fun k => hT (g.1 j) t (q * nP (g.1 j) + k)) (nP (g.1 j))) i ≤ 6 := by
    intro i
    induction i with
    | zero => exact Nat.zero_le _
    | succ i ih =>
      unfold mxN
      split
      · exact Nat.le_trans (ct_le _ _) h7
      · exact ih
  intro d
  induction d with
  | zero =>
    intro i hi
    have h5 : nI (nD (g.1 j)) ≤ nI i := nI_le (by omega) (by omega)
    rw [u41_4]
    simp only [↓u41_0, ↓u41_1, ↓u41_2, ↓u41_3, ↓u41_5, ↓u41_6, ↓u41_9, ↓u41_41, ↓u41_12, ↓u41_42, ↓u41_13, ↓u41_14, ↓u41_17, ↓u41_18, ↓u41_19, ↓u41_20, ↓u41_23, ↓u41_24, ↓u41_25, ↓u41_28, ↓u41_31, ↓u41_34, ↓u41_35, ↓u41_38, ↓sf0 hj, h1, h5, if_true, if_false]
    rw [show i = nD (g.1 j) by omega]
  | succ d ih =>
    intro i hi
    have h5 : ¬ nI (nD (g.1 j)) ≤ nI i := nI_ge (by omega) (by omega)
    have ih1 := ih (i + 1) (by omega)
    have him : i * nP (g.1 j) < 64 := by
      have : i * nP (g.1 j) ≤ 8 * 6 := Nat.mul_le_mul (by omega) h7
      omega
    have hw : ∀ Q, ev sc 7 [.ref (bs j + 15), .int (nI t), .int (nI (i * nP (g.1 j))), .int (nI (nP (g.1 j)))] (Wd g) Q = Q (some (.int (nI (ct (fun k => hT (g.1 j) t (i * nP (g.1 j) + k)) (nP (g.1 j)))))) (Wd g) := fun Q => s_within (jo4 hj) (jj4 hj) ht (by decide) him (by omega)
    have hlt : (nI (mxN (fun q => ct (fun k => hT (g.1 j) t (q * nP (g.1 j) + k)) (nP (g.1 j))) i) < nI (ct (fun k => hT (g.1 j) t (i * nP (g.1 j) + k)) (nP (g.1 j)))) = (mxN (fun q => ct (fun k => hT (g.1 j) t (q * nP (g.1 j) + k)) (nP (g.1 j))) i < ct (fun k => hT (g.1 j) t (i * nP (g.1 j) + k)) (nP (g.1 j))) := propext (nI_ltI (by have := hmx i; omega) (by have := ct_le (fun k => hT (g.1 j) t (i * nP (g.1 j) + k)) (nP (g.1 j)); omega))
    rw [u41_4]
    simp only [↓u41_0, ↓u41_1, ↓u41_2, ↓u41_3, ↓u41_5, ↓u41_6, ↓u41_9, ↓u41_41, ↓u41_12, ↓u41_42, ↓u41_13, ↓u41_14, ↓u41_17, ↓u41_18, ↓u41_19, ↓u41_20, ↓u41_23, ↓u41_24, ↓u41_25, ↓u41_28, ↓u41_31, ↓u41_34, ↓u41_35, ↓u41_38, ↓sf0 hj, ↓sf1 hj, ↓sf13 hj, h1, h4, h5, if_true, if_false, ↓j_o4 hj, pk_mul, ↓hw, ↓c_v_some, nI_1, hlt]
    rw [← ih1]
    congr 1
    simp only [mxN]
    split <;> rfl
theorem s_mostOnADay (hj : j < 7) (hn : okN (g.1 j)) {t : Nat} (ht : t < 8) : ev sc 41 [.ref (bs j), .int (nI t)] (Wd g) Q = Q (some (.int (nI (mxN (fun q => ct (fun k => hT (g.1 j) t (q * nP (g.1 j) + k)) (nP (g.1 j))) (nD (g.1 j)))))) (Wd g) := by
  simp only [↓en41, ↓u41_0, ↓u41_1, ↓u41_2, ↓u41_3, ↓u41_5, ↓u41_6, ↓u41_9, ↓u41_41, ↓u41_12, ↓u41_42, ↓u41_13, ↓u41_14, ↓u41_17, ↓u41_18, ↓u41_19, ↓u41_20, ↓u41_23, ↓u41_24, ↓u41_25, ↓u41_28, ↓u41_31, ↓u41_34, ↓u41_35, ↓u41_38]
  exact s_mostOnADay_l hj hn ht (nD (g.1 j)) 0 (by omega)
theorem s_windows_l (hj : j < 7) (hn : okN (g.1 j)) {a r n i0 : Nat} {f : Nat → Int64} (ho : ri_gO (Wd g) a = some (1, [.ref r])) (hf : ri_gJ (Wd g) r = some (n, f)) (hi0 : i0 < n) (hn31 : n < 2 ^ 31) : ∀ (d i : Nat), i + d = nD (g.1 j) → rv sc 42 5 [(0, .ref (bs j)), (1, .ref a), (2, .int (nI i0)), (3, .int (nI (sm (fun q => (gp (fun k => bt6 (f i0) (q * nP (g.1 j) + k)) (nP (g.1 j))).1) i))), (4, .int (nI i))] [] (Wd g) Q = Q (some (.int (nI (sm (fun q => (gp (fun k => bt6 (f i0) (q * nP (g.1 j) + k)) (nP (g.1 j))).1) (nD (g.1 j)))))) (Wd g) := by
  obtain ⟨⟨h1, h2, h3⟩, ⟨h4, h6, h7⟩, -⟩ := hn
  intro d
  induction d with
  | zero =>
    intro i hi
    have h5 : nI (nD (g.1 j)) ≤ nI i := nI_le (by omega) (by omega)
    rw [u42_5]
    simp only [↓u42_0, ↓u42_1, ↓u42_2, ↓u42_3, ↓u42_7, ↓u42_8, ↓u42_11, ↓u42_39, ↓u42_14, ↓u42_40, ↓u42_15, ↓u42_16, ↓u42_17, ↓u42_19, ↓u42_20, ↓u42_23, ↓u42_24, ↓u42_25, ↓u42_28, ↓u42_31, ↓u42_32, ↓u42_33, ↓u42_36, ↓sf0 hj, h1, h5, if_true, if_false]
    rw [show i = nD (g.1 j) by omega]
  | succ d ih =>
    intro i hi
    have h5 : ¬ nI (nD (g.1 j)) ≤ nI i := nI_ge (by omega) (by omega)
    have ih1 := ih (i + 1) (by omega)
    have him : i * nP (g.1 j) + nP (g.1 j) ≤ 48 := by
      have : (i + 1) * nP (g.1 j) ≤ 8 * 6 := Nat.mul_le_mul (by omega) h7
      rw [Nat.add_mul] at this
      omega
    have hw := fun Q => s_gaps (sc := sc) (Q := Q) (m := i * nP (g.1 j)) (l := nP (g.1 j)) ho hf hi0 hn31 (by omega)
    rw [u42_5]
    simp only [↓u42_0, ↓u42_1, ↓u42_2, ↓u42_3, ↓u42_7, ↓u42_8, ↓u42_11, ↓u42_39, ↓u42_14, ↓u42_40, ↓u42_15, ↓u42_16, ↓u42_17, ↓u42_19, ↓u42_20, ↓u42_23, ↓u42_24, ↓u42_25, ↓u42_28, ↓u42_31, ↓u42_32, ↓u42_33, ↓u42_36, ↓sf0 hj, ↓sf1 hj, h1, h4, h5, if_true, if_false, ↓o_of ho, pk_mul, ↓hw, ↓c_v_some, nI_1, nI_add]
    exact ih1
theorem s_windows (hj : j < 7) (hn : okN (g.1 j)) {a r n i0 : Nat} {f : Nat → Int64} (ho : ri_gO (Wd g) a = some (1, [.ref r])) (hf : ri_gJ (Wd g) r = some (n, f)) (hi0 : i0 < n) (hn31 : n < 2 ^ 31) : ev sc 42 [.ref (bs j), .ref a, .int (nI i0)] (Wd g) Q = Q (some (.int (nI (sm (fun q => (gp (fun k => bt6 (f i0) (q * nP (g.1 j) + k)) (nP (g.1 j))).1) (nD (g.1 j)))))) (Wd g) := by
  simp only [↓en42, ↓u42_0, ↓u42_1, ↓u42_2, ↓u42_3, ↓u42_7, ↓u42_8, ↓u42_11, ↓u42_39, ↓u42_14, ↓u42_40, ↓u42_15, ↓u42_16, ↓u42_17, ↓u42_19, ↓u42_20, ↓u42_23, ↓u42_24, ↓u42_25, ↓u42_28, ↓u42_31, ↓u42_32, ↓u42_33, ↓u42_36]
  exact s_windows_l hj hn ho hf hi0 hn31 (nD (g.1 j)) 0 (by omega)
end
