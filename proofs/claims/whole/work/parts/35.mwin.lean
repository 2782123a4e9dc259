/-! THE PLAIN FORM: what is told of teachers, groups and rooms -/
section
variable {sc : Nat × (Nat → Int32)} {g : SG} {s : SV} {Q : Option Value → ri_W → Prop}
def tkP (s : SV) (c : Nat) (gr pt : Int32) : Bool := isF s c gr && (decide (pt = 0) || decide (fact s c 2 = 0) || decide (fact s c 2 = pt))
theorem m_takesPart (hM : g.2.2.2.2 0 = mdl s) {c : Nat} {x pt : Int32} (hc : c < 20) : ev sc 163 [.ref 154, .int (nI c), .int x, .int pt] (Wd g) Q = Q (some (.int (bI (tkP s c x pt)))) (Wd g) := by
  simp only [↓en163, ↓u163_0, ↓u163_1, ↓u163_2, ↓u163_3, ↓u163_6, ↓u163_36, ↓u163_9, ↓u163_37, ↓u163_10, ↓u163_32, ↓u163_13, ↓u163_33, ↓u163_14, ↓u163_15, ↓u163_16, ↓u163_19, ↓u163_22, ↓u163_23, ↓u163_24, ↓u163_25, ↓u163_28, ↓u163_29, ↓d_o, ↓m_isFor hM hc, ↓m_of2 hM hc, ↓c_v_some, ↓c_b_0, ↓c_b_1]
  unfold tkP
  cases isF s c x <;> by_cases h3 : pt = 0 <;> by_cases h4 : fact s c 2 = 0 <;> by_cases h5 : fact s c 2 = pt <;> simp [h3, h4, h5, bI]
/-- the class asks the same -/
theorem tkP_S (hI : inv s) {c x : Nat} {pt : Int32} (hc : c < nC s) (hx : x < 8) : tkP s c (nI x) pt = isForS s c (nI x) pt := by
  obtain ⟨⟨a1, a2⟩, a3⟩ := grp hI hc
  unfold tkP isF isForS
  rcases a3 with ⟨a3, a4⟩ | ⟨a3, a4, a5, a6⟩
  · have : ¬ (-5 : Int32) = nI x := fun e => nI_n5 (show x < 2 ^ 31 by omega) e.symm
    rw [a3]
    simp only [this, decide_false, Bool.or_false, Bool.false_or, Bool.or_assoc]
  · rw [a6]
    simp [Bool.or_comm]
theorem isFor_tk (hI : inv s) {c x h : Nat} (hc : c < nC s) (hx : x < 8) (hh : h = 1 ∨ h = 2) : isForS s c (nI x) (nI h) = tk s c (x * 2 + h - 1) := by
  obtain ⟨⟨a1, a2⟩, a3⟩ := grp hI hc
  have q1 : (nI (fG s c) = nI x) = (fG s c = x) := propext (nI_eq (by omega) (by omega))
  have e0 : ¬ nI h = 0 := nI_ne0 (by omega) (by omega)
  unfold isForS tk
  rw [a1]
  have e1 : (x * 2 + h - 1) / 2 = x := by omega
  have e2 : (x * 2 + h - 1) % 2 + 1 = h := by omega
  rw [e1, e2]
  rcases a3 with ⟨a3, a4⟩ | ⟨a3, a4, a5, a6⟩
  · have : ¬ (-5 : Int32) = nI x := fun e => nI_n5 (show x < 2 ^ 31 by omega) e.symm
    rw [a3]
    simp [this, q1, e0]
  · have q2 : (nI (fJ s c) = nI x) = (fJ s c = x) := propext (nI_eq (by omega) (by omega))
    rw [a6]
    have a7 : decide (fact s c 1 = -5) = false := decide_eq_false a5
    rw [a7, a3]
    simp [q1, q2, Bool.or_comm]
theorem any_H (hI : inv s) {x h m : Nat} (hx : x < 8) (hh : h = 1 ∨ h = 2) : anyB (fun c => tkP s c (nI x) (nI h) && hC s c m) (nC s) = hH s (x * 2 + h - 1) m := by
  rw [Bool.eq_iff_iff, anyB_iff, hI.2.2.2.2.1.2.2.2.2.2.2.2.1 _ m]
  constructor
  · rintro ⟨c, h1, h2⟩
    rw [tkP_S hI h1 hx, isFor_tk hI h1 hx hh, Bool.and_eq_true] at h2
    exact ⟨c, h2.2, h2.1⟩
  · rintro ⟨c, h1, h2⟩
    have h3 := (inv_C hI h1).1
    refine ⟨c, h3, ?_⟩
    rw [tkP_S hI h3 hx, isFor_tk hI h3 hx hh, h1, h2]
    rfl

theorem m_courseFor_l (hI : inv s) (hM : g.2.2.2.2 0 = mdl s) {m : Nat} {x pt : Int32} (hm : m < 48) : ∀ (d i : Nat), i + d = nC s → rv sc 164 3 [(0, .ref 154), (1, .int x), (2, .int pt), (3, .int (nI m)), (4, .int (nI i))] [] (Wd g) Q = Q (some (.int (fdI (fun c => tkP s c x pt && hC s c m) i d))) (Wd g) := by
  have h48 := (sl48 hI).1
  have h20 := nC20 hI
  have h6 := nP6 hI
  have h8 := nD8 hI
  intro d
  induction d with
  | zero =>
    intro i hi
    have h5 : nI (nC s) ≤ nI i := nI_le (by omega) (by omega)
    rw [u164_3]
    simp only [↓u164_0, ↓u164_1, ↓u164_5, ↓u164_6, ↓u164_9, ↓u164_10, ↓u164_11, ↓u164_44, ↓u164_14, ↓u164_46, ↓u164_15, ↓u164_17, ↓u164_18, ↓u164_19, ↓u164_22, ↓u164_38, ↓u164_25, ↓u164_41, ↓u164_26, ↓u164_28, ↓u164_29, ↓u164_32, ↓u164_35, ↓u164_37, h5, if_true, if_false, ↓df0, ↓dI0, r5, m5, hM, mdl_n (show 5 < 6 by decide), nC_eq hI]
    rfl
  | succ d ih =>
    intro i hi
    have h5 : ¬ nI (nC s) ≤ nI i := nI_ge (by omega) (by omega)
    have ih1 := ih (i + 1) (by omega)
    rw [u164_3]
    simp only [↓u164_0, ↓u164_1, ↓u164_5, ↓u164_6, ↓u164_9, ↓u164_10, ↓u164_11, ↓u164_44, ↓u164_14, ↓u164_46, ↓u164_15, ↓u164_17, ↓u164_18, ↓u164_19, ↓u164_22, ↓u164_38, ↓u164_25, ↓u164_41, ↓u164_26, ↓u164_28, ↓u164_29, ↓u164_32, ↓u164_35, ↓u164_37, h5, if_true, if_false, ↓df0, ↓dI0, r5, m5, hM, mdl_n (show 5 < 6 by decide), nC_eq hI, ↓d_o, ↓m_takesPart hM (show i < 20 by omega), ↓m_has hI hM (show i < 20 by omega) hm, ↓c_v_some, nI_1, ih1, fdI_succ]
    cases tkP s i x pt <;> cases hC s i m <;> simp [bI]

theorem m_courseFor (hI : inv s) (hM : g.2.2.2.2 0 = mdl s) {m : Nat} {x pt : Int32} (hm : m < 48) : ev sc 164 [.ref 154, .int x, .int pt, .int (nI m)] (Wd g) Q = Q (some (.int (fdI (fun c => tkP s c x pt && hC s c m) 0 (nC s)))) (Wd g) := by
  have h48 := (sl48 hI).1
  have h20 := nC20 hI
  have h6 := nP6 hI
  have h8 := nD8 hI
  simp only [↓en164, ↓u164_0, ↓u164_1, ↓u164_5, ↓u164_6, ↓u164_9, ↓u164_10, ↓u164_11, ↓u164_44, ↓u164_14, ↓u164_46, ↓u164_15, ↓u164_17, ↓u164_18, ↓u164_19, ↓u164_22, ↓u164_38, ↓u164_25, ↓u164_41, ↓u164_26, ↓u164_28, ↓u164_29, ↓u164_32, ↓u164_35, ↓u164_37]
  exact m_courseFor_l hI hM hm (nC s) 0 (by omega)

def lastI (p : Nat → Bool) (i : Nat) : Int32 := if (gp p i).2.2 = true then nI (i - 1 - (gp p i).2.1) else -5
theorem gp_lt {p : Nat → Bool} : ∀ {i : Nat}, (gp p i).2.2 = true → (gp p i).2.1 < i
  | 0, h => absurd h (by simp [gp])
  | i + 1, h => by
    unfold gp at h ⊢
    split
    · exact Nat.succ_pos i
    · rename_i e
      rw [if_neg e] at h
      exact Nat.succ_lt_succ (gp_lt h)
theorem gp_succ {p : Nat → Bool} {n : Nat} : gp p (n + 1) = if p n = true then ((if (gp p n).2.2 = true then (gp p n).1 + (gp p n).2.1 else (gp p n).1), 0, true) else ((gp p n).1, (gp p n).2.1 + 1, (gp p n).2.2) := rfl
theorem nI_sub {a b : Nat} (h : b ≤ a) : nI a - nI b = nI (a - b) := by
  obtain ⟨d, rfl⟩ := Nat.exists_eq_add_of_le h
  rw [← nI_add, Nat.add_sub_cancel_left, Int32.add_comm, Int32.add_sub_cancel]
theorem m_windows_l2 (hI : inv s) (hM : g.2.2.2.2 0 = mdl s) {x : Int32} {pt : Int32} {fd : Nat → Int32} {oc : Nat → Bool} (hp : (pt = 0 ∧ ∀ m, m < 48 → ∀ Q, ev sc 135 [.ref 154, .int x, .int (nI m)] (Wd g) Q = Q (some (.int (fd m))) (Wd g)) ∨ (¬ pt = 0 ∧ ∀ m, m < 48 → ∀ Q, ev sc 164 [.ref 154, .int x, .int pt, .int (nI m)] (Wd g) Q = Q (some (.int (fd m))) (Wd g))) (hoc : ∀ m, m < 48 → (fd m = -5) = (oc m = false)) {e n : Nat} (he : e < nD s) : ∀ (d i : Nat), i + d = nP s → rv sc 168 23 [(0, .ref 154), (1, .int x), (2, .int pt), (3, .int (nI (n + (gp (fun k => oc (e * nP s + k)) i).1))), (4, .int (nI e)), (5, .int (lastI (fun k => oc (e * nP s + k)) i)), (6, .int (nI i))] [] (Wd g) Q = rv sc 168 5 [(0, .ref 154), (1, .int x), (2, .int pt), (3, .int (nI (n + (gp (fun k => oc (e * nP s + k)) (nP s)).1))), (4, .int (nI (e + 1)))] [] (Wd g) Q := by
  have h48 := (sl48 hI).1
  have h20 := nC20 hI
  have h6 := nP6 hI
  have h8 := nD8 hI
  intro d
  induction d with
  | zero =>
    intro i hi
    have h5 : nI (nP s) ≤ nI i := nI_le (by omega) (by omega)
    rw [u168_23]
    simp only [↓u168_0, ↓u168_1, ↓u168_2, ↓u168_3, ↓u168_7, ↓u168_8, ↓u168_11, ↓u168_12, ↓u168_13, ↓u168_116, ↓u168_16, ↓u168_117, ↓u168_18, ↓u168_20, ↓u168_21, ↓u168_25, ↓u168_26, ↓u168_29, ↓u168_30, ↓u168_31, ↓u168_110, ↓u168_34, ↓u168_113, ↓u168_36, ↓u168_37, ↓u168_40, ↓u168_41, ↓u168_42, ↓u168_43, ↓u168_45, ↓u168_46, ↓u168_48, ↓u168_49, ↓u168_62, ↓u168_52, ↓u168_63, ↓u168_53, ↓u168_64, ↓u168_54, ↓u168_65, ↓u168_56, ↓u168_67, ↓u168_59, ↓u168_70, ↓u168_72, ↓u168_74, ↓u168_76, ↓u168_104, ↓u168_79, ↓u168_107, ↓u168_80, ↓u168_82, ↓u168_84, ↓u168_91, ↓u168_87, ↓u168_93, ↓u168_88, ↓u168_95, ↓u168_98, ↓u168_96, ↓u168_99, ↓u168_97, ↓u168_100, ↓u168_102, h5, if_true, if_false, ↓df0, ↓dI0, r1, m1, hM, mdl_n (show 1 < 6 by decide), nP_eq hI, nI_1]
    rw [show i = nP s by omega]
  | succ d ih =>
    intro i hi
    have h5 : ¬ nI (nP s) ≤ nI i := nI_ge (by omega) (by omega)
    have ih1 := ih (i + 1) (by omega)
    have hlt := day_lt hI he (show i < nP s by omega)
    have hm := hoc (e * nP s + i) (by omega)
    have hq : ∀ (Q : Prop), lastI (fun k => oc (e * nP s + k)) (i + 1) = (if oc (e * nP s + i) = true then nI i else lastI (fun k => oc (e * nP s + k)) i) := fun Q => by
      unfold lastI
      rw [gp_succ]
      by_cases hb : oc (e * nP s + i) = true
      · simp only [hb, if_true]
        rfl
      · rw [if_neg hb, if_neg hb]
        show (if (gp (fun k => oc (e * nP s + k)) i).2.2 = true then nI (i + 1 - 1 - ((gp (fun k => oc (e * nP s + k)) i).2.1 + 1)) else -5) = _
        split
        · rw [show i + 1 - 1 - ((gp (fun k => oc (e * nP s + k)) i).2.1 + 1) = i - 1 - (gp (fun k => oc (e * nP s + k)) i).2.1 by omega]
        · rfl
    have hl := hq True
    have hle := @gp_lt (fun k => oc (e * nP s + k)) i
    rw [u168_23]
    rcases hp with ⟨p0, hf⟩ | ⟨p0, hf⟩
    all_goals
      have hff := fun Q => hf (e * nP s + i) (by omega) Q
      simp only [↓u168_0, ↓u168_1, ↓u168_2, ↓u168_3, ↓u168_7, ↓u168_8, ↓u168_11, ↓u168_12, ↓u168_13, ↓u168_116, ↓u168_16, ↓u168_117, ↓u168_18, ↓u168_20, ↓u168_21, ↓u168_25, ↓u168_26, ↓u168_29, ↓u168_30, ↓u168_31, ↓u168_110, ↓u168_34, ↓u168_113, ↓u168_36, ↓u168_37, ↓u168_40, ↓u168_41, ↓u168_42, ↓u168_43, ↓u168_45, ↓u168_46, ↓u168_48, ↓u168_49, ↓u168_62, ↓u168_52, ↓u168_63, ↓u168_53, ↓u168_64, ↓u168_54, ↓u168_65, ↓u168_56, ↓u168_67, ↓u168_59, ↓u168_70, ↓u168_72, ↓u168_74, ↓u168_76, ↓u168_104, ↓u168_79, ↓u168_107, ↓u168_80, ↓u168_82, ↓u168_84, ↓u168_91, ↓u168_87, ↓u168_93, ↓u168_88, ↓u168_95, ↓u168_98, ↓u168_96, ↓u168_99, ↓u168_97, ↓u168_100, ↓u168_102, h5, p0, if_true, if_false, ↓df0, ↓dI0, r1, m1, hM, mdl_n (show 1 < 6 by decide), nP_eq hI, ↓d_o, pk_mul, nI_add, nI_1, hff, ↓c_v_some, hm]
      rw [hl, gp_succ] at ih1
      cases hb : oc (e * nP s + i)
      · simp only [hb, if_true, if_false, Bool.false_eq_true, p0] at ih1 ⊢
        exact ih1
      · cases hs : (gp (fun k => oc (e * nP s + k)) i).2.2
        · have hl0 : lastI (fun k => oc (e * nP s + k)) i = -5 := by
            unfold lastI
            rw [hs]
            rfl
          simp only [hb, hs, hl0, if_true, if_false, Bool.false_eq_true, Bool.true_eq_false, p0, add0, reduceCtorEq] at ih1 ⊢
          exact ih1
        · have hle2 := hle hs
          have hl0 : lastI (fun k => oc (e * nP s + k)) i = nI (i - 1 - (gp (fun k => oc (e * nP s + k)) i).2.1) := by
            unfold lastI
            rw [hs]
            rfl
          have hl1 : ¬ nI (i - 1 - (gp (fun k => oc (e * nP s + k)) i).2.1) = -5 := nI_n5 (by omega)
          have hl2 : nI i - nI (i - 1 - (gp (fun k => oc (e * nP s + k)) i).2.1) - 1 = nI (gp (fun k => oc (e * nP s + k)) i).2.1 := by
            rw [nI_sub (by omega), show (1 : Int32) = nI 1 from rfl, nI_sub (by omega)]
            congr 1
            omega
          simp only [hb, hs, hl0, hl1, hl2, if_true, if_false, Bool.false_eq_true, Bool.true_eq_false, p0, nI_add, Nat.add_assoc, reduceCtorEq] at ih1 ⊢
          exact ih1
theorem m_windows_l (hI : inv s) (hM : g.2.2.2.2 0 = mdl s) {x : Int32} {pt : Int32} {fd : Nat → Int32} {oc : Nat → Bool} (hp : (pt = 0 ∧ ∀ m, m < 48 → ∀ Q, ev sc 135 [.ref 154, .int x, .int (nI m)] (Wd g) Q = Q (some (.int (fd m))) (Wd g)) ∨ (¬ pt = 0 ∧ ∀ m, m < 48 → ∀ Q, ev sc 164 [.ref 154, .int x, .int pt, .int (nI m)] (Wd g) Q = Q (some (.int (fd m))) (Wd g))) (hoc : ∀ m, m < 48 → (fd m = -5) = (oc m = false)) : ∀ (d i : Nat), i + d = nD s → rv sc 168 5 [(0, .ref 154), (1, .int x), (2, .int pt), (3, .int (nI (sm (fun e => (gp (fun k => oc (e * nP s + k)) (nP s)).1) i))), (4, .int (nI i))] [] (Wd g) Q = Q (some (.int (nI (sm (fun e => (gp (fun k => oc (e * nP s + k)) (nP s)).1) (nD s))))) (Wd g) := by
  have h48 := (sl48 hI).1
  have h20 := nC20 hI
  have h6 := nP6 hI
  have h8 := nD8 hI
  intro d
  induction d with
  | zero =>
    intro i hi
    have h5 : nI (nD s) ≤ nI i := nI_le (by omega) (by omega)
    rw [u168_5]
    simp only [↓u168_0, ↓u168_1, ↓u168_2, ↓u168_3, ↓u168_7, ↓u168_8, ↓u168_11, ↓u168_12, ↓u168_13, ↓u168_116, ↓u168_16, ↓u168_117, ↓u168_18, ↓u168_20, ↓u168_21, ↓u168_25, ↓u168_26, ↓u168_29, ↓u168_30, ↓u168_31, ↓u168_110, ↓u168_34, ↓u168_113, ↓u168_36, ↓u168_37, ↓u168_40, ↓u168_41, ↓u168_42, ↓u168_43, ↓u168_45, ↓u168_46, ↓u168_48, ↓u168_49, ↓u168_62, ↓u168_52, ↓u168_63, ↓u168_53, ↓u168_64, ↓u168_54, ↓u168_65, ↓u168_56, ↓u168_67, ↓u168_59, ↓u168_70, ↓u168_72, ↓u168_74, ↓u168_76, ↓u168_104, ↓u168_79, ↓u168_107, ↓u168_80, ↓u168_82, ↓u168_84, ↓u168_91, ↓u168_87, ↓u168_93, ↓u168_88, ↓u168_95, ↓u168_98, ↓u168_96, ↓u168_99, ↓u168_97, ↓u168_100, ↓u168_102, h5, if_true, if_false, ↓df0, ↓dI0, r0, m0, hM, mdl_n (show 0 < 6 by decide), nD_eq hI]
    rw [show i = nD s by omega]
  | succ d ih =>
    intro i hi
    have h5 : ¬ nI (nD s) ≤ nI i := nI_ge (by omega) (by omega)
    have ih1 := ih (i + 1) (by omega)
    have hin := m_windows_l2 (sc := sc) (g := g) (Q := Q) hI hM hp hoc (e := i) (n := sm (fun e => (gp (fun k => oc (e * nP s + k)) (nP s)).1) i) (by omega) (nP s) 0 (by omega)
    rw [u168_5]
    simp only [↓u168_0, ↓u168_1, ↓u168_2, ↓u168_3, ↓u168_7, ↓u168_8, ↓u168_11, ↓u168_12, ↓u168_13, ↓u168_116, ↓u168_16, ↓u168_117, ↓u168_18, ↓u168_20, ↓u168_21, ↓u168_25, ↓u168_26, ↓u168_29, ↓u168_30, ↓u168_31, ↓u168_110, ↓u168_34, ↓u168_113, ↓u168_36, ↓u168_37, ↓u168_40, ↓u168_41, ↓u168_42, ↓u168_43, ↓u168_45, ↓u168_46, ↓u168_48, ↓u168_49, ↓u168_62, ↓u168_52, ↓u168_63, ↓u168_53, ↓u168_64, ↓u168_54, ↓u168_65, ↓u168_56, ↓u168_67, ↓u168_59, ↓u168_70, ↓u168_72, ↓u168_74, ↓u168_76, ↓u168_104, ↓u168_79, ↓u168_107, ↓u168_80, ↓u168_82, ↓u168_84, ↓u168_91, ↓u168_87, ↓u168_93, ↓u168_88, ↓u168_95, ↓u168_98, ↓u168_96, ↓u168_99, ↓u168_97, ↓u168_100, ↓u168_102, h5, if_true, if_false, ↓df0, ↓dI0, r0, m0, hM, mdl_n (show 0 < 6 by decide), nD_eq hI]
    exact hin.trans ih1
theorem m_windows0 (hI : inv s) (hM : g.2.2.2.2 0 = mdl s) {t : Nat} (ht : t < 8) : ev sc 168 [.ref 154, .int (nI t), .int 0] (Wd g) Q = Q (some (.int (nI (sm (fun e => (gp (fun k => hT s t (e * nP s + k)) (nP s)).1) (nD s))))) (Wd g) := by
  have h20 := nC20 hI
  simp only [↓en168, ↓u168_0, ↓u168_1, ↓u168_2, ↓u168_3, ↓u168_7, ↓u168_8, ↓u168_11, ↓u168_12, ↓u168_13, ↓u168_116, ↓u168_16, ↓u168_117, ↓u168_18, ↓u168_20, ↓u168_21, ↓u168_25, ↓u168_26, ↓u168_29, ↓u168_30, ↓u168_31, ↓u168_110, ↓u168_34, ↓u168_113, ↓u168_36, ↓u168_37, ↓u168_40, ↓u168_41, ↓u168_42, ↓u168_43, ↓u168_45, ↓u168_46, ↓u168_48, ↓u168_49, ↓u168_62, ↓u168_52, ↓u168_63, ↓u168_53, ↓u168_64, ↓u168_54, ↓u168_65, ↓u168_56, ↓u168_67, ↓u168_59, ↓u168_70, ↓u168_72, ↓u168_74, ↓u168_76, ↓u168_104, ↓u168_79, ↓u168_107, ↓u168_80, ↓u168_82, ↓u168_84, ↓u168_91, ↓u168_87, ↓u168_93, ↓u168_88, ↓u168_95, ↓u168_98, ↓u168_96, ↓u168_99, ↓u168_97, ↓u168_100, ↓u168_102]
  exact m_windows_l hI hM (oc := hT s t) (fd := fun m => fdI (fun c => decide (fact s c 3 = nI t) && hC s c m) 0 (nC s)) (.inl ⟨rfl, fun m hm Q => m_courseOf hI hM hm⟩) (fun m hm => by rw [fdI_n5 (by omega), any_T hI ht]) (nD s) 0 (by omega)
theorem m_windows1 (hI : inv s) (hM : g.2.2.2.2 0 = mdl s) {x h : Nat} (hx : x < 8) (hh : h = 1 ∨ h = 2) : ev sc 168 [.ref 154, .int (nI x), .int (nI h)] (Wd g) Q = Q (some (.int (nI (sm (fun e => (gp (fun k => hH s (x * 2 + h - 1) (e * nP s + k)) (nP s)).1) (nD s))))) (Wd g) := by
  have h20 := nC20 hI
  have e0 : ¬ nI h = 0 := nI_ne0 (by omega) (by omega)
  simp only [↓en168, ↓u168_0, ↓u168_1, ↓u168_2, ↓u168_3, ↓u168_7, ↓u168_8, ↓u168_11, ↓u168_12, ↓u168_13, ↓u168_116, ↓u168_16, ↓u168_117, ↓u168_18, ↓u168_20, ↓u168_21, ↓u168_25, ↓u168_26, ↓u168_29, ↓u168_30, ↓u168_31, ↓u168_110, ↓u168_34, ↓u168_113, ↓u168_36, ↓u168_37, ↓u168_40, ↓u168_41, ↓u168_42, ↓u168_43, ↓u168_45, ↓u168_46, ↓u168_48, ↓u168_49, ↓u168_62, ↓u168_52, ↓u168_63, ↓u168_53, ↓u168_64, ↓u168_54, ↓u168_65, ↓u168_56, ↓u168_67, ↓u168_59, ↓u168_70, ↓u168_72, ↓u168_74, ↓u168_76, ↓u168_104, ↓u168_79, ↓u168_107, ↓u168_80, ↓u168_82, ↓u168_84, ↓u168_91, ↓u168_87, ↓u168_93, ↓u168_88, ↓u168_95, ↓u168_98, ↓u168_96, ↓u168_99, ↓u168_97, ↓u168_100, ↓u168_102]
  exact m_windows_l hI hM (oc := hH s (x * 2 + h - 1)) (fd := fun m => fdI (fun c => tkP s c (nI x) (nI h) && hC s c m) 0 (nC s)) (.inr ⟨e0, fun m hm Q => m_courseFor hI hM hm⟩) (fun m hm => by rw [fdI_n5 (by omega), any_H hI hx hh]) (nD s) 0 (by omega)

end
