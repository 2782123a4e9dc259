def latS (s : SV) (c : Nat) (pl : Int32) : Nat → Nat → Nat → Int32
  | 0, _, _ => -5
  | d + 1, i, b => if hC s c i = true then (if nI b = pl then 10 * nI i + rmI (rmS s c i) else latS s c pl d (i + 1) (b + 1)) else latS s c pl d (i + 1) b
theorem latS_succ {s : SV} {c : Nat} {pl : Int32} {d i b : Nat} : latS s c pl (d + 1) i b = if hC s c i = true then (if nI b = pl then 10 * nI i + rmI (rmS s c i) else latS s c pl d (i + 1) (b + 1)) else latS s c pl d (i + 1) b := rfl
section
variable {sc : Nat × (Nat → Int32)} {g : SG} {Q : Option Value → ri_W → Prop}
theorem c_lessonAt_l (hI : inv (g.1 0)) {c : Nat} {pl : Int32} (hc : c < 20) : ∀ (d i b : Nat), i + d = slS (g.1 0) → rv sc 71 22 [(0, .ref 0), (1, .int (nI c)), (2, .int pl), (3, .int (nI b)), (4, .int (nI i))] [] (Wd g) Q = Q (some (.int (latS (g.1 0) c pl d i b))) (Wd g) := by
  have h48 := (sl48 hI).1
  intro d
  induction d with
  | zero =>
    intro i b hi
    have h5 : nI (slS (g.1 0)) ≤ nI i := nI_le (by omega) (by omega)
    rw [u71_22]
    simp only [↓u71_0, ↓u71_1, ↓u71_2, ↓u71_5, ↓u71_10, ↓u71_8, ↓u71_11, ↓u71_9, ↓u71_17, ↓u71_14, ↓u71_18, ↓u71_16, ↓u71_19, ↓u71_20, ↓u71_24, ↓u71_25, ↓u71_28, ↓u71_31, ↓u71_81, ↓u71_34, ↓u71_83, ↓u71_35, ↓u71_38, ↓u71_41, ↓u71_42, ↓u71_44, ↓u71_47, ↓u71_75, ↓u71_50, ↓u71_78, ↓u71_51, ↓u71_52, ↓u71_72, ↓u71_55, ↓u71_57, ↓u71_59, ↓u71_60, ↓u71_61, ↓u71_64, ↓u71_65, ↓u71_67, ↓u71_70, ↓u71_71, ↓nf0, ↓s_o z7, ↓s_slots z7, sl_eq hI, ↓c_v_some, h5, if_true, if_false]
    rfl
  | succ d ih =>
    intro i b hi
    have h5 : ¬ nI (slS (g.1 0)) ≤ nI i := nI_ge (by omega) (by omega)
    have ih1 := ih (i + 1) (b + 1) (by omega)
    have ih2 := ih (i + 1) b (by omega)
    rw [u71_22]
    simp only [↓u71_0, ↓u71_1, ↓u71_2, ↓u71_5, ↓u71_10, ↓u71_8, ↓u71_11, ↓u71_9, ↓u71_17, ↓u71_14, ↓u71_18, ↓u71_16, ↓u71_19, ↓u71_20, ↓u71_24, ↓u71_25, ↓u71_28, ↓u71_31, ↓u71_81, ↓u71_34, ↓u71_83, ↓u71_35, ↓u71_38, ↓u71_41, ↓u71_42, ↓u71_44, ↓u71_47, ↓u71_75, ↓u71_50, ↓u71_78, ↓u71_51, ↓u71_52, ↓u71_72, ↓u71_55, ↓u71_57, ↓u71_59, ↓u71_60, ↓u71_61, ↓u71_64, ↓u71_65, ↓u71_67, ↓u71_70, ↓u71_71, ↓nf0, ↓s_o z7, ↓s_slots z7, sl_eq hI, ↓c_v_some, h5, if_true, if_false, ↓sf12 z7, ↓j_o3 z7, ↓s_hasC z7 hc (show i < 64 by omega), ↓s_roomOf z7 hI.2.1 hc (show i < 64 by omega), roomS_rm hI, nI_1, ih1, ih2]
    rw [latS_succ]
    cases hC (g.1 0) c i
    · simp [bI]
    · by_cases e : nI b = pl <;> simp [bI, e]
theorem c_groupAt_l (hI : inv (g.1 0)) {m : Nat} {x pt : Int32} (hm : m < 64) : ∀ (d i : Nat), i + d = nC (g.1 0) → rv sc 72 36 [(0, .ref 0), (1, .int x), (2, .int pt), (3, .int (nI m)), (4, .int (nI i))] [] (Wd g) Q = Q (some (.int (fdI (fun c => hC (g.1 0) c m && isForS (g.1 0) c x pt) i d))) (Wd g) := by
  have h20 := nC20 hI
  intro d
  induction d with
  | zero =>
    intro i hi
    have h5 : nI (nC (g.1 0)) ≤ nI i := nI_le (by omega) (by omega)
    rw [u72_36]
    simp only [↓u72_0, ↓u72_1, ↓u72_2, ↓u72_5, ↓u72_19, ↓u72_8, ↓u72_20, ↓u72_9, ↓u72_12, ↓u72_13, ↓u72_16, ↓u72_21, ↓u72_22, ↓u72_23, ↓u72_24, ↓u72_27, ↓u72_33, ↓u72_30, ↓u72_34, ↓u72_32, ↓u72_38, ↓u72_39, ↓u72_42, ↓u72_45, ↓u72_87, ↓u72_48, ↓u72_89, ↓u72_49, ↓u72_52, ↓u72_55, ↓u72_57, ↓u72_58, ↓u72_61, ↓u72_81, ↓u72_64, ↓u72_84, ↓u72_65, ↓u72_68, ↓u72_70, ↓u72_71, ↓u72_72, ↓u72_75, ↓u72_78, ↓u72_80, h5, if_true, if_false, ↓nf0, ↓sf5 z7, nC_eq hI]
    rfl
  | succ d ih =>
    intro i hi
    have h5 : ¬ nI (nC (g.1 0)) ≤ nI i := nI_ge (by omega) (by omega)
    have ih1 := ih (i + 1) (by omega)
    rw [u72_36]
    simp only [↓u72_0, ↓u72_1, ↓u72_2, ↓u72_5, ↓u72_19, ↓u72_8, ↓u72_20, ↓u72_9, ↓u72_12, ↓u72_13, ↓u72_16, ↓u72_21, ↓u72_22, ↓u72_23, ↓u72_24, ↓u72_27, ↓u72_33, ↓u72_30, ↓u72_34, ↓u72_32, ↓u72_38, ↓u72_39, ↓u72_42, ↓u72_45, ↓u72_87, ↓u72_48, ↓u72_89, ↓u72_49, ↓u72_52, ↓u72_55, ↓u72_57, ↓u72_58, ↓u72_61, ↓u72_81, ↓u72_64, ↓u72_84, ↓u72_65, ↓u72_68, ↓u72_70, ↓u72_71, ↓u72_72, ↓u72_75, ↓u72_78, ↓u72_80, h5, if_true, if_false, ↓nf0, ↓sf5 z7, nC_eq hI, ↓s_o z7, ↓c_v_some, ↓sf12 z7, ↓j_o3 z7, ↓s_hasC z7 (show i < 20 by omega) hm, ↓s_isFor z7 (show i < 20 by omega), nI_1, ih1, fdI_succ]
    cases isForS (g.1 0) i x pt <;> cases hC (g.1 0) i m <;> simp [bI]
theorem c_roomAt_l (hI : inv (g.1 0)) {m r : Nat} (hm : m < 64) (hr : r < 6) : ∀ (d i : Nat), i + d = nC (g.1 0) → rv sc 73 26 [(0, .ref 0), (1, .int (nI r)), (2, .int (nI m)), (3, .int (nI i))] [] (Wd g) Q = Q (some (.int (fdI (fun c => hX (g.1 0) c r m) i d))) (Wd g) := by
  have h20 := nC20 hI
  intro d
  induction d with
  | zero =>
    intro i hi
    have h5 : nI (nC (g.1 0)) ≤ nI i := nI_le (by omega) (by omega)
    rw [u73_26]
    simp only [↓u73_0, ↓u73_1, ↓u73_4, ↓u73_5, ↓u73_8, ↓u73_22, ↓u73_11, ↓u73_23, ↓u73_12, ↓u73_15, ↓u73_16, ↓u73_19, ↓u73_24, ↓u73_25, ↓u73_27, ↓u73_28, ↓u73_31, ↓u73_34, ↓u73_58, ↓u73_37, ↓u73_60, ↓u73_38, ↓u73_41, ↓u73_42, ↓u73_43, ↓u73_44, ↓u73_47, ↓u73_52, ↓u73_50, ↓u73_55, ↓u73_51, h5, if_true, if_false, ↓nf0, ↓sf5 z7, nC_eq hI]
    rfl
  | succ d ih =>
    intro i hi
    have h5 : ¬ nI (nC (g.1 0)) ≤ nI i := nI_ge (by omega) (by omega)
    have ih1 := ih (i + 1) (by omega)
    rw [u73_26]
    simp only [↓u73_0, ↓u73_1, ↓u73_4, ↓u73_5, ↓u73_8, ↓u73_22, ↓u73_11, ↓u73_23, ↓u73_12, ↓u73_15, ↓u73_16, ↓u73_19, ↓u73_24, ↓u73_25, ↓u73_27, ↓u73_28, ↓u73_31, ↓u73_34, ↓u73_58, ↓u73_37, ↓u73_60, ↓u73_38, ↓u73_41, ↓u73_42, ↓u73_43, ↓u73_44, ↓u73_47, ↓u73_52, ↓u73_50, ↓u73_55, ↓u73_51, h5, if_true, if_false, ↓nf0, ↓sf5 z7, nC_eq hI, ↓s_o z7, ↓c_v_some, ↓s_isInRoom z7 (show i < 20 by omega) hr hm, nI_1, ih1, fdI_succ]
    cases hX (g.1 0) i r m <;> simp [bI]
theorem c_teacherAt_l (hI : inv (g.1 0)) {m : Nat} {x : Int32} (hm : m < 64) : ∀ (d i : Nat), i + d = nC (g.1 0) → rv sc 74 23 [(0, .ref 0), (1, .int x), (2, .int (nI m)), (3, .int (nI i))] [] (Wd g) Q = Q (some (.int (fdI (fun c => decide (fact (g.1 0) c 3 = x) && hC (g.1 0) c m) i d))) (Wd g) := by
  have h20 := nC20 hI
  intro d
  induction d with
  | zero =>
    intro i hi
    have h5 : nI (nC (g.1 0)) ≤ nI i := nI_le (by omega) (by omega)
    rw [u74_23]
    simp only [↓u74_0, ↓u74_1, ↓u74_2, ↓u74_5, ↓u74_19, ↓u74_8, ↓u74_20, ↓u74_9, ↓u74_12, ↓u74_13, ↓u74_16, ↓u74_21, ↓u74_22, ↓u74_24, ↓u74_25, ↓u74_28, ↓u74_31, ↓u74_70, ↓u74_34, ↓u74_72, ↓u74_35, ↓u74_38, ↓u74_39, ↓u74_40, ↓u74_43, ↓u74_44, ↓u74_64, ↓u74_47, ↓u74_67, ↓u74_48, ↓u74_51, ↓u74_54, ↓u74_55, ↓u74_56, ↓u74_59, ↓u74_62, ↓u74_63, h5, if_true, if_false, ↓nf0, ↓sf5 z7, nC_eq hI]
    rfl
  | succ d ih =>
    intro i hi
    have h5 : ¬ nI (nC (g.1 0)) ≤ nI i := nI_ge (by omega) (by omega)
    have ih1 := ih (i + 1) (by omega)
    rw [u74_23]
    simp only [↓u74_0, ↓u74_1, ↓u74_2, ↓u74_5, ↓u74_19, ↓u74_8, ↓u74_20, ↓u74_9, ↓u74_12, ↓u74_13, ↓u74_16, ↓u74_21, ↓u74_22, ↓u74_24, ↓u74_25, ↓u74_28, ↓u74_31, ↓u74_70, ↓u74_34, ↓u74_72, ↓u74_35, ↓u74_38, ↓u74_39, ↓u74_40, ↓u74_43, ↓u74_44, ↓u74_64, ↓u74_47, ↓u74_67, ↓u74_48, ↓u74_51, ↓u74_54, ↓u74_55, ↓u74_56, ↓u74_59, ↓u74_62, ↓u74_63, h5, if_true, if_false, ↓nf0, ↓sf5 z7, nC_eq hI, ↓s_o z7, ↓c_v_some, ↓sf12 z7, ↓j_o3 z7, ↓s_hasC z7 (show i < 20 by omega) hm, ↓s_fact3 z7 (show i < 20 by omega), nI_1, ih1, fdI_succ]
    by_cases e : fact (g.1 0) i 3 = x <;> cases hC (g.1 0) i m <;> simp [e, bI]
theorem nT_eq (hI : inv (g.1 0)) : (g.1 0).1 3 = nI (nT (g.1 0)) := hI.2.1.2.2.2.1.1
theorem nG_eq (hI : inv (g.1 0)) : (g.1 0).1 2 = nI (nG (g.1 0)) := hI.2.1.2.2.1.1
end
