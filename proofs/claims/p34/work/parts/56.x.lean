def fillS (s : SV) (c : Nat) : Nat → Nat → SV
  | 0, _ => s
  | d + 1, i => match lowR s c i with
    | some r => fillS (setL s c i r true) c d (i + 1)
    | none => fillS s c d (i + 1)
def fillN (s : SV) (c : Nat) : Nat → Nat → Nat
  | 0, _ => 0
  | d + 1, i => match lowR s c i with
    | some r => fillN (setL s c i r true) c d (i + 1) + 1
    | none => fillN s c d (i + 1)
theorem fillS_s {s : SV} {c d i r : Nat} (h : lowR s c i = some r) : fillS s c (d + 1) i = fillS (setL s c i r true) c d (i + 1) := by
  rw [fillS, h]
theorem fillS_n {s : SV} {c d i : Nat} (h : lowR s c i = none) : fillS s c (d + 1) i = fillS s c d (i + 1) := by
  rw [fillS, h]
theorem fillN_s {s : SV} {c d i r : Nat} (h : lowR s c i = some r) : fillN s c (d + 1) i = fillN (setL s c i r true) c d (i + 1) + 1 := by
  rw [fillN, h]
theorem fillN_n {s : SV} {c d i : Nat} (h : lowR s c i = none) : fillN s c (d + 1) i = fillN s c d (i + 1) := by
  rw [fillN, h]
section
variable {sc : Nat × (Nat → Int32)} {g : SG} {fs n j : Nat} {Q : Option Value → ri_W → Prop}
theorem fill_inv {c : Nat} : ∀ (d i : Nat) (s : SV), inv s → c < nC s → i + d = slS s → inv (fillS s c d i) ∧ plc (fillS s c d i) c = plc s c + fillN s c d i ∧ (fillN s c d i = 0 → fillS s c d i = s)
  | 0, _, s, hI, _, _ => ⟨hI, rfl, fun _ => rfl⟩
  | d + 1, i, s, hI, hc, hi => by
    have h48 := (sl48 hI).1
    cases e : lowR s c i with
    | none =>
      rw [fillS_n e, fillN_n e]
      exact fill_inv d (i + 1) s hI hc (by omega)
    | some r =>
      obtain ⟨r1, r2, r3⟩ := lowR_some e
      rw [fillS_s e, fillN_s e]
      obtain ⟨h1, h2, h3⟩ := fill_inv (c := c) d (i + 1) (setL s c i r true) (inv_in hI hc r1 (by omega) r2) (by rw [setL_nC]; exact hc) (by rw [setL_sl]; omega)
      refine ⟨h1, ?_, fun h => absurd h (by omega)⟩
      rw [h2, plc_in (by omega) (fst_hC hI r2)]
      omega
theorem c_fill_l {c : Nat} {b : Int32} : ∀ (d i : Nat) (s : SV), inv s → c < nC s → i + d = slS s → rv sc 66 32 [(0, .ref 0), (1, .int (nI c)), (2, .int b), (3, .int (nI i))] [] (Wd (stS g 1 s)) Q = rv sc 66 79 [(0, .ref 0), (1, .int (nI c)), (2, .int b), (3, .int (nI (slS s)))] [] (Wd (stS g 1 (fillS s c d i))) Q := by
  intro d
  induction d with
  | zero =>
    intro i s hI hc hi
    have h48 := (sl48 hI).1
    have h5 : nI (slS s) ≤ nI i := nI_le (by omega) (by omega)
    have hsl : ∀ Q, ev sc 15 [.ref (bs 1)] (Wd (stS g 1 s)) Q = Q (some (.int (nI (slS s)))) (Wd (stS g 1 s)) := fun Q => by rw [s_slots (by decide), stS_at, sl_eq hI]
    rw [u66_32]
    simp only [↓u66_33, ↓u66_34, ↓u66_37, ↓u66_40, ↓nf1, ↓s_o (show 1 < 7 by decide), ↓hsl, ↓c_v_some, h5, if_true]
    rw [show i = slS s by omega]
    rfl
  | succ d ih =>
    intro i s hI hc hi
    have h48 := (sl48 hI).1
    have h20 := nC20 hI
    have h6 := nR6 hI
    have h5 : ¬ nI (slS s) ≤ nI i := nI_ge (by omega) (by omega)
    have hsl : ∀ Q, ev sc 15 [.ref (bs 1)] (Wd (stS g 1 s)) Q = Q (some (.int (nI (slS s)))) (Wd (stS g 1 s)) := fun Q => by rw [s_slots (by decide), stS_at, sl_eq hI]
    have hlo : ∀ Q, ev sc 49 [.ref (bs 1), .int (nI c), .int (nI i)] (Wd (stS g 1 s)) Q = Q (some (.int (lowS s c i))) (Wd (stS g 1 s)) := fun Q => by
      have := s_lowestFreeRoom (sc := sc) (Q := Q) (g := stS g 1 s) (j := 1) (c := c) (m := i) (by decide) (by rw [stS_at]; exact hI.2.1) (by rw [stS_at]; exact hI.2.2.1) (by rw [stS_at]; exact hc) (by rw [stS_at]; omega)
      rw [stS_at] at this
      exact this
    rw [lowS_R] at hlo
    cases e : lowR s c i with
    | none =>
      rw [e] at hlo
      have ih1 := ih (i + 1) s hI hc (by omega)
      have e5 : ((-5 : Int32) = -5) = True := eq_true rfl
      rw [fillS_n e]
      refine Eq.trans ?_ ih1
      rw [u66_32]
      simp only [↓u66_0, ↓u66_1, ↓u66_2, ↓u66_5, ↓u66_10, ↓u66_8, ↓u66_11, ↓u66_9, ↓u66_14, ↓u66_15, ↓u66_18, ↓u66_21, ↓u66_22, ↓u66_25, ↓u66_26, ↓u66_29, ↓u66_30, ↓u66_31, ↓u66_33, ↓u66_34, ↓u66_37, ↓u66_40, ↓u66_79, ↓u66_43, ↓u66_80, ↓u66_44, ↓u66_83, ↓u66_47, ↓u66_84, ↓u66_48, ↓u66_87, ↓u66_49, ↓u66_88, ↓u66_52, ↓u66_89, ↓u66_54, ↓u66_90, ↓u66_56, ↓u66_91, ↓u66_58, ↓u66_97, ↓u66_94, ↓u66_73, ↓u66_61, ↓u66_98, ↓u66_96, ↓u66_76, ↓u66_62, ↓u66_101, ↓u66_65, ↓u66_102, ↓u66_66, ↓u66_67, ↓u66_69, ↓u66_70, ↓nf1, ↓s_o (show 1 < 7 by decide), ↓hsl, ↓c_v_some, h5, if_false, ↓hlo, e5, if_true, nI_1]
    | some r =>
      rw [e] at hlo
      obtain ⟨r1, r2, r3⟩ := lowR_some e
      have e5 : ¬ nI r = -5 := nI_n5 (by omega)
      have hst : ∀ Q, ev sc 31 [.ref (bs 1), .int (nI c), .int (nI i), .int (nI r), .int 1] (Wd (stS g 1 s)) Q = Q none (Wd (stS g 1 (setL s c i r true))) := fun Q => by
        have := s_set1 (sc := sc) (g := stS g 1 s) (Q := Q) (j := 1) (m := i) (r := r) (c := c) (by decide) (by rw [stS_at]; exact hI) (by rw [stS_at]; exact hc) (by omega)
        rw [stS_at, stS_twice] at this
        exact this
      have ih1 := ih (i + 1) (setL s c i r true) (inv_in hI hc r1 (by omega) r2) (by rw [setL_nC]; exact hc) (by rw [setL_sl]; omega)
      rw [setL_sl] at ih1
      rw [fillS_s e]
      refine Eq.trans ?_ ih1
      rw [u66_32]
      simp only [↓u66_0, ↓u66_1, ↓u66_2, ↓u66_5, ↓u66_10, ↓u66_8, ↓u66_11, ↓u66_9, ↓u66_14, ↓u66_15, ↓u66_18, ↓u66_21, ↓u66_22, ↓u66_25, ↓u66_26, ↓u66_29, ↓u66_30, ↓u66_31, ↓u66_33, ↓u66_34, ↓u66_37, ↓u66_40, ↓u66_79, ↓u66_43, ↓u66_80, ↓u66_44, ↓u66_83, ↓u66_47, ↓u66_84, ↓u66_48, ↓u66_87, ↓u66_49, ↓u66_88, ↓u66_52, ↓u66_89, ↓u66_54, ↓u66_90, ↓u66_56, ↓u66_91, ↓u66_58, ↓u66_97, ↓u66_94, ↓u66_73, ↓u66_61, ↓u66_98, ↓u66_96, ↓u66_76, ↓u66_62, ↓u66_101, ↓u66_65, ↓u66_102, ↓u66_66, ↓u66_67, ↓u66_69, ↓u66_70, ↓nf1, ↓s_o (show 1 < 7 by decide), ↓hsl, ↓c_v_some, ↓c_v_none, h5, if_false, ↓hlo, e5, ↓hst, nI_1]
end
