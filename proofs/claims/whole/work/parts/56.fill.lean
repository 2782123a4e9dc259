/-! THE TWO AGREE: a course is filled -/
def fillS (s : SV) (c : Nat) : Nat → Nat → SV
  | 0, _ => s
  | d + 1, i => match lowR s c i with
    | some r => fillS (setL s c i r true) c d (i + 1)
    | none => fillS s c d (i + 1)
def fillN (s : SV) (c : Nat) : Nat → Nat → Nat
  | 0, _ => 0
  | d + 1, i => match lowR s c i with
    | some r => fillN (setL s c i r true) c d (i + 1) + 1
    | none => fillN s c d (i + 1)
theorem fillS_s {s : SV} {c d i r : Nat} (h : lowR s c i = some r) : fillS s c (d + 1) i = fillS (setL s c i r true) c d (i + 1) := by
  rw [fillS, h]
theorem fillS_n {s : SV} {c d i : Nat} (h : lowR s c i = none) : fillS s c (d + 1) i = fillS s c d (i + 1) := by
  rw [fillS, h]
theorem fillN_s {s : SV} {c d i r : Nat} (h : lowR s c i = some r) : fillN s c (d + 1) i = fillN (setL s c i r true) c d (i + 1) + 1 := by
  rw [fillN, h]
theorem fillN_n {s : SV} {c d i : Nat} (h : lowR s c i = none) : fillN s c (d + 1) i = fillN s c d (i + 1) := by
  rw [fillN, h]
section
variable {sc : Nat × (Nat → Int32)} {g : SG} {fs n j : Nat} {Q : Option Value → ri_W → Prop}
theorem fill_inv {c : Nat} : ∀ (d i : Nat) (s : SV), inv s → c < nC s → i + d = slS s → inv (fillS s c d i) ∧ plc (fillS s c d i) c = plc s c + fillN s c d i ∧ (fillN s c d i = 0 → fillS s c d i = s)
  | 0, _, s, hI, _, _ => ⟨hI, rfl, fun _ => rfl⟩
  | d + 1, i, s, hI, hc, hi => by
    have h48 := (sl48 hI).1
    cases e : lowR s c i with
    | none =>
      rw [fillS_n e, fillN_n e]
      exact fill_inv d (i + 1) s hI hc (by omega)
    | some r =>
      obtain ⟨r1, r2, r3⟩ := lowR_some e
      rw [fillS_s e, fillN_s e]
      obtain ⟨h1, h2, h3⟩ := fill_inv (c := c) d (i + 1) (setL s c i r true) (inv_in hI hc r1 (by omega) r2) (by rw [setL_nC]; exact hc) (by rw [setL_sl]; omega)
      refine ⟨h1, ?_, fun h => absurd h (by omega)⟩
      rw [h2, plc_in (by omega) (fst_hC hI r2)]
      omega
theorem c_fill_l {c : Nat} {b : Int32} : ∀ (d i : Nat) (s : SV), inv s → c < nC s → i + d = slS s → rv sc 73 32 [(0, .ref 0), (1, .int (nI c)), (2, .int b), (3, .int (nI i))] [] (Wd (stS g 1 s)) Q = rv sc 73 79 [(0, .ref 0), (1, .int (nI c)), (2, .int b), (3, .int (nI (slS s)))] [] (Wd (stS g 1 (fillS s c d i))) Q := by
  intro d
  induction d with
  | zero =>
    intro i s hI hc hi
    have h48 := (sl48 hI).1
    have h5 : nI (slS s) ≤ nI i := nI_le (by omega) (by omega)
    have hsl : ∀ Q, ev sc 15 [.ref (bs 1)] (Wd (stS g 1 s)) Q = Q (some (.int (nI (slS s)))) (Wd (stS g 1 s)) := fun Q => by rw [s_slots (by decide), stS_at, sl_eq hI]
    rw [u73_32]
    simp only [↓u73_33, ↓u73_34, ↓u73_37, ↓u73_40, ↓nf1, ↓s_o (show 1 < 7 by decide), ↓hsl, ↓c_v_some, h5, if_true]
    rw [show i = slS s by omega]
    rfl
  | succ d ih =>
    intro i s hI hc hi
    have h48 := (sl48 hI).1
    have h20 := nC20 hI
    have h6 := nR6 hI
    have h5 : ¬ nI (slS s) ≤ nI i := nI_ge (by omega) (by omega)
    have hsl : ∀ Q, ev sc 15 [.ref (bs 1)] (Wd (stS g 1 s)) Q = Q (some (.int (nI (slS s)))) (Wd (stS g 1 s)) := fun Q => by rw [s_slots (by decide), stS_at, sl_eq hI]
    have hlo : ∀ Q, ev sc 50 [.ref (bs 1), .int (nI c), .int (nI i)] (Wd (stS g 1 s)) Q = Q (some (.int (lowS s c i))) (Wd (stS g 1 s)) := fun Q => by
      have := s_lowestFreeRoom (sc := sc) (Q := Q) (g := stS g 1 s) (j := 1) (c := c) (m := i) (by decide) (by rw [stS_at]; exact hI.2.1) (by rw [stS_at]; exact hI.2.2.1) (by rw [stS_at]; exact hc) (by rw [stS_at]; omega)
      rw [stS_at] at this
      exact this
    rw [lowS_R] at hlo
    cases e : lowR s c i with
    | none =>
      rw [e] at hlo
      have ih1 := ih (i + 1) s hI hc (by omega)
      have e5 : ((-5 : Int32) = -5) = True := eq_true rfl
      rw [fillS_n e]
      refine Eq.trans ?_ ih1
      rw [u73_32]
      simp only [↓u73_0, ↓u73_1, ↓u73_2, ↓u73_5, ↓u73_10, ↓u73_8, ↓u73_11, ↓u73_9, ↓u73_14, ↓u73_15, ↓u73_18, ↓u73_21, ↓u73_22, ↓u73_25, ↓u73_26, ↓u73_29, ↓u73_30, ↓u73_31, ↓u73_33, ↓u73_34, ↓u73_37, ↓u73_40, ↓u73_79, ↓u73_43, ↓u73_80, ↓u73_44, ↓u73_83, ↓u73_47, ↓u73_84, ↓u73_48, ↓u73_87, ↓u73_49, ↓u73_88, ↓u73_52, ↓u73_89, ↓u73_54, ↓u73_90, ↓u73_56, ↓u73_91, ↓u73_58, ↓u73_97, ↓u73_94, ↓u73_73, ↓u73_61, ↓u73_98, ↓u73_96, ↓u73_76, ↓u73_62, ↓u73_101, ↓u73_65, ↓u73_102, ↓u73_66, ↓u73_67, ↓u73_69, ↓u73_70, ↓nf1, ↓s_o (show 1 < 7 by decide), ↓hsl, ↓c_v_some, h5, if_false, ↓hlo, e5, if_true, nI_1]
    | some r =>
      rw [e] at hlo
      obtain ⟨r1, r2, r3⟩ := lowR_some e
      have e5 : ¬ nI r = -5 := nI_n5 (by omega)
      have hst : ∀ Q, ev sc 31 [.ref (bs 1), .int (nI c), .int (nI i), .int (nI r), .int 1] (Wd (stS g 1 s)) Q = Q none (Wd (stS g 1 (setL s c i r true))) := fun Q => by
        have := s_set1 (sc := sc) (g := stS g 1 s) (Q := Q) (j := 1) (m := i) (r := r) (c := c) (by decide) (by rw [stS_at]; exact hI) (by rw [stS_at]; exact hc) (by omega)
        rw [stS_at, stS_twice] at this
        exact this
      have ih1 := ih (i + 1) (setL s c i r true) (inv_in hI hc r1 (by omega) r2) (by rw [setL_nC]; exact hc) (by rw [setL_sl]; omega)
      rw [setL_sl] at ih1
      rw [fillS_s e]
      refine Eq.trans ?_ ih1
      rw [u73_32]
      simp only [↓u73_0, ↓u73_1, ↓u73_2, ↓u73_5, ↓u73_10, ↓u73_8, ↓u73_11, ↓u73_9, ↓u73_14, ↓u73_15, ↓u73_18, ↓u73_21, ↓u73_22, ↓u73_25, ↓u73_26, ↓u73_29, ↓u73_30, ↓u73_31, ↓u73_33, ↓u73_34, ↓u73_37, ↓u73_40, ↓u73_79, ↓u73_43, ↓u73_80, ↓u73_44, ↓u73_83, ↓u73_47, ↓u73_84, ↓u73_48, ↓u73_87, ↓u73_49, ↓u73_88, ↓u73_52, ↓u73_89, ↓u73_54, ↓u73_90, ↓u73_56, ↓u73_91, ↓u73_58, ↓u73_97, ↓u73_94, ↓u73_73, ↓u73_61, ↓u73_98, ↓u73_96, ↓u73_76, ↓u73_62, ↓u73_101, ↓u73_65, ↓u73_102, ↓u73_66, ↓u73_67, ↓u73_69, ↓u73_70, ↓nf1, ↓s_o (show 1 < 7 by decide), ↓hsl, ↓c_v_some, ↓c_v_none, h5, if_false, ↓hlo, e5, ↓hst, nI_1]
theorem m_fill_l {c : Nat} : ∀ (d i : Nat) (s : SV) (n : Nat), inv s → c < nC s → i + d = slS s → (∀ m r, m < i → r < nR s → fstS s c m r ≠ 0) → rv sc 151 17 [(0, .ref 154), (1, .int (nI c)), (2, .int (nI n))] [] (Wd (gDN g 0 (mdl s))) Q = rv sc 151 31 [(0, .ref 154), (1, .int (nI c)), (2, .int (nI (n + fillN s c d i)))] [] (Wd (gDN g 0 (mdl (fillS s c d i)))) Q := by
  intro d
  induction d with
  | zero =>
    intro i s n hI hc hi hno
    have hf := fun Q => m_fills_no (sc := sc) (Q := Q) (g := gDN g 0 (mdl s)) hI gDN_at hc (fun m r hm hr => hno m r (by omega) hr)
    rw [u151_17]
    simp only [↓u151_18, ↓u151_19, ↓u151_22, ↓d_o, ↓hf, ↓c_v_some, n00, if_true]
    rfl
  | succ d ih =>
    intro i s n hI hc hi hno
    have h48 := (sl48 hI).1
    cases e : lowR s c i with
    | none =>
      rw [fillS_n e, fillN_n e]
      exact ih (i + 1) s n hI hc (by omega) (fun m r hm hr => by
        by_cases e2 : m = i
        · rw [e2]
          exact lowR_none e r hr
        · exact hno m r (by omega) hr)
    | some r =>
      obtain ⟨r1, r2, r3⟩ := lowR_some e
      have h6 := nR6 hI
      have hf := fun Q => m_fills_yes (sc := sc) (Q := Q) (g := gDN g 0 (mdl s)) hI gDN_at hc (show i < slS s by omega) r1 r2 r3 hno
      rw [mdl_in hI hc (by omega) r1 r2, gDN_tw] at hf
      have ih1 := ih (i + 1) (setL s c i r true) (n + 1) (inv_in hI hc r1 (by omega) r2) (by rw [setL_nC]; exact hc) (by rw [setL_sl]; omega) (fun m r' hm hr => by
        rw [setL_nR] at hr
        by_cases e2 : m = i
        · rw [e2]
          exact fst_same (by omega)
        · intro h
          exact hno m r' (by omega) hr (fst_mono hI hc (by omega) e2 h (by omega)))
      rw [fillS_s e, fillN_s e, show n + (fillN (setL s c i r true) c d (i + 1) + 1) = n + 1 + fillN (setL s c i r true) c d (i + 1) by omega]
      refine Eq.trans ?_ ih1
      rw [u151_17]
      simp only [↓u151_0, ↓u151_1, ↓u151_2, ↓u151_5, ↓u151_10, ↓u151_8, ↓u151_11, ↓u151_9, ↓u151_12, ↓u151_15, ↓u151_16, ↓u151_18, ↓u151_19, ↓u151_22, ↓u151_31, ↓u151_25, ↓u151_32, ↓u151_28, ↓u151_38, ↓u151_35, ↓u151_39, ↓u151_37, ↓u151_42, ↓u151_43, ↓d_o, ↓hf, ↓c_v_some, n10, if_false, nI_1]
theorem gDN_3 {A B C : Nat → Int32} {i : Nat} {v : Int32} : gD (gDN (gDN (gDN g 1 A) 0 B) 1 C) i v = gDN (gD (gDN g 1 C) i v) 0 B := by
  unfold gDN gD
  show (g.1, g.2.1, g.2.2.1, upF g.2.2.2.1 i v, upF (upF (upF g.2.2.2.2 1 A) 0 B) 1 C) = (g.1, g.2.1, g.2.2.1, upF g.2.2.2.1 i v, upF (upF g.2.2.2.2 1 C) 0 B)
  congr 4
  funext q
  unfold upF
  by_cases e0 : q = 0
  · simp [e0]
  · by_cases e1 : q = 1 <;> simp [e0, e1]
theorem o_fill (h : R g) {v : Int32} : both sc 73 151 [.int v] g := by
  have hI := h.2.1
  have hM := h.2.2.1
  have h48 := (sl48 hI).1
  have h20 := nC20 hI
  obtain ⟨fs, n, hh⟩ := h.2.2.2.1
  rcases ii_cases (v := v) (n := nC (g.1 0)) (by omega) with ⟨c, c1, rfl, c2⟩ | ⟨-, c2⟩
  · have hc20 : c < 20 := by omega
    obtain ⟨f1, f2, f3⟩ := fill_inv (c := c) (slS (g.1 0)) 0 (g.1 0) hI c1 (by omega)
    have hcl := fun b Q => c_fill_l (sc := sc) (g := g) (Q := Q) (b := b) (slS (g.1 0)) 0 (g.1 0) hI c1 (by omega)
    have hcp := fun Q => s_copyFrom (sc := sc) (Q := Q) (g := g) (j := 1) (i := 0) (by decide) z7 (by decide) (h.1 0 z7) (h.1 1 (by decide))
    have hpl : ∀ (s : SV) (Q : Option Value → ri_W → Prop), ev sc 36 [.ref (bs 1), .int (nI c)] (Wd (stS g 1 s)) Q = Q (some (.int (nI (plc s c)))) (Wd (stS g 1 s)) := fun s Q => by
      rw [s_placed (by decide) hc20, stS_at]
    have hml := fun (g0 : SG) (Q : Option Value → ri_W → Prop) => m_fill_l (sc := sc) (g := g0) (Q := Q) (c := c) (slS (g.1 0)) 0 (g.1 0) 0 hI c1 (by omega) (fun m r hm => absurd hm (Nat.not_lt_zero _))
    have hpb : plc (g.1 0) c ≤ 64 := pcn_le _
    have hpb2 : plc (fillS (g.1 0) c (slS (g.1 0)) 0) c ≤ 64 := pcn_le _
    generalize hN : fillN (g.1 0) c (slS (g.1 0)) 0 = N at f2 f3 hml
    generalize hF : fillS (g.1 0) c (slS (g.1 0)) 0 = sF at f1 f2 f3 hml hcl hpb2
    have esub : nI (plc sF c) - nI (plc (g.1 0) c) = nI N := by
      rw [nI_sub (by omega)]
      congr 1
      omega
    have hz : (0 : Int32) = nI 0 := rfl
    by_cases e : N = 0
    · have e0 : (nI N ≤ 0) = True := by rw [e]; decide
      have e1 : ((0 : Int32) < nI N) = False := by rw [e]; decide
      have e2 : (nI (0 + N) = 0) = True := by rw [e]; decide
      have hs := f3 e
      refine ⟨-5, stS g 1 sF, gDN (stS g 1 sF) 1 (segW (g.2.2.2.2 1) 9460 1892 (mdl (g.1 0))), fun Q => ?_, fun Q => ?_, R_fail h f1.1⟩
      · simp only [↓en73, ↓u73_0, ↓u73_1, ↓u73_2, ↓u73_5, ↓u73_10, ↓u73_8, ↓u73_11, ↓u73_9, ↓u73_14, ↓u73_15, ↓u73_18, ↓u73_21, ↓u73_22, ↓u73_25, ↓u73_26, ↓u73_29, ↓u73_30, ↓u73_31, ↓u73_33, ↓u73_34, ↓u73_37, ↓u73_40, ↓u73_79, ↓u73_43, ↓u73_80, ↓u73_44, ↓u73_83, ↓u73_47, ↓u73_84, ↓u73_48, ↓u73_87, ↓u73_49, ↓u73_88, ↓u73_52, ↓u73_89, ↓u73_54, ↓u73_90, ↓u73_56, ↓u73_91, ↓u73_58, ↓u73_97, ↓u73_94, ↓u73_73, ↓u73_61, ↓u73_98, ↓u73_96, ↓u73_76, ↓u73_62, ↓u73_101, ↓u73_65, ↓u73_102, ↓u73_66, ↓u73_67, ↓u73_69, ↓u73_70, ↓m_o, ↓c_knowsCourse, ↓c_v_some, ↓c_v_none, nC_eq hI, c2, n10, if_false, ↓nf0, ↓nf1, ↓s_o (show 1 < 7 by decide), ↓hcp, ↓hpl]
        refine (hcl _ _).trans ?_
        simp only [↓u73_0, ↓u73_1, ↓u73_2, ↓u73_5, ↓u73_10, ↓u73_8, ↓u73_11, ↓u73_9, ↓u73_14, ↓u73_15, ↓u73_18, ↓u73_21, ↓u73_22, ↓u73_25, ↓u73_26, ↓u73_29, ↓u73_30, ↓u73_31, ↓u73_33, ↓u73_34, ↓u73_37, ↓u73_40, ↓u73_79, ↓u73_43, ↓u73_80, ↓u73_44, ↓u73_83, ↓u73_47, ↓u73_84, ↓u73_48, ↓u73_87, ↓u73_49, ↓u73_88, ↓u73_52, ↓u73_89, ↓u73_54, ↓u73_90, ↓u73_56, ↓u73_91, ↓u73_58, ↓u73_97, ↓u73_94, ↓u73_73, ↓u73_61, ↓u73_98, ↓u73_96, ↓u73_76, ↓u73_62, ↓u73_101, ↓u73_65, ↓u73_102, ↓u73_66, ↓u73_67, ↓u73_69, ↓u73_70, ↓nf1, ↓s_o (show 1 < 7 by decide), ↓hpl, ↓c_v_some, esub, e0, e1, if_true, if_false]
      · have hM1 : (stS g 1 sF).2.2.2.2 0 = mdl (g.1 0) := hM
        have hk : ∀ Q, ev sc 113 [.ref 154, .int 5] (Wd (stS g 1 sF)) Q = Q none (Wd (gDN (stS g 1 sF) 1 (segW (g.2.2.2.2 1) 9460 1892 (mdl (g.1 0))))) := fun Q => m_keep5 (sc := sc) (Q := Q) hM1
        have hl := hml (gDN (stS g 1 sF) 1 (segW (g.2.2.2.2 1) 9460 1892 (mdl (g.1 0)))) Q
        have hs1 : gDN (gDN (stS g 1 sF) 1 (segW (g.2.2.2.2 1) 9460 1892 (mdl (g.1 0)))) 0 (mdl (g.1 0)) = gDN (stS g 1 sF) 1 (segW (g.2.2.2.2 1) 9460 1892 (mdl (g.1 0))) := gDN_s hM1
        simp only [↓en151, ↓u151_0, ↓u151_1, ↓u151_2, ↓u151_5, ↓u151_10, ↓u151_8, ↓u151_11, ↓u151_9, ↓u151_12, ↓u151_15, ↓u151_16, ↓u151_18, ↓u151_19, ↓u151_22, ↓u151_31, ↓u151_25, ↓u151_32, ↓u151_28, ↓u151_38, ↓u151_35, ↓u151_39, ↓u151_37, ↓u151_42, ↓u151_43, ↓d_o, ↓m_isCourse hM1, ↓c_v_some, ↓c_v_none, nC_eq hI, c2, n10, if_false, ↓hk]
        rw [show mdl sF = mdl (g.1 0) by rw [hs], hs1] at hl
        refine hl.trans ?_
        simp only [↓u151_0, ↓u151_1, ↓u151_2, ↓u151_5, ↓u151_10, ↓u151_8, ↓u151_11, ↓u151_9, ↓u151_12, ↓u151_15, ↓u151_16, ↓u151_18, ↓u151_19, ↓u151_22, ↓u151_31, ↓u151_25, ↓u151_32, ↓u151_28, ↓u151_38, ↓u151_35, ↓u151_39, ↓u151_37, ↓u151_42, ↓u151_43, e2, if_true]
    · have e0 : ¬ nI N ≤ 0 := nI_nle (by omega) (by omega)
      have e1 : (0 : Int32) < nI N := Int32.not_le.mp e0
      have e2 : ¬ nI (0 + N) = 0 := nI_ne0 (by omega) (by omega)
      have hR1 := R_trial h f1.1
      have hRh1 := Rh_trial hh (t := sF)
      have had := fun Q => c_adopt (sc := sc) (Q := Q) hR1 hRh1
      rw [stS_at] at had
      refine ⟨nI N, stS (remG (stS g 1 sF) fs n) 0 sF, fin (stS g 1 sF) fs n (segW (g.2.2.2.2 1) 9460 1892 (mdl (g.1 0))) sF, fun Q => ?_, fun Q => ?_, R_adopt h hh f1⟩
      · simp only [↓en73, ↓u73_0, ↓u73_1, ↓u73_2, ↓u73_5, ↓u73_10, ↓u73_8, ↓u73_11, ↓u73_9, ↓u73_14, ↓u73_15, ↓u73_18, ↓u73_21, ↓u73_22, ↓u73_25, ↓u73_26, ↓u73_29, ↓u73_30, ↓u73_31, ↓u73_33, ↓u73_34, ↓u73_37, ↓u73_40, ↓u73_79, ↓u73_43, ↓u73_80, ↓u73_44, ↓u73_83, ↓u73_47, ↓u73_84, ↓u73_48, ↓u73_87, ↓u73_49, ↓u73_88, ↓u73_52, ↓u73_89, ↓u73_54, ↓u73_90, ↓u73_56, ↓u73_91, ↓u73_58, ↓u73_97, ↓u73_94, ↓u73_73, ↓u73_61, ↓u73_98, ↓u73_96, ↓u73_76, ↓u73_62, ↓u73_101, ↓u73_65, ↓u73_102, ↓u73_66, ↓u73_67, ↓u73_69, ↓u73_70, ↓m_o, ↓c_knowsCourse, ↓c_v_some, ↓c_v_none, nC_eq hI, c2, n10, if_false, ↓nf0, ↓nf1, ↓s_o (show 1 < 7 by decide), ↓hcp, ↓hpl]
        refine (hcl _ _).trans ?_
        simp only [↓u73_0, ↓u73_1, ↓u73_2, ↓u73_5, ↓u73_10, ↓u73_8, ↓u73_11, ↓u73_9, ↓u73_14, ↓u73_15, ↓u73_18, ↓u73_21, ↓u73_22, ↓u73_25, ↓u73_26, ↓u73_29, ↓u73_30, ↓u73_31, ↓u73_33, ↓u73_34, ↓u73_37, ↓u73_40, ↓u73_79, ↓u73_43, ↓u73_80, ↓u73_44, ↓u73_83, ↓u73_47, ↓u73_84, ↓u73_48, ↓u73_87, ↓u73_49, ↓u73_88, ↓u73_52, ↓u73_89, ↓u73_54, ↓u73_90, ↓u73_56, ↓u73_91, ↓u73_58, ↓u73_97, ↓u73_94, ↓u73_73, ↓u73_61, ↓u73_98, ↓u73_96, ↓u73_76, ↓u73_62, ↓u73_101, ↓u73_65, ↓u73_102, ↓u73_66, ↓u73_67, ↓u73_69, ↓u73_70, ↓m_o, ↓nf1, ↓s_o (show 1 < 7 by decide), ↓hpl, ↓c_v_some, esub, e0, e1, if_true, if_false, ↓had, ↓c_v_none]
      · have hM1 : (stS (remG (stS g 1 sF) fs n) 0 sF).2.2.2.2 0 = mdl (g.1 0) := hM
        have hk : ∀ Q, ev sc 113 [.ref 154, .int 5] (Wd (stS (remG (stS g 1 sF) fs n) 0 sF)) Q = Q none (Wd (gDN (stS (remG (stS g 1 sF) fs n) 0 sF) 1 (segW (g.2.2.2.2 1) 9460 1892 (mdl (g.1 0))))) := fun Q => m_keep5 (sc := sc) (Q := Q) hM1
        have hl := hml (gDN (stS (remG (stS g 1 sF) fs n) 0 sF) 1 (segW (g.2.2.2.2 1) 9460 1892 (mdl (g.1 0)))) Q
        have hs1 : gDN (gDN (stS (remG (stS g 1 sF) fs n) 0 sF) 1 (segW (g.2.2.2.2 1) 9460 1892 (mdl (g.1 0)))) 0 (mdl (g.1 0)) = gDN (stS (remG (stS g 1 sF) fs n) 0 sF) 1 (segW (g.2.2.2.2 1) 9460 1892 (mdl (g.1 0))) := gDN_s hM1
        have hr5 := fun Q => m_record5 (sc := sc) (Q := Q) (g := stS (remG (stS g 1 sF) fs n) 0 sF) (A := segW (g.2.2.2.2 1) 9460 1892 (mdl (g.1 0))) (B := mdl sF) hh.2.1 hh.2.2.2.2.1
        rw [gDN_3] at hr5
        simp only [↓en151, ↓u151_0, ↓u151_1, ↓u151_2, ↓u151_5, ↓u151_10, ↓u151_8, ↓u151_11, ↓u151_9, ↓u151_12, ↓u151_15, ↓u151_16, ↓u151_18, ↓u151_19, ↓u151_22, ↓u151_31, ↓u151_25, ↓u151_32, ↓u151_28, ↓u151_38, ↓u151_35, ↓u151_39, ↓u151_37, ↓u151_42, ↓u151_43, ↓d_o, ↓m_isCourse hM1, ↓c_v_some, ↓c_v_none, nC_eq hI, c2, n10, if_false, ↓hk]
        rw [hs1] at hl
        refine hl.trans ?_
        simp only [↓u151_0, ↓u151_1, ↓u151_2, ↓u151_5, ↓u151_10, ↓u151_8, ↓u151_11, ↓u151_9, ↓u151_12, ↓u151_15, ↓u151_16, ↓u151_18, ↓u151_19, ↓u151_22, ↓u151_31, ↓u151_25, ↓u151_32, ↓u151_28, ↓u151_38, ↓u151_35, ↓u151_39, ↓u151_37, ↓u151_42, ↓u151_43, ↓d_o, e2, if_false, ↓hr5, ↓c_v_none]
        rw [Nat.zero_add]
        rfl
  · refine both_q h (v := -1) (fun Q => ?_) (fun Q => ?_)
    · simp only [↓en73, ↓u73_0, ↓u73_1, ↓u73_2, ↓u73_5, ↓u73_10, ↓u73_8, ↓u73_11, ↓u73_9, ↓u73_14, ↓u73_15, ↓u73_18, ↓u73_21, ↓u73_22, ↓u73_25, ↓u73_26, ↓u73_29, ↓u73_30, ↓u73_31, ↓u73_33, ↓u73_34, ↓u73_37, ↓u73_40, ↓u73_79, ↓u73_43, ↓u73_80, ↓u73_44, ↓u73_83, ↓u73_47, ↓u73_84, ↓u73_48, ↓u73_87, ↓u73_49, ↓u73_88, ↓u73_52, ↓u73_89, ↓u73_54, ↓u73_90, ↓u73_56, ↓u73_91, ↓u73_58, ↓u73_97, ↓u73_94, ↓u73_73, ↓u73_61, ↓u73_98, ↓u73_96, ↓u73_76, ↓u73_62, ↓u73_101, ↓u73_65, ↓u73_102, ↓u73_66, ↓u73_67, ↓u73_69, ↓u73_70, ↓m_o, ↓c_knowsCourse, ↓c_v_some, nC_eq hI, c2, n00, if_true]
    · simp only [↓en151, ↓u151_0, ↓u151_1, ↓u151_2, ↓u151_5, ↓u151_10, ↓u151_8, ↓u151_11, ↓u151_9, ↓u151_12, ↓u151_15, ↓u151_16, ↓u151_18, ↓u151_19, ↓u151_22, ↓u151_31, ↓u151_25, ↓u151_32, ↓u151_28, ↓u151_38, ↓u151_35, ↓u151_39, ↓u151_37, ↓u151_42, ↓u151_43, ↓d_o, ↓m_isCourse hM, ↓c_v_some, nC_eq hI, c2, n00, if_true]
end
