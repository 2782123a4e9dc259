section
variable {sc : Nat × (Nat → Int32)} {g : SG} {n p f i : Nat} {Q : Option Value → ri_W → Prop}
def putF (F : Nat → Int32) (f : Nat) (a b d : Int32) : Nat → Int32 := upF (upF (upF F (f * 3 + 0) a) (f * 3 + 1) b) (f * 3 + 2) d
def putW (g : SG) (q f : Nat) (a b d : Int32) : SG := gX (gXN (gX g 2 (nI q)) 0 (putF (g.2.2.1.2 0) f a b d)) 1 (nI (f + 1))
/-- one placing is read by the class -/
theorem c_parse1 (hi : i < 60) (hf : f < 10) (hn : n ≤ 60) (hp : p ≤ n) (e0 : g.2.2.1.1 0 = nI n) (e1 : g.2.2.1.1 1 = nI f) (e2 : g.2.2.1.1 2 = nI p) : rv sc 55 12 [(0, .ref 149), (1, .int (nI i))] [] (Wd g) Q = (match tpl (g.2.2.1.2 1) n p with
    | (q, none) => Q (some (.int (nI q))) (Wd (gX g 2 (nI q)))
    | (q, some (a, b, d)) => if n ≤ q then Q (some (.int (-1))) (Wd (putW g q f (nI a) (nI b) (nI d))) else if tsg (g.2.2.1.2 1) n q 59 = true then rv sc 55 12 [(0, .ref 149), (1, .int (nI (i + 1)))] [] (Wd (gX (putW g q f (nI a) (nI b) (nI d)) 2 (nI (q + 1)))) Q else Q (some (.int (nI q))) (Wd (putW g q f (nI a) (nI b) (nI d)))) := by
  have hi1 : ¬ (60 : Int32) ≤ nI i := nI_ge (b := 60) hi (by decide)
  have a1 := fun Q => c_readNumber (sc := sc) (Q := Q) hn hp e0 e2
  have m1t : ((-1 : Int32) = -1) = True := eq_true rfl
  have nn : ∀ k : Nat, k < 2 ^ 31 → ¬ nI k = -1 := fun k hk e => nI_pos hk (by rw [e]; decide)
  have ga : ∀ q, (gX g 2 (nI q)).2.2.1.1 2 = nI q := fun q => rfl
  rw [u55_12]
  unfold tpl
  cases e : tnum (g.2.2.1.2 1) n p with
  | none =>
    rw [e] at a1
    have hs : gX g 2 (nI p) = g := gX_s e2
    simp only [↓u55_0, ↓u55_1, ↓u55_2, ↓u55_5, ↓u55_6, ↓u55_7, ↓u55_10, ↓u55_11, ↓u55_13, ↓u55_15, ↓u55_124, ↓u55_18, ↓u55_125, ↓u55_19, ↓u55_128, ↓u55_22, ↓u55_23, ↓u55_24, ↓u55_25, ↓u55_37, ↓u55_28, ↓u55_38, ↓u55_29, ↓u55_41, ↓u55_31, ↓u55_34, ↓u55_42, ↓u55_43, ↓u55_46, ↓u55_47, ↓u55_48, ↓u55_49, ↓u55_61, ↓u55_52, ↓u55_62, ↓u55_53, ↓u55_65, ↓u55_55, ↓u55_58, ↓u55_66, ↓u55_67, ↓u55_70, ↓u55_72, ↓u55_74, ↓u55_75, ↓u55_83, ↓u55_78, ↓u55_84, ↓u55_79, ↓u55_85, ↓u55_82, ↓u55_86, ↓u55_88, ↓u55_91, ↓u55_92, ↓u55_95, ↓u55_96, ↓u55_99, ↓u55_104, ↓u55_102, ↓u55_105, ↓u55_103, ↓u55_107, ↓u55_110, ↓u55_118, ↓u55_113, ↓u55_121, ↓u55_114, ↓u55_117, hi1, if_true, if_false, ↓x_o, ↓a1, ↓c_v_some, m1t, ↓xf4, e2, hs]
  | some w =>
    obtain ⟨a, p1⟩ := w
    obtain ⟨h1, h2, h3⟩ := tnum_lt e
    rw [e] at a1
    have a2 := fun Q => c_reads (sc := sc) (Q := Q) (g := gX g 2 (nI p1)) (n := n) (p := p1) (c := 64) hn h2 e0 rfl
    rw [show (gX g 2 (nI p1)).2.2.1.2 1 = g.2.2.1.2 1 from rfl, gX_tw] at a2
    by_cases s1 : tsg (g.2.2.1.2 1) n p1 64 = true
    · have hp1 := tsg_lt s1
      have a3 := fun Q => c_readNumber (sc := sc) (Q := Q) (g := gX g 2 (nI (p1 + 1))) (n := n) (p := p1 + 1) hn (by omega) e0 rfl
      rw [show (gX g 2 (nI (p1 + 1))).2.2.1.2 1 = g.2.2.1.2 1 from rfl] at a3
      simp only [s1, if_true] at a2 ⊢
      cases e3 : tnum (g.2.2.1.2 1) n (p1 + 1) with
      | none =>
        rw [e3] at a3
        simp only [↓u55_0, ↓u55_1, ↓u55_2, ↓u55_5, ↓u55_6, ↓u55_7, ↓u55_10, ↓u55_11, ↓u55_13, ↓u55_15, ↓u55_124, ↓u55_18, ↓u55_125, ↓u55_19, ↓u55_128, ↓u55_22, ↓u55_23, ↓u55_24, ↓u55_25, ↓u55_37, ↓u55_28, ↓u55_38, ↓u55_29, ↓u55_41, ↓u55_31, ↓u55_34, ↓u55_42, ↓u55_43, ↓u55_46, ↓u55_47, ↓u55_48, ↓u55_49, ↓u55_61, ↓u55_52, ↓u55_62, ↓u55_53, ↓u55_65, ↓u55_55, ↓u55_58, ↓u55_66, ↓u55_67, ↓u55_70, ↓u55_72, ↓u55_74, ↓u55_75, ↓u55_83, ↓u55_78, ↓u55_84, ↓u55_79, ↓u55_85, ↓u55_82, ↓u55_86, ↓u55_88, ↓u55_91, ↓u55_92, ↓u55_95, ↓u55_96, ↓u55_99, ↓u55_104, ↓u55_102, ↓u55_105, ↓u55_103, ↓u55_107, ↓u55_110, ↓u55_118, ↓u55_113, ↓u55_121, ↓u55_114, ↓u55_117, hi1, if_true, if_false, ↓x_o, ↓a1, ↓a2, ↓a3, ↓c_v_some, nn a (by omega), m1t, n10, ↓xf4, ga]
      | some w =>
        obtain ⟨b, p2⟩ := w
        obtain ⟨h4, h5, h6⟩ := tnum_lt e3
        rw [e3] at a3
        simp only [gX_tw] at a3
        have a4 := fun Q => c_reads (sc := sc) (Q := Q) (g := gX g 2 (nI p2)) (n := n) (p := p2) (c := 114) hn h5 e0 rfl
        rw [show (gX g 2 (nI p2)).2.2.1.2 1 = g.2.2.1.2 1 from rfl, gX_tw] at a4
        by_cases s2 : tsg (g.2.2.1.2 1) n p2 114 = true
        · have hp2 := tsg_lt s2
          have a5 := fun Q => c_readDigit (sc := sc) (Q := Q) (g := gX g 2 (nI (p2 + 1))) (n := n) (p := p2 + 1) hn (by omega) e0 rfl
          rw [show (gX g 2 (nI (p2 + 1))).2.2.1.2 1 = g.2.2.1.2 1 from rfl] at a5
          simp only [s2, if_true] at a4 ⊢
          cases e5 : tdg (g.2.2.1.2 1) n (p2 + 1) with
          | none =>
            rw [e5] at a5
            simp only [↓u55_0, ↓u55_1, ↓u55_2, ↓u55_5, ↓u55_6, ↓u55_7, ↓u55_10, ↓u55_11, ↓u55_13, ↓u55_15, ↓u55_124, ↓u55_18, ↓u55_125, ↓u55_19, ↓u55_128, ↓u55_22, ↓u55_23, ↓u55_24, ↓u55_25, ↓u55_37, ↓u55_28, ↓u55_38, ↓u55_29, ↓u55_41, ↓u55_31, ↓u55_34, ↓u55_42, ↓u55_43, ↓u55_46, ↓u55_47, ↓u55_48, ↓u55_49, ↓u55_61, ↓u55_52, ↓u55_62, ↓u55_53, ↓u55_65, ↓u55_55, ↓u55_58, ↓u55_66, ↓u55_67, ↓u55_70, ↓u55_72, ↓u55_74, ↓u55_75, ↓u55_83, ↓u55_78, ↓u55_84, ↓u55_79, ↓u55_85, ↓u55_82, ↓u55_86, ↓u55_88, ↓u55_91, ↓u55_92, ↓u55_95, ↓u55_96, ↓u55_99, ↓u55_104, ↓u55_102, ↓u55_105, ↓u55_103, ↓u55_107, ↓u55_110, ↓u55_118, ↓u55_113, ↓u55_121, ↓u55_114, ↓u55_117, hi1, if_true, if_false, ↓x_o, ↓a1, ↓a2, ↓a3, ↓a4, ↓a5, ↓c_v_some, nn a (by omega), nn b (by omega), m1t, n10, ↓xf4, ga]
          | some d =>
            obtain ⟨h7, h8⟩ := tdg_lt e5
            rw [e5] at a5
            simp only [gX_tw] at a5
            have a6 := fun Q => c_put (sc := sc) (Q := Q) (g := gX g 2 (nI (p2 + 1 + 1))) (a := nI a) (b := nI b) (d := nI d) hf e1
            have a7 := fun Q => c_reads (sc := sc) (Q := Q) (g := putW g (p2 + 2) f (nI a) (nI b) (nI d)) (n := n) (p := p2 + 2) (c := 59) hn (by omega) e0 rfl
            rw [show (putW g (p2 + 2) f (nI a) (nI b) (nI d)).2.2.1.2 1 = g.2.2.1.2 1 from rfl] at a7
            rw [show gX (gXN (gX g 2 (nI (p2 + 1 + 1))) 0 (upF (upF (upF ((gX g 2 (nI (p2 + 1 + 1))).2.2.1.2 0) (f * 3 + 0) (nI a)) (f * 3 + 1) (nI b)) (f * 3 + 2) (nI d))) 1 (nI (f + 1)) = putW g (p2 + 2) f (nI a) (nI b) (nI d) from rfl] at a6
            have g0 : (putW g (p2 + 2) f (nI a) (nI b) (nI d)).2.2.1.1 0 = nI n := e0
            have g2 : (putW g (p2 + 2) f (nI a) (nI b) (nI d)).2.2.1.1 2 = nI (p2 + 2) := rfl
            have k1 : (nI n ≤ nI (p2 + 2)) = (n ≤ p2 + 2) := propext (nI_leI (by omega) (by omega))
            have k2 : (nI (p2 + 2) < nI n) = ¬ (n ≤ p2 + 2) := propext ((nI_ltI (by omega) (by omega)).trans Nat.not_le.symm)
            simp only [↓u55_0, ↓u55_1, ↓u55_2, ↓u55_5, ↓u55_6, ↓u55_7, ↓u55_10, ↓u55_11, ↓u55_13, ↓u55_15, ↓u55_124, ↓u55_18, ↓u55_125, ↓u55_19, ↓u55_128, ↓u55_22, ↓u55_23, ↓u55_24, ↓u55_25, ↓u55_37, ↓u55_28, ↓u55_38, ↓u55_29, ↓u55_41, ↓u55_31, ↓u55_34, ↓u55_42, ↓u55_43, ↓u55_46, ↓u55_47, ↓u55_48, ↓u55_49, ↓u55_61, ↓u55_52, ↓u55_62, ↓u55_53, ↓u55_65, ↓u55_55, ↓u55_58, ↓u55_66, ↓u55_67, ↓u55_70, ↓u55_72, ↓u55_74, ↓u55_75, ↓u55_83, ↓u55_78, ↓u55_84, ↓u55_79, ↓u55_85, ↓u55_82, ↓u55_86, ↓u55_88, ↓u55_91, ↓u55_92, ↓u55_95, ↓u55_96, ↓u55_99, ↓u55_104, ↓u55_102, ↓u55_105, ↓u55_103, ↓u55_107, ↓u55_110, ↓u55_118, ↓u55_113, ↓u55_121, ↓u55_114, ↓u55_117, hi1, if_true, if_false, ↓x_o, ↓a1, ↓a2, ↓a3, ↓a4, ↓a5, ↓a6, ↓c_v_some, ↓c_v_none, nn a (by omega), nn b (by omega), nn d (by omega), m1t, n10, ↓xf0, ↓xf4, g0, g2, k1, k2]
            by_cases q1 : n ≤ p2 + 2
            · simp only [q1, not_true_eq_false, if_true, if_false]
            · simp only [q1, not_false_eq_true, if_true, if_false, a7]
              cases s3 : tsg (g.2.2.1.2 1) n (p2 + 2) 59 <;> simp only [↓u55_0, ↓u55_1, ↓u55_2, ↓u55_5, ↓u55_6, ↓u55_7, ↓u55_10, ↓u55_11, ↓u55_13, ↓u55_15, ↓u55_124, ↓u55_18, ↓u55_125, ↓u55_19, ↓u55_128, ↓u55_22, ↓u55_23, ↓u55_24, ↓u55_25, ↓u55_37, ↓u55_28, ↓u55_38, ↓u55_29, ↓u55_41, ↓u55_31, ↓u55_34, ↓u55_42, ↓u55_43, ↓u55_46, ↓u55_47, ↓u55_48, ↓u55_49, ↓u55_61, ↓u55_52, ↓u55_62, ↓u55_53, ↓u55_65, ↓u55_55, ↓u55_58, ↓u55_66, ↓u55_67, ↓u55_70, ↓u55_72, ↓u55_74, ↓u55_75, ↓u55_83, ↓u55_78, ↓u55_84, ↓u55_79, ↓u55_85, ↓u55_82, ↓u55_86, ↓u55_88, ↓u55_91, ↓u55_92, ↓u55_95, ↓u55_96, ↓u55_99, ↓u55_104, ↓u55_102, ↓u55_105, ↓u55_103, ↓u55_107, ↓u55_110, ↓u55_118, ↓u55_113, ↓u55_121, ↓u55_114, ↓u55_117, if_true, if_false, ↓c_v_some, n00, n10, nI_1, ↓xf4, g2, Bool.false_eq_true]
        · simp only [s2, if_false, Bool.false_eq_true] at a4 ⊢
          simp only [↓u55_0, ↓u55_1, ↓u55_2, ↓u55_5, ↓u55_6, ↓u55_7, ↓u55_10, ↓u55_11, ↓u55_13, ↓u55_15, ↓u55_124, ↓u55_18, ↓u55_125, ↓u55_19, ↓u55_128, ↓u55_22, ↓u55_23, ↓u55_24, ↓u55_25, ↓u55_37, ↓u55_28, ↓u55_38, ↓u55_29, ↓u55_41, ↓u55_31, ↓u55_34, ↓u55_42, ↓u55_43, ↓u55_46, ↓u55_47, ↓u55_48, ↓u55_49, ↓u55_61, ↓u55_52, ↓u55_62, ↓u55_53, ↓u55_65, ↓u55_55, ↓u55_58, ↓u55_66, ↓u55_67, ↓u55_70, ↓u55_72, ↓u55_74, ↓u55_75, ↓u55_83, ↓u55_78, ↓u55_84, ↓u55_79, ↓u55_85, ↓u55_82, ↓u55_86, ↓u55_88, ↓u55_91, ↓u55_92, ↓u55_95, ↓u55_96, ↓u55_99, ↓u55_104, ↓u55_102, ↓u55_105, ↓u55_103, ↓u55_107, ↓u55_110, ↓u55_118, ↓u55_113, ↓u55_121, ↓u55_114, ↓u55_117, hi1, if_true, if_false, ↓x_o, ↓a1, ↓a2, ↓a3, ↓a4, ↓c_v_some, nn a (by omega), nn b (by omega), m1t, n10, n00, ↓xf4, ga]
    · simp only [s1, if_false, Bool.false_eq_true] at a2 ⊢
      simp only [↓u55_0, ↓u55_1, ↓u55_2, ↓u55_5, ↓u55_6, ↓u55_7, ↓u55_10, ↓u55_11, ↓u55_13, ↓u55_15, ↓u55_124, ↓u55_18, ↓u55_125, ↓u55_19, ↓u55_128, ↓u55_22, ↓u55_23, ↓u55_24, ↓u55_25, ↓u55_37, ↓u55_28, ↓u55_38, ↓u55_29, ↓u55_41, ↓u55_31, ↓u55_34, ↓u55_42, ↓u55_43, ↓u55_46, ↓u55_47, ↓u55_48, ↓u55_49, ↓u55_61, ↓u55_52, ↓u55_62, ↓u55_53, ↓u55_65, ↓u55_55, ↓u55_58, ↓u55_66, ↓u55_67, ↓u55_70, ↓u55_72, ↓u55_74, ↓u55_75, ↓u55_83, ↓u55_78, ↓u55_84, ↓u55_79, ↓u55_85, ↓u55_82, ↓u55_86, ↓u55_88, ↓u55_91, ↓u55_92, ↓u55_95, ↓u55_96, ↓u55_99, ↓u55_104, ↓u55_102, ↓u55_105, ↓u55_103, ↓u55_107, ↓u55_110, ↓u55_118, ↓u55_113, ↓u55_121, ↓u55_114, ↓u55_117, hi1, if_true, if_false, ↓x_o, ↓a1, ↓a2, ↓c_v_some, nn a (by omega), m1t, n10, n00, ↓xf4, ga]
end
