section
variable {sc : Nat × (Nat → Int32)} {g : SG} {n p : Nat} {x : Nat → Int32} {Q : Option Value → ri_W → Prop}
theorem m_num2 (hn : n ≤ 60) (hp : p ≤ n) (e0 : g.2.2.2.1 2 = nI n) (e2 : g.2.2.2.1 3 = nI p) (ex : g.2.2.2.2 2 = x) : ev sc 156 [.ref 154, .int 2] (Wd g) Q = (match tnum x n p with
    | some (a, q) => Q (some (.int 1)) (Wd (gD (gD g 3 (nI q)) 4 (nI a)))
    | none => Q (some (.int 0)) (Wd g)) := by
  have hd := fun Q => m_digit (sc := sc) (Q := Q) hn hp e0 e2 ex
  unfold tnum
  rcases @tdg_c x n p with ⟨d, h1, h2, h3, h4⟩ | ⟨h3, h4⟩
  · rw [h4] at hd ⊢
    have c1 : ((2 : Int32) ≤ 1) = False := by decide
    have c2 : ((1 : Int32) < 2) = True := by decide
    have c3 : ((2 : Int32) ≤ 2) = True := by decide
    have c4 : ((2 : Int32) < 2) = False := by decide
    have f0 : (gD g 3 (nI (p + 1))).2.2.2.1 2 = nI n := e0
    have f2 : (gD g 3 (nI (p + 1))).2.2.2.1 3 = nI (p + 1) := rfl
    have fx : (gD g 3 (nI (p + 1))).2.2.2.2 2 = x := ex
    have hd2 := fun Q => m_digit (sc := sc) (Q := Q) (g := gD g 3 (nI (p + 1))) (n := n) (p := p + 1) (x := x) hn (by omega) f0 f2 fx
    cases d with
    | zero =>
      have k1 : (nI 0 ≤ 0) = True := by decide
      have k2 : ((0 : Int32) < nI 0) = False := by decide
      simp only [↓en156, ↓u156_0, ↓u156_1, ↓u156_3, ↓u156_5, ↓u156_8, ↓u156_13, ↓u156_11, ↓u156_14, ↓u156_12, ↓u156_17, ↓u156_18, ↓u156_21, ↓u156_22, ↓u156_24, ↓u156_25, ↓u156_26, ↓u156_27, ↓u156_28, ↓u156_31, ↓u156_32, ↓u156_33, ↓u156_36, ↓u156_37, ↓u156_39, ↓u156_40, ↓u156_92, ↓u156_43, ↓u156_93, ↓u156_44, ↓u156_94, ↓u156_47, ↓u156_97, ↓u156_48, ↓u156_98, ↓u156_50, ↓u156_52, ↓u156_55, ↓u156_58, ↓u156_60, ↓u156_61, ↓u156_62, ↓u156_63, ↓u156_66, ↓u156_67, ↓u156_70, ↓u156_71, ↓u156_72, ↓u156_74, ↓u156_75, ↓u156_76, ↓u156_77, ↓u156_78, ↓u156_81, ↓u156_82, ↓u156_83, ↓u156_86, ↓u156_89, ↓u156_38, ↓d_o, ↓hd, ↓c_v_some, n10, if_false, ↓df4, ↓df6, ↓dI2, e2, ex, nAt (show p < 60 by omega) (by decide), nI_clamp (show p < 2 ^ 31 by omega), if_true, h3, i48, dp6, nI_1, c1, c2, k1, k2, dp7, ↓c_b_1]
    | succ a =>
      have k1 : ¬ nI (a + 1) ≤ 0 := nI_nle (by omega) (by omega)
      have k2 : (0 : Int32) < nI (a + 1) := Int32.not_le.mp k1
      rcases @tdg_c x n (p + 1) with ⟨b, j1, j2, j3, j4⟩ | ⟨j3, j4⟩
      · rw [j4] at hd2 ⊢
        have c5 : (10 : Int32) * nI (a + 1) + nI (b + 48) - 48 = nI (10 * (a + 1) + b) := by
          rw [show (10 : Int32) = nI 10 from rfl, pk_mul, nI_add, show 10 * (a + 1) + (b + 48) = 10 * (a + 1) + b + 48 by omega, i48]
        simp only [↓en156, ↓u156_0, ↓u156_1, ↓u156_3, ↓u156_5, ↓u156_8, ↓u156_13, ↓u156_11, ↓u156_14, ↓u156_12, ↓u156_17, ↓u156_18, ↓u156_21, ↓u156_22, ↓u156_24, ↓u156_25, ↓u156_26, ↓u156_27, ↓u156_28, ↓u156_31, ↓u156_32, ↓u156_33, ↓u156_36, ↓u156_37, ↓u156_39, ↓u156_40, ↓u156_92, ↓u156_43, ↓u156_93, ↓u156_44, ↓u156_94, ↓u156_47, ↓u156_97, ↓u156_48, ↓u156_98, ↓u156_50, ↓u156_52, ↓u156_55, ↓u156_58, ↓u156_60, ↓u156_61, ↓u156_62, ↓u156_63, ↓u156_66, ↓u156_67, ↓u156_70, ↓u156_71, ↓u156_72, ↓u156_74, ↓u156_75, ↓u156_76, ↓u156_77, ↓u156_78, ↓u156_81, ↓u156_82, ↓u156_83, ↓u156_86, ↓u156_89, ↓u156_38, ↓d_o, ↓hd, hd2, ↓c_v_some, n10, if_false, ↓df4, ↓df6, ↓dI2, e2, ex, f2, fx, nAt (show p < 60 by omega) (by decide), nI_clamp (show p < 2 ^ 31 by omega), nAt (show p + 1 < 60 by omega) (by decide), nI_clamp (show p + 1 < 2 ^ 31 by omega), if_true, h3, j3, i48, dp6, nI_1, i110, c1, c2, c3, c4, c5, k1, k2, dp7, ↓c_b_1, gD_tw]
      · rw [j4] at hd2 ⊢
        simp only [↓en156, ↓u156_0, ↓u156_1, ↓u156_3, ↓u156_5, ↓u156_8, ↓u156_13, ↓u156_11, ↓u156_14, ↓u156_12, ↓u156_17, ↓u156_18, ↓u156_21, ↓u156_22, ↓u156_24, ↓u156_25, ↓u156_26, ↓u156_27, ↓u156_28, ↓u156_31, ↓u156_32, ↓u156_33, ↓u156_36, ↓u156_37, ↓u156_39, ↓u156_40, ↓u156_92, ↓u156_43, ↓u156_93, ↓u156_44, ↓u156_94, ↓u156_47, ↓u156_97, ↓u156_48, ↓u156_98, ↓u156_50, ↓u156_52, ↓u156_55, ↓u156_58, ↓u156_60, ↓u156_61, ↓u156_62, ↓u156_63, ↓u156_66, ↓u156_67, ↓u156_70, ↓u156_71, ↓u156_72, ↓u156_74, ↓u156_75, ↓u156_76, ↓u156_77, ↓u156_78, ↓u156_81, ↓u156_82, ↓u156_83, ↓u156_86, ↓u156_89, ↓u156_38, ↓d_o, ↓hd, hd2, ↓c_v_some, n10, n00, if_false, ↓df4, ↓df6, ↓dI2, e2, ex, nAt (show p < 60 by omega) (by decide), nI_clamp (show p < 2 ^ 31 by omega), if_true, h3, i48, dp6, nI_1, c1, c2, k1, k2, dp7, ↓c_b_1]
  · rw [h4] at hd ⊢
    simp only [↓en156, ↓u156_0, ↓u156_1, ↓u156_3, ↓u156_5, ↓u156_8, ↓u156_13, ↓u156_11, ↓u156_14, ↓u156_12, ↓u156_17, ↓u156_18, ↓u156_21, ↓u156_22, ↓u156_24, ↓u156_25, ↓u156_26, ↓u156_27, ↓u156_28, ↓u156_31, ↓u156_32, ↓u156_33, ↓u156_36, ↓u156_37, ↓u156_39, ↓u156_40, ↓u156_92, ↓u156_43, ↓u156_93, ↓u156_44, ↓u156_94, ↓u156_47, ↓u156_97, ↓u156_48, ↓u156_98, ↓u156_50, ↓u156_52, ↓u156_55, ↓u156_58, ↓u156_60, ↓u156_61, ↓u156_62, ↓u156_63, ↓u156_66, ↓u156_67, ↓u156_70, ↓u156_71, ↓u156_72, ↓u156_74, ↓u156_75, ↓u156_76, ↓u156_77, ↓u156_78, ↓u156_81, ↓u156_82, ↓u156_83, ↓u156_86, ↓u156_89, ↓d_o, ↓hd, ↓c_v_some, n00, if_true, ↓c_b_0]
end
