/-! THE LAW'S OWN METHODS: up, cell, some, any, setsUp, turn -/
section
variable {sc : Nat × (Nat → Int32)} {s : SV} {g : SG} {fs n j : Nat} {w : ri_W} {Q : Option Value → ri_W → Prop}
def upV (x m : Int32) : Int32 := (x &&& 2147483647) - (x &&& 2147483647) / m * m
theorem l_up {x m : Int32} (hm : ¬ m = 0) : ev sc 89 [.int x, .int m] w Q = Q (some (.int (upV x m))) w := by
  simp only [↓en89, ↓u89_0, ↓u89_1, ↓u89_3, ↓u89_4, ↓u89_5, ↓u89_6, hm, if_false]
  rfl
theorem n10_0 : ((10 : Int32) = 0) = False := eq_false (by decide)
/-- course(v, 6) for any v -/
def c6V (s : SV) (v : Int32) : Int32 := if ii v 0 (s.1 5 - 1) = 0 then -1 else nI (plc s v.toNatClampNeg)
theorem v_c6 (hI : inv (g.1 0)) {v : Int32} : ev sc 70 [.ref 0, .int v, .int 6] (Wd g) Q = Q (some (.int (c6V (g.1 0) v))) (Wd g) := by
  have hCn := hI.2.1.2.2.2.2.2
  unfold c6V
  rcases ii_cases (v := v) (n := nC (g.1 0)) (by omega) with ⟨c, c1, rfl, c2⟩ | ⟨-, c2⟩
  · rw [hCn.1, c2, if_neg (by decide), nI_clamp (by omega)]
    exact v_plc hI c1
  · simp only [↓en70, ↓u70_0, ↓u70_1, ↓u70_2, ↓u70_5, ↓u70_10, ↓u70_8, ↓u70_11, ↓u70_9, ↓u70_12, ↓u70_13, ↓u70_16, ↓u70_29, ↓u70_19, ↓u70_30_c0, ↓u70_30_c1, ↓u70_20, ↓u70_56, ↓u70_65, ↓u70_74, ↓u70_23, ↓u70_57, ↓u70_66, ↓u70_76, ↓u70_24, ↓u70_60, ↓u70_69, ↓u70_25, ↓u70_61, ↓u70_70, ↓u70_28, ↓u70_64, ↓u70_73, ↓m_o, ↓c_knowsCourse, ↓c_v_some, hCn.1, c2, n00, if_true]
/-- lessonAt for any numbers -/
def latV (s : SV) (v x : Int32) : Int32 := if ii v 0 (s.1 5 - 1) = 0 then -1 else if x < 0 then -2 else latS s v.toNatClampNeg x (slS s) 0 0
theorem v_lat (hI : inv (g.1 0)) {v x : Int32} : ev sc 71 [.ref 0, .int v, .int x] (Wd g) Q = Q (some (.int (latV (g.1 0) v x))) (Wd g) := by
  have hCn := hI.2.1.2.2.2.2.2
  unfold latV
  rcases ii_cases (v := v) (n := nC (g.1 0)) (by omega) with ⟨c, c1, rfl, c2⟩ | ⟨-, c2⟩
  · have hc20 : c < 20 := by omega
    rw [hCn.1, c2, if_neg (by decide), nI_clamp (by omega)]
    by_cases hx : x < 0
    · have hx2 : ¬ (0 : Int32) ≤ x := Int32.not_le.mpr hx
      simp only [↓en71, ↓u71_0, ↓u71_1, ↓u71_2, ↓u71_5, ↓u71_10, ↓u71_8, ↓u71_11, ↓u71_9, ↓u71_17, ↓u71_14, ↓u71_18, ↓u71_16, ↓u71_19, ↓u71_20, ↓u71_24, ↓u71_25, ↓u71_28, ↓u71_31, ↓u71_81, ↓u71_34, ↓u71_83, ↓u71_35, ↓u71_38, ↓u71_41, ↓u71_42, ↓u71_44, ↓u71_47, ↓u71_75, ↓u71_50, ↓u71_78, ↓u71_51, ↓u71_52, ↓u71_72, ↓u71_55, ↓u71_57, ↓u71_59, ↓u71_60, ↓u71_61, ↓u71_64, ↓u71_65, ↓u71_67, ↓u71_70, ↓u71_71, ↓m_o, ↓c_knowsCourse, ↓c_v_some, hCn.1, c2, n10, hx, hx2, if_true, if_false]
    · have hx2 : (0 : Int32) ≤ x := Int32.not_lt.mp hx
      rw [if_neg hx]
      simp only [↓en71, ↓u71_0, ↓u71_1, ↓u71_2, ↓u71_5, ↓u71_10, ↓u71_8, ↓u71_11, ↓u71_9, ↓u71_17, ↓u71_14, ↓u71_18, ↓u71_16, ↓u71_19, ↓u71_20, ↓u71_24, ↓u71_25, ↓u71_28, ↓u71_31, ↓u71_81, ↓u71_34, ↓u71_83, ↓u71_35, ↓u71_38, ↓u71_41, ↓u71_42, ↓u71_44, ↓u71_47, ↓u71_75, ↓u71_50, ↓u71_78, ↓u71_51, ↓u71_52, ↓u71_72, ↓u71_55, ↓u71_57, ↓u71_59, ↓u71_60, ↓u71_61, ↓u71_64, ↓u71_65, ↓u71_67, ↓u71_70, ↓u71_71, ↓m_o, ↓c_knowsCourse, ↓c_v_some, hCn.1, c2, n10, hx, hx2, if_true, if_false]
      exact c_lessonAt_l hI hc20 (slS (g.1 0)) 0 0 (by omega)
  · simp only [↓en71, ↓u71_0, ↓u71_1, ↓u71_2, ↓u71_5, ↓u71_10, ↓u71_8, ↓u71_11, ↓u71_9, ↓u71_17, ↓u71_14, ↓u71_18, ↓u71_16, ↓u71_19, ↓u71_20, ↓u71_24, ↓u71_25, ↓u71_28, ↓u71_31, ↓u71_81, ↓u71_34, ↓u71_83, ↓u71_35, ↓u71_38, ↓u71_41, ↓u71_42, ↓u71_44, ↓u71_47, ↓u71_75, ↓u71_50, ↓u71_78, ↓u71_51, ↓u71_52, ↓u71_72, ↓u71_55, ↓u71_57, ↓u71_59, ↓u71_60, ↓u71_61, ↓u71_64, ↓u71_65, ↓u71_67, ↓u71_70, ↓u71_71, ↓m_o, ↓c_knowsCourse, ↓c_v_some, hCn.1, c2, n00, if_true]
def smeV (s : SV) (c x : Int32) : Int32 := if c6V s c ≤ 0 then upV x 20 else latV s c (upV x (c6V s c)) / 10
theorem l_some (hI : inv (g.1 0)) {c x : Int32} : ev sc 94 [.ref 0, .int c, .int x] (Wd g) Q = Q (some (.int (smeV (g.1 0) c x))) (Wd g) := by
  unfold smeV
  by_cases e : c6V (g.1 0) c ≤ 0
  · simp only [↓en94, ↓u94_0, ↓u94_1, ↓u94_2, ↓u94_4, ↓u94_7, ↓u94_8, ↓u94_9, ↓u94_28, ↓u94_12, ↓u94_29, ↓u94_13, ↓u94_31, ↓u94_14, ↓u94_34, ↓u94_15, ↓u94_16, ↓u94_19, ↓u94_22, ↓u94_24, ↓u94_25, ↓m_o, ↓v_c6 hI, ↓c_v_some, e, if_true, ↓l_up (m := 20) (by decide)]
  · have e2 : ¬ c6V (g.1 0) c = 0 := fun h => e (by rw [h]; decide)
    simp only [↓en94, ↓u94_0, ↓u94_1, ↓u94_2, ↓u94_4, ↓u94_7, ↓u94_8, ↓u94_9, ↓u94_28, ↓u94_12, ↓u94_29, ↓u94_13, ↓u94_31, ↓u94_14, ↓u94_34, ↓u94_15, ↓u94_16, ↓u94_19, ↓u94_22, ↓u94_24, ↓u94_25, ↓m_o, ↓v_c6 hI, ↓c_v_some, e, if_false, ↓l_up e2, ↓v_lat hI, n10_0]
end
section
variable {sc : Nat × (Nat → Int32)} {s : SV} {g : SG} {fs n j : Nat} {w : ri_W} {Q : Option Value → ri_W → Prop}
theorem st_any (g : SG) {a b : Int32} : ∀ Q, ev sc 91 [.ref 0, .int a, .int b] (Wd g) Q = rv sc 91 4 [(0, .ref 0), (1, .int a), (2, .int b)] [.int (b &&& 7)] (Wd g) Q := fun Q => by
  simp only [↓en91, ↓u91_0, ↓u91_1, ↓u91_3]
theorem p_any (hJ : inv2 s) {a b : Int32} : Stq sc 91 [.ref 0, .int a, .int b] s := by
  rcases ii_cases (v := b &&& 7) (n := 7) (by decide) with ⟨k, k1, ek, -⟩ | ⟨k3, -⟩
  · have : k = 0 ∨ k = 1 ∨ k = 2 ∨ k = 3 ∨ k = 4 ∨ k = 5 ∨ k = 6 := by omega
    rcases this with rfl | rfl | rfl | rfl | rfl | rfl | rfl
    · rw [show nI 0 = 0 from rfl] at ek
      refine stp_call (p_setCycle hJ (x := a) (y := b)) (fun g fs n u hw e g' hq Q => ?_)
      rw [st_any, ek]
      simp only [↓u91_0, ↓u91_1, ↓u91_3, ↓u91_4_c0, ↓u91_4_c1, ↓u91_4_c2, ↓u91_4_c3, ↓u91_4_c4, ↓u91_4_c5, ↓u91_4_c6, ↓u91_48, ↓u91_55, ↓u91_62, ↓u91_72, ↓u91_79, ↓u91_87, ↓u91_96, ↓u91_102, ↓u91_49, ↓u91_56, ↓u91_63, ↓u91_73, ↓u91_80, ↓u91_88, ↓u91_97, ↓u91_103, ↓u91_50, ↓u91_57, ↓u91_64, ↓u91_74, ↓u91_81, ↓u91_89, ↓u91_98, ↓u91_104, ↓u91_51, ↓u91_58, ↓u91_65, ↓u91_75, ↓u91_82, ↓u91_90, ↓u91_101, ↓u91_105, ↓u91_54, ↓u91_61, ↓u91_66, ↓u91_78, ↓u91_83, ↓u91_91, ↓u91_108, ↓u91_67, ↓u91_86, ↓u91_92, ↓u91_68, ↓u91_95, ↓u91_71, ↓m_o, ↓hq, ↓c_v_some]
    · rw [show nI 1 = 1 from rfl] at ek
      refine stp_call (p_addTeacher hJ (a := a) (b := b)) (fun g fs n u hw e g' hq Q => ?_)
      rw [st_any, ek]
      simp only [↓u91_0, ↓u91_1, ↓u91_3, ↓u91_4_c0, ↓u91_4_c1, ↓u91_4_c2, ↓u91_4_c3, ↓u91_4_c4, ↓u91_4_c5, ↓u91_4_c6, ↓u91_48, ↓u91_55, ↓u91_62, ↓u91_72, ↓u91_79, ↓u91_87, ↓u91_96, ↓u91_102, ↓u91_49, ↓u91_56, ↓u91_63, ↓u91_73, ↓u91_80, ↓u91_88, ↓u91_97, ↓u91_103, ↓u91_50, ↓u91_57, ↓u91_64, ↓u91_74, ↓u91_81, ↓u91_89, ↓u91_98, ↓u91_104, ↓u91_51, ↓u91_58, ↓u91_65, ↓u91_75, ↓u91_82, ↓u91_90, ↓u91_101, ↓u91_105, ↓u91_54, ↓u91_61, ↓u91_66, ↓u91_78, ↓u91_83, ↓u91_91, ↓u91_108, ↓u91_67, ↓u91_86, ↓u91_92, ↓u91_68, ↓u91_95, ↓u91_71, ↓m_o, ↓hq, ↓c_v_some]
    · rw [show nI 2 = 2 from rfl] at ek
      refine stp_call (p_addCourse hJ (v := a) (p := b) (y := a) (q := b) (l := a)) (fun g fs n u hw e g' hq Q => ?_)
      rw [st_any, ek]
      simp only [↓u91_0, ↓u91_1, ↓u91_3, ↓u91_4_c0, ↓u91_4_c1, ↓u91_4_c2, ↓u91_4_c3, ↓u91_4_c4, ↓u91_4_c5, ↓u91_4_c6, ↓u91_48, ↓u91_55, ↓u91_62, ↓u91_72, ↓u91_79, ↓u91_87, ↓u91_96, ↓u91_102, ↓u91_49, ↓u91_56, ↓u91_63, ↓u91_73, ↓u91_80, ↓u91_88, ↓u91_97, ↓u91_103, ↓u91_50, ↓u91_57, ↓u91_64, ↓u91_74, ↓u91_81, ↓u91_89, ↓u91_98, ↓u91_104, ↓u91_51, ↓u91_58, ↓u91_65, ↓u91_75, ↓u91_82, ↓u91_90, ↓u91_101, ↓u91_105, ↓u91_54, ↓u91_61, ↓u91_66, ↓u91_78, ↓u91_83, ↓u91_91, ↓u91_108, ↓u91_67, ↓u91_86, ↓u91_92, ↓u91_68, ↓u91_95, ↓u91_71, ↓m_o, ↓hq, ↓c_v_some]
    · rw [show nI 3 = 3 from rfl] at ek
      refine stp_call (p_join hJ (v := a) (y := b)) (fun g fs n u hw e g' hq Q => ?_)
      rw [st_any, ek]
      simp only [↓u91_0, ↓u91_1, ↓u91_3, ↓u91_4_c0, ↓u91_4_c1, ↓u91_4_c2, ↓u91_4_c3, ↓u91_4_c4, ↓u91_4_c5, ↓u91_4_c6, ↓u91_48, ↓u91_55, ↓u91_62, ↓u91_72, ↓u91_79, ↓u91_87, ↓u91_96, ↓u91_102, ↓u91_49, ↓u91_56, ↓u91_63, ↓u91_73, ↓u91_80, ↓u91_88, ↓u91_97, ↓u91_103, ↓u91_50, ↓u91_57, ↓u91_64, ↓u91_74, ↓u91_81, ↓u91_89, ↓u91_98, ↓u91_104, ↓u91_51, ↓u91_58, ↓u91_65, ↓u91_75, ↓u91_82, ↓u91_90, ↓u91_101, ↓u91_105, ↓u91_54, ↓u91_61, ↓u91_66, ↓u91_78, ↓u91_83, ↓u91_91, ↓u91_108, ↓u91_67, ↓u91_86, ↓u91_92, ↓u91_68, ↓u91_95, ↓u91_71, ↓m_o, ↓hq, ↓c_v_some]
    · rw [show nI 4 = 4 from rfl] at ek
      refine stp_call (p_place hJ (v := a) (x := b) (y := a)) (fun g fs n u hw e g' hq Q => ?_)
      rw [st_any, ek]
      simp only [↓u91_0, ↓u91_1, ↓u91_3, ↓u91_4_c0, ↓u91_4_c1, ↓u91_4_c2, ↓u91_4_c3, ↓u91_4_c4, ↓u91_4_c5, ↓u91_4_c6, ↓u91_48, ↓u91_55, ↓u91_62, ↓u91_72, ↓u91_79, ↓u91_87, ↓u91_96, ↓u91_102, ↓u91_49, ↓u91_56, ↓u91_63, ↓u91_73, ↓u91_80, ↓u91_88, ↓u91_97, ↓u91_103, ↓u91_50, ↓u91_57, ↓u91_64, ↓u91_74, ↓u91_81, ↓u91_89, ↓u91_98, ↓u91_104, ↓u91_51, ↓u91_58, ↓u91_65, ↓u91_75, ↓u91_82, ↓u91_90, ↓u91_101, ↓u91_105, ↓u91_54, ↓u91_61, ↓u91_66, ↓u91_78, ↓u91_83, ↓u91_91, ↓u91_108, ↓u91_67, ↓u91_86, ↓u91_92, ↓u91_68, ↓u91_95, ↓u91_71, ↓m_o, ↓hq, ↓c_v_some]
    · rw [show nI 5 = 5 from rfl] at ek
      refine stp_call (p_move hJ (v := a) (x := b) (y := a) (z := b)) (fun g fs n u hw e g' hq Q => ?_)
      rw [st_any, ek]
      simp only [↓u91_0, ↓u91_1, ↓u91_3, ↓u91_4_c0, ↓u91_4_c1, ↓u91_4_c2, ↓u91_4_c3, ↓u91_4_c4, ↓u91_4_c5, ↓u91_4_c6, ↓u91_48, ↓u91_55, ↓u91_62, ↓u91_72, ↓u91_79, ↓u91_87, ↓u91_96, ↓u91_102, ↓u91_49, ↓u91_56, ↓u91_63, ↓u91_73, ↓u91_80, ↓u91_88, ↓u91_97, ↓u91_103, ↓u91_50, ↓u91_57, ↓u91_64, ↓u91_74, ↓u91_81, ↓u91_89, ↓u91_98, ↓u91_104, ↓u91_51, ↓u91_58, ↓u91_65, ↓u91_75, ↓u91_82, ↓u91_90, ↓u91_101, ↓u91_105, ↓u91_54, ↓u91_61, ↓u91_66, ↓u91_78, ↓u91_83, ↓u91_91, ↓u91_108, ↓u91_67, ↓u91_86, ↓u91_92, ↓u91_68, ↓u91_95, ↓u91_71, ↓m_o, ↓hq, ↓c_v_some]
    · rw [show nI 6 = 6 from rfl] at ek
      refine stp_call (p_fill hJ (v := a)) (fun g fs n u hw e g' hq Q => ?_)
      rw [st_any, ek]
      simp only [↓u91_0, ↓u91_1, ↓u91_3, ↓u91_4_c0, ↓u91_4_c1, ↓u91_4_c2, ↓u91_4_c3, ↓u91_4_c4, ↓u91_4_c5, ↓u91_4_c6, ↓u91_48, ↓u91_55, ↓u91_62, ↓u91_72, ↓u91_79, ↓u91_87, ↓u91_96, ↓u91_102, ↓u91_49, ↓u91_56, ↓u91_63, ↓u91_73, ↓u91_80, ↓u91_88, ↓u91_97, ↓u91_103, ↓u91_50, ↓u91_57, ↓u91_64, ↓u91_74, ↓u91_81, ↓u91_89, ↓u91_98, ↓u91_104, ↓u91_51, ↓u91_58, ↓u91_65, ↓u91_75, ↓u91_82, ↓u91_90, ↓u91_101, ↓u91_105, ↓u91_54, ↓u91_61, ↓u91_66, ↓u91_78, ↓u91_83, ↓u91_91, ↓u91_108, ↓u91_67, ↓u91_86, ↓u91_92, ↓u91_68, ↓u91_95, ↓u91_71, ↓m_o, ↓hq, ↓c_v_some]
  · have hb := big (N := 7) (by decide) k3
    have hb2 : (b &&& 7).toInt < 0 ∨ 6 < (b &&& 7).toInt := by omega
    refine stp_call (p_holiday1 hJ (x := a)) (fun g fs n u hw e g' hq Q => ?_)
    rw [st_any]
    simp only [↓u91_0, ↓u91_1, ↓u91_3, ↓u91_4_c0, ↓u91_4_c1, ↓u91_4_c2, ↓u91_4_c3, ↓u91_4_c4, ↓u91_4_c5, ↓u91_4_c6, ↓u91_48, ↓u91_55, ↓u91_62, ↓u91_72, ↓u91_79, ↓u91_87, ↓u91_96, ↓u91_102, ↓u91_49, ↓u91_56, ↓u91_63, ↓u91_73, ↓u91_80, ↓u91_88, ↓u91_97, ↓u91_103, ↓u91_50, ↓u91_57, ↓u91_64, ↓u91_74, ↓u91_81, ↓u91_89, ↓u91_98, ↓u91_104, ↓u91_51, ↓u91_58, ↓u91_65, ↓u91_75, ↓u91_82, ↓u91_90, ↓u91_101, ↓u91_105, ↓u91_54, ↓u91_61, ↓u91_66, ↓u91_78, ↓u91_83, ↓u91_91, ↓u91_108, ↓u91_67, ↓u91_86, ↓u91_92, ↓u91_68, ↓u91_95, ↓u91_71, ↓u91_4_d hb2, ↓m_o, ↓hq, ↓c_v_some]
theorem st_setsUp (g : SG) {a b : Int32} : ∀ Q, ev sc 92 [.ref 0, .int a, .int b] (Wd g) Q = rv sc 92 4 [(0, .ref 0), (1, .int a), (2, .int b)] [.int (a &&& 7)] (Wd g) Q := fun Q => by
  simp only [↓en92, ↓u92_0, ↓u92_1, ↓u92_3]
theorem p_setsUp (hJ : inv2 s) {a b : Int32} : Stq sc 92 [.ref 0, .int a, .int b] s := by
  rcases ii_cases (v := a &&& 7) (n := 4) (by decide) with ⟨k, k1, ek, -⟩ | ⟨k3, -⟩
  · have : k = 0 ∨ k = 1 ∨ k = 2 ∨ k = 3 := by omega
    rcases this with rfl | rfl | rfl | rfl
    · rw [show nI 0 = 0 from rfl] at ek
      refine stp_call (p_addGroup hJ) (fun g fs n u hw e g' hq Q => ?_)
      rw [st_setsUp, ek]
      simp only [↓u92_0, ↓u92_1, ↓u92_3, ↓u92_4_c0, ↓u92_4_c1, ↓u92_4_c2, ↓u92_4_c3, ↓u92_36, ↓u92_41, ↓u92_63, ↓u92_83, ↓u92_106, ↓u92_37, ↓u92_42, ↓u92_64, ↓u92_84, ↓u92_107, ↓u92_40, ↓u92_43, ↓u92_65, ↓u92_85, ↓u92_108, ↓u92_44, ↓u92_67, ↓u92_87, ↓u92_109, ↓u92_46, ↓u92_70, ↓u92_90, ↓u92_112, ↓u92_49, ↓u92_71, ↓u92_91, ↓u92_113, ↓u92_50, ↓u92_72, ↓u92_93, ↓u92_114, ↓u92_51, ↓u92_73, ↓u92_94, ↓u92_115, ↓u92_52, ↓u92_75, ↓u92_101, ↓u92_97, ↓u92_116, ↓u92_53, ↓u92_78, ↓u92_102, ↓u92_98, ↓u92_119, ↓u92_54, ↓u92_79, ↓u92_105, ↓u92_120, ↓u92_55, ↓u92_82, ↓u92_121, ↓u92_58, ↓u92_122, ↓u92_59, ↓u92_123, ↓u92_62, ↓u92_126, ↓u92_127, ↓u92_129, ↓u92_130, ↓u92_132, ↓u92_135, ↓u92_136, ↓u92_138, ↓u92_139, ↓u92_141, ↓u92_144, ↓u92_145, ↓u92_146, ↓u92_147, ↓u92_149, ↓u92_150, ↓u92_151, ↓u92_154, ↓u92_155, ↓u92_158, ↓l_up (m := 3) (by decide), ↓l_up (m := 4) (by decide), ↓l_up (m := 5) (by decide), ↓l_up (m := 6) (by decide), ↓l_up (m := 7) (by decide), ↓l_up (m := 12) (by decide), ↓l_up (m := 15) (by decide), ↓l_up (m := 16) (by decide), ↓l_up (m := 20) (by decide), ↓l_up (m := 60) (by decide), ↓m_o, ↓hq, ↓c_v_some]
    · rw [show nI 1 = 1 from rfl] at ek
      refine stp_call (p_addTeacher hJ (a := (1 : Int32) + upV b 12) (b := (1 : Int32) + upV (b >>> (4 &&& 31)) 4)) (fun g fs n u hw e g' hq Q => ?_)
      rw [st_setsUp, ek]
      simp only [↓u92_0, ↓u92_1, ↓u92_3, ↓u92_4_c0, ↓u92_4_c1, ↓u92_4_c2, ↓u92_4_c3, ↓u92_36, ↓u92_41, ↓u92_63, ↓u92_83, ↓u92_106, ↓u92_37, ↓u92_42, ↓u92_64, ↓u92_84, ↓u92_107, ↓u92_40, ↓u92_43, ↓u92_65, ↓u92_85, ↓u92_108, ↓u92_44, ↓u92_67, ↓u92_87, ↓u92_109, ↓u92_46, ↓u92_70, ↓u92_90, ↓u92_112, ↓u92_49, ↓u92_71, ↓u92_91, ↓u92_113, ↓u92_50, ↓u92_72, ↓u92_93, ↓u92_114, ↓u92_51, ↓u92_73, ↓u92_94, ↓u92_115, ↓u92_52, ↓u92_75, ↓u92_101, ↓u92_97, ↓u92_116, ↓u92_53, ↓u92_78, ↓u92_102, ↓u92_98, ↓u92_119, ↓u92_54, ↓u92_79, ↓u92_105, ↓u92_120, ↓u92_55, ↓u92_82, ↓u92_121, ↓u92_58, ↓u92_122, ↓u92_59, ↓u92_123, ↓u92_62, ↓u92_126, ↓u92_127, ↓u92_129, ↓u92_130, ↓u92_132, ↓u92_135, ↓u92_136, ↓u92_138, ↓u92_139, ↓u92_141, ↓u92_144, ↓u92_145, ↓u92_146, ↓u92_147, ↓u92_149, ↓u92_150, ↓u92_151, ↓u92_154, ↓u92_155, ↓u92_158, ↓l_up (m := 3) (by decide), ↓l_up (m := 4) (by decide), ↓l_up (m := 5) (by decide), ↓l_up (m := 6) (by decide), ↓l_up (m := 7) (by decide), ↓l_up (m := 12) (by decide), ↓l_up (m := 15) (by decide), ↓l_up (m := 16) (by decide), ↓l_up (m := 20) (by decide), ↓l_up (m := 60) (by decide), ↓m_o, ↓hq, ↓c_v_some]
    · rw [show nI 2 = 2 from rfl] at ek
      refine stp_call (p_addRoom hJ (a := upV b 16 ||| upV (b >>> (4 &&& 31)) 16)) (fun g fs n u hw e g' hq Q => ?_)
      rw [st_setsUp, ek]
      simp only [↓u92_0, ↓u92_1, ↓u92_3, ↓u92_4_c0, ↓u92_4_c1, ↓u92_4_c2, ↓u92_4_c3, ↓u92_36, ↓u92_41, ↓u92_63, ↓u92_83, ↓u92_106, ↓u92_37, ↓u92_42, ↓u92_64, ↓u92_84, ↓u92_107, ↓u92_40, ↓u92_43, ↓u92_65, ↓u92_85, ↓u92_108, ↓u92_44, ↓u92_67, ↓u92_87, ↓u92_109, ↓u92_46, ↓u92_70, ↓u92_90, ↓u92_112, ↓u92_49, ↓u92_71, ↓u92_91, ↓u92_113, ↓u92_50, ↓u92_72, ↓u92_93, ↓u92_114, ↓u92_51, ↓u92_73, ↓u92_94, ↓u92_115, ↓u92_52, ↓u92_75, ↓u92_101, ↓u92_97, ↓u92_116, ↓u92_53, ↓u92_78, ↓u92_102, ↓u92_98, ↓u92_119, ↓u92_54, ↓u92_79, ↓u92_105, ↓u92_120, ↓u92_55, ↓u92_82, ↓u92_121, ↓u92_58, ↓u92_122, ↓u92_59, ↓u92_123, ↓u92_62, ↓u92_126, ↓u92_127, ↓u92_129, ↓u92_130, ↓u92_132, ↓u92_135, ↓u92_136, ↓u92_138, ↓u92_139, ↓u92_141, ↓u92_144, ↓u92_145, ↓u92_146, ↓u92_147, ↓u92_149, ↓u92_150, ↓u92_151, ↓u92_154, ↓u92_155, ↓u92_158, ↓l_up (m := 3) (by decide), ↓l_up (m := 4) (by decide), ↓l_up (m := 5) (by decide), ↓l_up (m := 6) (by decide), ↓l_up (m := 7) (by decide), ↓l_up (m := 12) (by decide), ↓l_up (m := 15) (by decide), ↓l_up (m := 16) (by decide), ↓l_up (m := 20) (by decide), ↓l_up (m := 60) (by decide), ↓m_o, ↓hq, ↓c_v_some]
    · rw [show nI 3 = 3 from rfl] at ek
      by_cases hz : b &&& 64 = 0
      · refine stp_call (p_holiday1 hJ (x := upV b 60)) (fun g fs n u hw e g' hq Q => ?_)
        rw [st_setsUp, ek]
        simp only [↓u92_0, ↓u92_1, ↓u92_3, ↓u92_4_c0, ↓u92_4_c1, ↓u92_4_c2, ↓u92_4_c3, ↓u92_36, ↓u92_41, ↓u92_63, ↓u92_83, ↓u92_106, ↓u92_37, ↓u92_42, ↓u92_64, ↓u92_84, ↓u92_107, ↓u92_40, ↓u92_43, ↓u92_65, ↓u92_85, ↓u92_108, ↓u92_44, ↓u92_67, ↓u92_87, ↓u92_109, ↓u92_46, ↓u92_70, ↓u92_90, ↓u92_112, ↓u92_49, ↓u92_71, ↓u92_91, ↓u92_113, ↓u92_50, ↓u92_72, ↓u92_93, ↓u92_114, ↓u92_51, ↓u92_73, ↓u92_94, ↓u92_115, ↓u92_52, ↓u92_75, ↓u92_101, ↓u92_97, ↓u92_116, ↓u92_53, ↓u92_78, ↓u92_102, ↓u92_98, ↓u92_119, ↓u92_54, ↓u92_79, ↓u92_105, ↓u92_120, ↓u92_55, ↓u92_82, ↓u92_121, ↓u92_58, ↓u92_122, ↓u92_59, ↓u92_123, ↓u92_62, ↓u92_126, ↓u92_127, ↓u92_129, ↓u92_130, ↓u92_132, ↓u92_135, ↓u92_136, ↓u92_138, ↓u92_139, ↓u92_141, ↓u92_144, ↓u92_145, ↓u92_146, ↓u92_147, ↓u92_149, ↓u92_150, ↓u92_151, ↓u92_154, ↓u92_155, ↓u92_158, ↓l_up (m := 3) (by decide), ↓l_up (m := 4) (by decide), ↓l_up (m := 5) (by decide), ↓l_up (m := 6) (by decide), ↓l_up (m := 7) (by decide), ↓l_up (m := 12) (by decide), ↓l_up (m := 15) (by decide), ↓l_up (m := 16) (by decide), ↓l_up (m := 20) (by decide), ↓l_up (m := 60) (by decide), hz, if_true, if_false, ↓m_o, ↓hq, ↓c_v_some]
      · refine stp_call (p_holiday0 hJ (x := upV b 60)) (fun g fs n u hw e g' hq Q => ?_)
        rw [st_setsUp, ek]
        simp only [↓u92_0, ↓u92_1, ↓u92_3, ↓u92_4_c0, ↓u92_4_c1, ↓u92_4_c2, ↓u92_4_c3, ↓u92_36, ↓u92_41, ↓u92_63, ↓u92_83, ↓u92_106, ↓u92_37, ↓u92_42, ↓u92_64, ↓u92_84, ↓u92_107, ↓u92_40, ↓u92_43, ↓u92_65, ↓u92_85, ↓u92_108, ↓u92_44, ↓u92_67, ↓u92_87, ↓u92_109, ↓u92_46, ↓u92_70, ↓u92_90, ↓u92_112, ↓u92_49, ↓u92_71, ↓u92_91, ↓u92_113, ↓u92_50, ↓u92_72, ↓u92_93, ↓u92_114, ↓u92_51, ↓u92_73, ↓u92_94, ↓u92_115, ↓u92_52, ↓u92_75, ↓u92_101, ↓u92_97, ↓u92_116, ↓u92_53, ↓u92_78, ↓u92_102, ↓u92_98, ↓u92_119, ↓u92_54, ↓u92_79, ↓u92_105, ↓u92_120, ↓u92_55, ↓u92_82, ↓u92_121, ↓u92_58, ↓u92_122, ↓u92_59, ↓u92_123, ↓u92_62, ↓u92_126, ↓u92_127, ↓u92_129, ↓u92_130, ↓u92_132, ↓u92_135, ↓u92_136, ↓u92_138, ↓u92_139, ↓u92_141, ↓u92_144, ↓u92_145, ↓u92_146, ↓u92_147, ↓u92_149, ↓u92_150, ↓u92_151, ↓u92_154, ↓u92_155, ↓u92_158, ↓l_up (m := 3) (by decide), ↓l_up (m := 4) (by decide), ↓l_up (m := 5) (by decide), ↓l_up (m := 6) (by decide), ↓l_up (m := 7) (by decide), ↓l_up (m := 12) (by decide), ↓l_up (m := 15) (by decide), ↓l_up (m := 16) (by decide), ↓l_up (m := 20) (by decide), ↓l_up (m := 60) (by decide), hz, if_true, if_false, ↓m_o, ↓hq, ↓c_v_some]
  · have hb := big (N := 4) (by decide) k3
    have hb2 : (a &&& 7).toInt < 0 ∨ 3 < (a &&& 7).toInt := by omega
    refine stp_call (p_addCourse hJ (v := upV b 4) (p := upV (b >>> (3 &&& 31)) 3) (y := upV (b >>> (5 &&& 31)) 4) (q := upV (b >>> (8 &&& 31)) 16 &&& upV (b >>> (12 &&& 31)) 16) (l := (1 : Int32) + upV (b >>> (16 &&& 31)) 5)) (fun g fs n u hw e g' hq Q => ?_)
    rw [st_setsUp]
    simp only [↓u92_0, ↓u92_1, ↓u92_3, ↓u92_4_c0, ↓u92_4_c1, ↓u92_4_c2, ↓u92_4_c3, ↓u92_36, ↓u92_41, ↓u92_63, ↓u92_83, ↓u92_106, ↓u92_37, ↓u92_42, ↓u92_64, ↓u92_84, ↓u92_107, ↓u92_40, ↓u92_43, ↓u92_65, ↓u92_85, ↓u92_108, ↓u92_44, ↓u92_67, ↓u92_87, ↓u92_109, ↓u92_46, ↓u92_70, ↓u92_90, ↓u92_112, ↓u92_49, ↓u92_71, ↓u92_91, ↓u92_113, ↓u92_50, ↓u92_72, ↓u92_93, ↓u92_114, ↓u92_51, ↓u92_73, ↓u92_94, ↓u92_115, ↓u92_52, ↓u92_75, ↓u92_101, ↓u92_97, ↓u92_116, ↓u92_53, ↓u92_78, ↓u92_102, ↓u92_98, ↓u92_119, ↓u92_54, ↓u92_79, ↓u92_105, ↓u92_120, ↓u92_55, ↓u92_82, ↓u92_121, ↓u92_58, ↓u92_122, ↓u92_59, ↓u92_123, ↓u92_62, ↓u92_126, ↓u92_127, ↓u92_129, ↓u92_130, ↓u92_132, ↓u92_135, ↓u92_136, ↓u92_138, ↓u92_139, ↓u92_141, ↓u92_144, ↓u92_145, ↓u92_146, ↓u92_147, ↓u92_149, ↓u92_150, ↓u92_151, ↓u92_154, ↓u92_155, ↓u92_158, ↓u92_4_d hb2, ↓l_up (m := 3) (by decide), ↓l_up (m := 4) (by decide), ↓l_up (m := 5) (by decide), ↓l_up (m := 6) (by decide), ↓l_up (m := 7) (by decide), ↓l_up (m := 12) (by decide), ↓l_up (m := 15) (by decide), ↓l_up (m := 16) (by decide), ↓l_up (m := 20) (by decide), ↓l_up (m := 60) (by decide), ↓m_o, ↓hq, ↓c_v_some]
end
