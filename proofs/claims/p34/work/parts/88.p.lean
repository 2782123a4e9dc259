/-! THE LAW'S OWN METHODS: the call of a turn -/
section
variable {sc : Nat × (Nat → Int32)} {s : SV} {g : SG} {fs n j : Nat} {w : ri_W} {Q : Option Value → ri_W → Prop}
theorem st_turn (g : SG) {w a b : Int32} : ∀ Q, ev sc 93 [.ref 0, .int w, .int a, .int b] (Wd g) Q = rv sc 93 17 [(0, .ref 0), (1, .int w), (2, .int a), (3, .int b), (4, .int (upV a 6)), (5, .int (upV b 20))] [.int w] (Wd g) Q := fun Q => by
  simp only [↓en93, ↓u93_0, ↓u93_1, ↓u93_3, ↓u93_6, ↓u93_8, ↓u93_9, ↓u93_11, ↓u93_14, ↓u93_16, ↓l_up (m := 6) (by decide), ↓l_up (m := 20) (by decide), ↓c_v_some]
theorem p_turn (hJ : inv2 s) {w a b : Int32} : Stq sc 93 [.ref 0, .int w, .int a, .int b] s := by
  have hI := hJ.1
  rcases ii_cases (v := w) (n := 15) (by decide) with ⟨k, k1, rfl, -⟩ | ⟨k3, -⟩
  · have : k = 0 ∨ k = 1 ∨ k = 2 ∨ k = 3 ∨ k = 4 ∨ k = 5 ∨ k = 6 ∨ k = 7 ∨ k = 8 ∨ k = 9 ∨ k = 10 ∨ k = 11 ∨ k = 12 ∨ k = 13 ∨ k = 14 := by omega
    rcases this with rfl | rfl | rfl | rfl | rfl | rfl | rfl | rfl | rfl | rfl | rfl | rfl | rfl | rfl | rfl
    · rw [show nI 0 = 0 from rfl]
      refine stp_call (p_setsUp hJ (a := a) (b := b)) (fun g fs n u hw e g' hq Q => ?_)
      subst e
      rw [st_turn]
      simp only [↓u93_17_c0, ↓u93_92, ↓u93_93, ↓u93_94, ↓u93_95, ↓u93_98, ↓l_up (m := 3) (by decide), ↓l_up (m := 4) (by decide), ↓l_up (m := 5) (by decide), ↓l_up (m := 6) (by decide), ↓l_up (m := 7) (by decide), ↓l_up (m := 12) (by decide), ↓l_up (m := 15) (by decide), ↓l_up (m := 16) (by decide), ↓l_up (m := 20) (by decide), ↓l_up (m := 60) (by decide), ↓l_some hI, ↓m_o, ↓hq, ↓c_v_some]
    · rw [show nI 1 = 1 from rfl]
      refine stp_call (p_setsUp hJ (a := a) (b := b)) (fun g fs n u hw e g' hq Q => ?_)
      subst e
      rw [st_turn]
      simp only [↓u93_17_c1, ↓u93_92, ↓u93_93, ↓u93_94, ↓u93_95, ↓u93_98, ↓l_up (m := 3) (by decide), ↓l_up (m := 4) (by decide), ↓l_up (m := 5) (by decide), ↓l_up (m := 6) (by decide), ↓l_up (m := 7) (by decide), ↓l_up (m := 12) (by decide), ↓l_up (m := 15) (by decide), ↓l_up (m := 16) (by decide), ↓l_up (m := 20) (by decide), ↓l_up (m := 60) (by decide), ↓l_some hI, ↓m_o, ↓hq, ↓c_v_some]
    · rw [show nI 2 = 2 from rfl]
      refine stp_call (p_setsUp hJ (a := a) (b := b)) (fun g fs n u hw e g' hq Q => ?_)
      subst e
      rw [st_turn]
      simp only [↓u93_17_c2, ↓u93_92, ↓u93_93, ↓u93_94, ↓u93_95, ↓u93_98, ↓l_up (m := 3) (by decide), ↓l_up (m := 4) (by decide), ↓l_up (m := 5) (by decide), ↓l_up (m := 6) (by decide), ↓l_up (m := 7) (by decide), ↓l_up (m := 12) (by decide), ↓l_up (m := 15) (by decide), ↓l_up (m := 16) (by decide), ↓l_up (m := 20) (by decide), ↓l_up (m := 60) (by decide), ↓l_some hI, ↓m_o, ↓hq, ↓c_v_some]
    · rw [show nI 3 = 3 from rfl]
      refine stp_call (p_setsUp hJ (a := a) (b := b)) (fun g fs n u hw e g' hq Q => ?_)
      subst e
      rw [st_turn]
      simp only [↓u93_17_c3, ↓u93_92, ↓u93_93, ↓u93_94, ↓u93_95, ↓u93_98, ↓l_up (m := 3) (by decide), ↓l_up (m := 4) (by decide), ↓l_up (m := 5) (by decide), ↓l_up (m := 6) (by decide), ↓l_up (m := 7) (by decide), ↓l_up (m := 12) (by decide), ↓l_up (m := 15) (by decide), ↓l_up (m := 16) (by decide), ↓l_up (m := 20) (by decide), ↓l_up (m := 60) (by decide), ↓l_some hI, ↓m_o, ↓hq, ↓c_v_some]
    · rw [show nI 4 = 4 from rfl]
      refine stp_call (p_join hJ (v := upV a 6) (y := upV b 4)) (fun g fs n u hw e g' hq Q => ?_)
      subst e
      rw [st_turn]
      simp only [↓u93_17_c4, ↓u93_99, ↓u93_100, ↓u93_102, ↓u93_103, ↓u93_104, ↓u93_107, ↓u93_110, ↓l_up (m := 3) (by decide), ↓l_up (m := 4) (by decide), ↓l_up (m := 5) (by decide), ↓l_up (m := 6) (by decide), ↓l_up (m := 7) (by decide), ↓l_up (m := 12) (by decide), ↓l_up (m := 15) (by decide), ↓l_up (m := 16) (by decide), ↓l_up (m := 20) (by decide), ↓l_up (m := 60) (by decide), ↓l_some hI, ↓m_o, ↓hq, ↓c_v_some]
    · rw [show nI 5 = 5 from rfl]
      by_cases hz : a &&& 64 = 0
      · skip
        refine stp_call (p_bar1 hJ (y := upV a 4) (x := upV b 20)) (fun g fs n u hw e g' hq Q => ?_)
        subst e
        rw [st_turn]
        simp only [↓u93_17_c5, ↓u93_111, ↓u93_112, ↓u93_113, ↓u93_114, ↓u93_117, ↓u93_119, ↓u93_120, ↓u93_122, ↓u93_123, ↓u93_126, ↓u93_127, ↓u93_130, ↓u93_131, ↓u93_134, ↓l_up (m := 3) (by decide), ↓l_up (m := 4) (by decide), ↓l_up (m := 5) (by decide), ↓l_up (m := 6) (by decide), ↓l_up (m := 7) (by decide), ↓l_up (m := 12) (by decide), ↓l_up (m := 15) (by decide), ↓l_up (m := 16) (by decide), ↓l_up (m := 20) (by decide), ↓l_up (m := 60) (by decide), hz, if_true, if_false, ↓l_some hI, ↓m_o, ↓hq, ↓c_v_some]
      · skip
        refine stp_call (p_bar0 hJ (y := upV a 4) (x := upV b 20)) (fun g fs n u hw e g' hq Q => ?_)
        subst e
        rw [st_turn]
        simp only [↓u93_17_c5, ↓u93_111, ↓u93_112, ↓u93_113, ↓u93_114, ↓u93_117, ↓u93_119, ↓u93_120, ↓u93_122, ↓u93_123, ↓u93_126, ↓u93_127, ↓u93_130, ↓u93_131, ↓u93_134, ↓l_up (m := 3) (by decide), ↓l_up (m := 4) (by decide), ↓l_up (m := 5) (by decide), ↓l_up (m := 6) (by decide), ↓l_up (m := 7) (by decide), ↓l_up (m := 12) (by decide), ↓l_up (m := 15) (by decide), ↓l_up (m := 16) (by decide), ↓l_up (m := 20) (by decide), ↓l_up (m := 60) (by decide), hz, if_true, if_false, ↓l_some hI, ↓m_o, ↓hq, ↓c_v_some]
    · rw [show nI 6 = 6 from rfl]
      refine stp_call (p_place hJ (v := upV a 6) (x := upV b 20) (y := upV (a >>> (4 &&& 31)) 3)) (fun g fs n u hw e g' hq Q => ?_)
      subst e
      rw [st_turn]
      simp only [↓u93_17_c6, ↓u93_135, ↓u93_136, ↓u93_138, ↓u93_140, ↓u93_141, ↓u93_142, ↓u93_143, ↓u93_144, ↓u93_147, ↓u93_150, ↓l_up (m := 3) (by decide), ↓l_up (m := 4) (by decide), ↓l_up (m := 5) (by decide), ↓l_up (m := 6) (by decide), ↓l_up (m := 7) (by decide), ↓l_up (m := 12) (by decide), ↓l_up (m := 15) (by decide), ↓l_up (m := 16) (by decide), ↓l_up (m := 20) (by decide), ↓l_up (m := 60) (by decide), ↓l_some hI, ↓m_o, ↓hq, ↓c_v_some]
    · rw [show nI 7 = 7 from rfl]
      refine stp_call (p_place hJ (v := upV a 6) (x := upV b 20) (y := upV (a >>> (4 &&& 31)) 3)) (fun g fs n u hw e g' hq Q => ?_)
      subst e
      rw [st_turn]
      simp only [↓u93_17_c7, ↓u93_135, ↓u93_136, ↓u93_138, ↓u93_140, ↓u93_141, ↓u93_142, ↓u93_143, ↓u93_144, ↓u93_147, ↓u93_150, ↓l_up (m := 3) (by decide), ↓l_up (m := 4) (by decide), ↓l_up (m := 5) (by decide), ↓l_up (m := 6) (by decide), ↓l_up (m := 7) (by decide), ↓l_up (m := 12) (by decide), ↓l_up (m := 15) (by decide), ↓l_up (m := 16) (by decide), ↓l_up (m := 20) (by decide), ↓l_up (m := 60) (by decide), ↓l_some hI, ↓m_o, ↓hq, ↓c_v_some]
    · rw [show nI 8 = 8 from rfl]
      refine stp_call (p_place hJ (v := upV a 6) (x := upV b 20) (y := upV (a >>> (4 &&& 31)) 3)) (fun g fs n u hw e g' hq Q => ?_)
      subst e
      rw [st_turn]
      simp only [↓u93_17_c8, ↓u93_135, ↓u93_136, ↓u93_138, ↓u93_140, ↓u93_141, ↓u93_142, ↓u93_143, ↓u93_144, ↓u93_147, ↓u93_150, ↓l_up (m := 3) (by decide), ↓l_up (m := 4) (by decide), ↓l_up (m := 5) (by decide), ↓l_up (m := 6) (by decide), ↓l_up (m := 7) (by decide), ↓l_up (m := 12) (by decide), ↓l_up (m := 15) (by decide), ↓l_up (m := 16) (by decide), ↓l_up (m := 20) (by decide), ↓l_up (m := 60) (by decide), ↓l_some hI, ↓m_o, ↓hq, ↓c_v_some]
    · rw [show nI 9 = 9 from rfl]
      refine stp_call (p_fill hJ (v := upV a 6)) (fun g fs n u hw e g' hq Q => ?_)
      subst e
      rw [st_turn]
      simp only [↓u93_17_c9, ↓u93_151, ↓u93_152, ↓u93_154, ↓u93_157, ↓l_up (m := 3) (by decide), ↓l_up (m := 4) (by decide), ↓l_up (m := 5) (by decide), ↓l_up (m := 6) (by decide), ↓l_up (m := 7) (by decide), ↓l_up (m := 12) (by decide), ↓l_up (m := 15) (by decide), ↓l_up (m := 16) (by decide), ↓l_up (m := 20) (by decide), ↓l_up (m := 60) (by decide), ↓l_some hI, ↓m_o, ↓hq, ↓c_v_some]
    · rw [show nI 10 = 10 from rfl]
      refine stp_call (p_takeAway hJ (v := upV a 6) (x := smeV s (upV a 6) b)) (fun g fs n u hw e g' hq Q => ?_)
      subst e
      rw [st_turn]
      simp only [↓u93_17_c10, ↓u93_158, ↓u93_159, ↓u93_161, ↓u93_162, ↓u93_164, ↓u93_165, ↓u93_168, ↓u93_171, ↓l_up (m := 3) (by decide), ↓l_up (m := 4) (by decide), ↓l_up (m := 5) (by decide), ↓l_up (m := 6) (by decide), ↓l_up (m := 7) (by decide), ↓l_up (m := 12) (by decide), ↓l_up (m := 15) (by decide), ↓l_up (m := 16) (by decide), ↓l_up (m := 20) (by decide), ↓l_up (m := 60) (by decide), ↓l_some hI, ↓m_o, ↓hq, ↓c_v_some]
    · rw [show nI 11 = 11 from rfl]
      refine stp_call (p_move hJ (v := upV a 6) (x := smeV s (upV a 6) b) (y := upV (b >>> (8 &&& 31)) 20) (z := upV (a >>> (4 &&& 31)) 3)) (fun g fs n u hw e g' hq Q => ?_)
      subst e
      rw [st_turn]
      simp only [↓u93_17_c11, ↓u93_172, ↓u93_173, ↓u93_175, ↓u93_176, ↓u93_178, ↓u93_179, ↓u93_182, ↓u93_183, ↓u93_185, ↓u93_186, ↓u93_188, ↓u93_191, ↓u93_192, ↓u93_193, ↓u93_194, ↓u93_195, ↓u93_198, ↓u93_201, ↓l_up (m := 3) (by decide), ↓l_up (m := 4) (by decide), ↓l_up (m := 5) (by decide), ↓l_up (m := 6) (by decide), ↓l_up (m := 7) (by decide), ↓l_up (m := 12) (by decide), ↓l_up (m := 15) (by decide), ↓l_up (m := 16) (by decide), ↓l_up (m := 20) (by decide), ↓l_up (m := 60) (by decide), ↓l_some hI, ↓m_o, ↓hq, ↓c_v_some]
    · rw [show nI 12 = 12 from rfl]
      refine stp_call (p_move hJ (v := upV a 6) (x := smeV s (upV a 6) b) (y := upV (b >>> (8 &&& 31)) 20) (z := upV (a >>> (4 &&& 31)) 3)) (fun g fs n u hw e g' hq Q => ?_)
      subst e
      rw [st_turn]
      simp only [↓u93_17_c12, ↓u93_172, ↓u93_173, ↓u93_175, ↓u93_176, ↓u93_178, ↓u93_179, ↓u93_182, ↓u93_183, ↓u93_185, ↓u93_186, ↓u93_188, ↓u93_191, ↓u93_192, ↓u93_193, ↓u93_194, ↓u93_195, ↓u93_198, ↓u93_201, ↓l_up (m := 3) (by decide), ↓l_up (m := 4) (by decide), ↓l_up (m := 5) (by decide), ↓l_up (m := 6) (by decide), ↓l_up (m := 7) (by decide), ↓l_up (m := 12) (by decide), ↓l_up (m := 15) (by decide), ↓l_up (m := 16) (by decide), ↓l_up (m := 20) (by decide), ↓l_up (m := 60) (by decide), ↓l_some hI, ↓m_o, ↓hq, ↓c_v_some]
    · rw [show nI 13 = 13 from rfl]
      refine stp_call (p_swap hJ (v := upV a 6) (x := smeV s (upV a 6) b) (y := upV (a >>> (4 &&& 31)) 6) (z := smeV s (upV (a >>> (4 &&& 31)) 6) (b >>> (8 &&& 31)))) (fun g fs n u hw e g' hq Q => ?_)
      subst e
      rw [st_turn]
      simp only [↓u93_17_c13, ↓u93_202, ↓u93_203, ↓u93_205, ↓u93_206, ↓u93_208, ↓u93_209, ↓u93_212, ↓u93_213, ↓u93_214, ↓u93_215, ↓u93_217, ↓u93_220, ↓u93_221, ↓u93_222, ↓u93_223, ↓u93_224, ↓u93_226, ↓u93_229, ↓u93_230, ↓u93_232, ↓u93_233, ↓u93_236, ↓u93_239, ↓l_up (m := 3) (by decide), ↓l_up (m := 4) (by decide), ↓l_up (m := 5) (by decide), ↓l_up (m := 6) (by decide), ↓l_up (m := 7) (by decide), ↓l_up (m := 12) (by decide), ↓l_up (m := 15) (by decide), ↓l_up (m := 16) (by decide), ↓l_up (m := 20) (by decide), ↓l_up (m := 60) (by decide), ↓l_some hI, ↓m_o, ↓hq, ↓c_v_some]
    · rw [show nI 14 = 14 from rfl]
      by_cases hz : a &&& 15 = 0
      · skip
        refine stp_call (p_setCycle hJ (x := (2 : Int32) + upV b 7) (y := (2 : Int32) + upV (b >>> (4 &&& 31)) 5)) (fun g fs n u hw e g' hq Q => ?_)
        subst e
        rw [st_turn]
        simp only [↓u93_17_c14, ↓u93_240, ↓u93_241, ↓u93_243, ↓u93_244, ↓u93_247, ↓u93_248, ↓u93_249, ↓u93_250, ↓u93_252, ↓u93_255, ↓u93_256, ↓u93_257, ↓u93_258, ↓u93_259, ↓u93_260, ↓u93_261, ↓u93_264, ↓u93_265, ↓u93_268, ↓u93_271, ↓u93_272, ↓u93_274, ↓u93_277, ↓l_up (m := 3) (by decide), ↓l_up (m := 4) (by decide), ↓l_up (m := 5) (by decide), ↓l_up (m := 6) (by decide), ↓l_up (m := 7) (by decide), ↓l_up (m := 12) (by decide), ↓l_up (m := 15) (by decide), ↓l_up (m := 16) (by decide), ↓l_up (m := 20) (by decide), ↓l_up (m := 60) (by decide), hz, if_true, if_false, ↓l_some hI, ↓m_o, ↓hq, ↓c_v_some]
      · skip
        refine stp_call (p_fill hJ (v := upV a 6)) (fun g fs n u hw e g' hq Q => ?_)
        subst e
        rw [st_turn]
        simp only [↓u93_17_c14, ↓u93_240, ↓u93_241, ↓u93_243, ↓u93_244, ↓u93_247, ↓u93_248, ↓u93_249, ↓u93_250, ↓u93_252, ↓u93_255, ↓u93_256, ↓u93_257, ↓u93_258, ↓u93_259, ↓u93_260, ↓u93_261, ↓u93_264, ↓u93_265, ↓u93_268, ↓u93_271, ↓u93_272, ↓u93_274, ↓u93_277, ↓l_up (m := 3) (by decide), ↓l_up (m := 4) (by decide), ↓l_up (m := 5) (by decide), ↓l_up (m := 6) (by decide), ↓l_up (m := 7) (by decide), ↓l_up (m := 12) (by decide), ↓l_up (m := 15) (by decide), ↓l_up (m := 16) (by decide), ↓l_up (m := 20) (by decide), ↓l_up (m := 60) (by decide), hz, if_true, if_false, ↓l_some hI, ↓m_o, ↓hq, ↓c_v_some]
  · have hb := big (N := 15) (by decide) k3
    have hb2 : w.toInt < 0 ∨ 14 < w.toInt := by omega
    refine stp_call (p_any hJ (a := a) (b := b)) (fun g fs n u hw e g' hq Q => ?_)
    rw [st_turn]
    simp only [↓u93_17_d hb2, ↓u93_278, ↓u93_279, ↓u93_280, ↓u93_281, ↓u93_284, ↓m_o, ↓hq, ↓c_v_some]
end
